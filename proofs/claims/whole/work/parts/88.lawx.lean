/-! PART 88: the law's calls of the two objects, in one context. -/
def la_Ctx (p : Program) (s : State) (m : MethodId) (meth : Method) (c : Code) (b L : Nat) (xs : Nat → Int32) (φ : ma_F) (fv : Value) (cA : Nat → ClassId) (D : va_G) (qX qM : Nat) : Prop :=
  (p.tables.exec = Jvm.exec) ∧ (c.code = code) ∧ (c.maxLocals = 4) ∧ (s.vm.findClass R_law = some m.cls) ∧ (∀ w ∈ ma_tb, w.before #[Value.ref b] s = true) ∧ (va_K D ma_cls (ma_ty cA) s) ∧ (va_X b L xs s s.heap) ∧ (b < s.heap.size) ∧ (L ≤ 3072) ∧ (fv = .null ∨ ∃ a, fv = .ref a) ∧ (∀ σ, va_D (na_A φ na_unX) (ma_ws φ cA σ na_unX)) ∧ (∀ σ, va_D (na_A φ na_unM) (ma_ws φ cA σ na_unM)) ∧ (∀ q, na_A φ na_unX q → s.heap.size ≤ q) ∧ (∀ q, na_A φ na_unM q → s.heap.size ≤ q) ∧ (∀ q, na_A φ na_unX q → ¬ na_A φ na_unM q) ∧ (φ 1 0 0 = qX) ∧ (φ 20 0 0 = qM) ∧ (ma_Old φ fv (fun q => s.heap.size ≤ q) s s.heap)
section CX
variable {p : Program} {s : State} {m : MethodId} {meth : Method} {c : Code} {b L : Nat} {xs : Nat → Int32} {φ : ma_F} {fv : Value} {cA : Nat → ClassId} {D : va_G} {qX qM : Nat}
theorem la_Ctx.hx (C : la_Ctx p s m meth c b L xs φ fv cA D qX qM) : p.tables.exec = Jvm.exec := C.1
theorem la_Ctx.hb (C : la_Ctx p s m meth c b L xs φ fv cA D qX qM) : c.code = code := C.2.1
theorem la_Ctx.hml (C : la_Ctx p s m meth c b L xs φ fv cA D qX qM) : c.maxLocals = 4 := C.2.2.1
theorem la_Ctx.hown (C : la_Ctx p s m meth c b L xs φ fv cA D qX qM) : s.vm.findClass R_law = some m.cls := C.2.2.2.1
theorem la_Ctx.hts (C : la_Ctx p s m meth c b L xs φ fv cA D qX qM) : ∀ w ∈ ma_tb, w.before #[Value.ref b] s = true := C.2.2.2.2.1
theorem la_Ctx.hK (C : la_Ctx p s m meth c b L xs φ fv cA D qX qM) : va_K D ma_cls (ma_ty cA) s := C.2.2.2.2.2.1
theorem la_Ctx.hX (C : la_Ctx p s m meth c b L xs φ fv cA D qX qM) : va_X b L xs s s.heap := C.2.2.2.2.2.2.1
theorem la_Ctx.hbl (C : la_Ctx p s m meth c b L xs φ fv cA D qX qM) : b < s.heap.size := C.2.2.2.2.2.2.2.1
theorem la_Ctx.hL (C : la_Ctx p s m meth c b L xs φ fv cA D qX qM) : L ≤ 3072 := C.2.2.2.2.2.2.2.2.1
theorem la_Ctx.hfv (C : la_Ctx p s m meth c b L xs φ fv cA D qX qM) : fv = .null ∨ ∃ a, fv = .ref a := C.2.2.2.2.2.2.2.2.2.1
theorem la_Ctx.hDX (C : la_Ctx p s m meth c b L xs φ fv cA D qX qM) : ∀ σ, va_D (na_A φ na_unX) (ma_ws φ cA σ na_unX) := C.2.2.2.2.2.2.2.2.2.2.1
theorem la_Ctx.hDM (C : la_Ctx p s m meth c b L xs φ fv cA D qX qM) : ∀ σ, va_D (na_A φ na_unM) (ma_ws φ cA σ na_unM) := C.2.2.2.2.2.2.2.2.2.2.2.1
theorem la_Ctx.hsX (C : la_Ctx p s m meth c b L xs φ fv cA D qX qM) : ∀ q, na_A φ na_unX q → s.heap.size ≤ q := C.2.2.2.2.2.2.2.2.2.2.2.2.1
theorem la_Ctx.hsM (C : la_Ctx p s m meth c b L xs φ fv cA D qX qM) : ∀ q, na_A φ na_unM q → s.heap.size ≤ q := C.2.2.2.2.2.2.2.2.2.2.2.2.2.1
theorem la_Ctx.hXM (C : la_Ctx p s m meth c b L xs φ fv cA D qX qM) : ∀ q, na_A φ na_unX q → ¬ na_A φ na_unM q := C.2.2.2.2.2.2.2.2.2.2.2.2.2.2.1
theorem la_Ctx.hqX (C : la_Ctx p s m meth c b L xs φ fv cA D qX qM) : φ 1 0 0 = qX := C.2.2.2.2.2.2.2.2.2.2.2.2.2.2.2.1
theorem la_Ctx.hqM (C : la_Ctx p s m meth c b L xs φ fv cA D qX qM) : φ 20 0 0 = qM := C.2.2.2.2.2.2.2.2.2.2.2.2.2.2.2.2.1
theorem la_Ctx.hO (C : la_Ctx p s m meth c b L xs φ fv cA D qX qM) : ma_Old φ fv (fun q => s.heap.size ≤ q) s s.heap := C.2.2.2.2.2.2.2.2.2.2.2.2.2.2.2.2.2
end CX
def la_Wd (φ : ma_F) (cA : Nat → ClassId) (D : va_G) (x y : ma_S) (H : Heap) : Prop := va_P D ma_cls (ma_ws φ cA x na_unX) H ∧ va_P D ma_cls (ma_ws φ cA y na_unM) H
theorem na_ws_in {φ : ma_F} {cA : Nat → ClassId} {σ : ma_S} {un : List ma_Q} {k : Nat} {q : Nat × va_E} (h : (ma_ws φ cA σ un)[k]? = some q) : na_A φ un q.1 := by
  rw [ma_ws, List.getElem?_map] at h
  cases hu : un[k]? with
  | none => rw [hu] at h; cases h
  | some z =>
    rw [hu] at h
    cases h
    exact ⟨z, List.mem_of_getElem? hu, rfl⟩
section LX
variable {p : Program} {l : Launch} {e : Env} {s : State} {m : MethodId} {below : List Frame} {meth : Method} {c : Code} {b L : Nat} {xs : Nat → Int32} {φ : ma_F} {fv : Value} {cA : Nat → ClassId} {D : va_G} {qX qM : Nat} {H : Heap} {locs : List Loc} {cells slots pc : Nat} {Q : State → Prop} {ls : Array Slot} {rest : List Value}
theorem la_O (C : la_Ctx p s m meth c b L xs φ fv cA D qX qM) (hS : va_S (fun q : Nat => s.heap.size ≤ q) s.heap H locs) {B : Nat → Prop} (hB : ∀ q, B q → s.heap.size ≤ q) : ma_Old φ fv B s H := (C.hO.kept hS.2.1).narrow hB
/-- a call of the system -/
theorem la_X {μ i k d : Nat} {as0 : List ma_V} {r : Option ma_V} {x x' y : ma_S} (C : la_Ctx p s m meth c b L xs φ fv cA D qX qM) (hcal : ma_cal (d + 1) μ (vR 1 0 0 :: as0) x = some (r, x')) (hd : d ≤ 20) (hμ : μ < 210 ∧ ma_cl μ = 7) (hi0 : ∀ v ∈ as0, ma_ok na_unX v) (hlen : (ma_en (vR 1 0 0 :: as0)).length ≤ ma_ml μ) (hk : as0.length = k)
    (hl1 : Cond.methodLink R_law i (ma_nm μ) ∈ ma_tb) (hl2 : Cond.instanceMethod (ma_nm μ) ∈ ma_tb) (hl3 : Cond.selects (ma_cn 7) (ma_nm μ) (ma_nm μ) ∈ ma_tb) (hl4 : (parseMethodDescriptor (ma_nm μ).desc).map (fun d => d.parameters.length) = some k)
    (hW : la_Wd φ cA D x y H) (hS : va_S (fun q : Nat => s.heap.size ≤ q) s.heap H locs) (hsz : ls.size = 4) (hrest : (rest.map fun v => v.category).sum ≤ 8) (hdec : decode code pc = .ok (.invokevirtual i, 3)) (hf : cells ≤ room_1.cells ∧ slots ≤ room_1.slots)
    (kk : ∀ (H1 : Heap) (locs1 : List Loc), la_Wd φ cA D x' y H1 → va_S (fun q : Nat => s.heap.size ≤ q) s.heap H1 locs1 → W p l e room_1 s m #[Value.ref b] below meth c H1 locs1 cells slots Q (F0 m (pc + 3) ls ((r.map (ma_tv φ fv)).toList ++ rest))) : W p l e room_1 s m #[Value.ref b] below meth c H locs cells slots Q (F0 m pc ls ((as0.map (ma_tv φ fv)).reverse ++ .ref qX :: rest)) := by
  rw [← C.hqX]
  refine la_call C.hx C.hb C.hml C.hown C.hts C.hK hcal hd hμ.1 na_unX_ok C.hfv C.hDX ⟨by rw [hμ.2]; rfl, by rw [hμ.2]; decide⟩ (by decide +kernel) hi0 hlen hk hl1 hl2 (by rw [hμ.2]; exact hl3) hl4 (la_O C hS C.hsX) hW.1 C.hsX hS hsz hrest hdec hf (fun H1 locs1 h1 h2 h3 => kk H1 locs1 ⟨h1, hW.2.kept (fun k q hq => ?_)⟩ h3)
  exact h2 q.1 ((hW.2 k q hq).lt) (fun z => C.hXM _ z (na_ws_in hq))
/-- a call of the model -/
theorem la_M {μ i k d : Nat} {as0 : List ma_V} {r : Option ma_V} {x y y' : ma_S} (C : la_Ctx p s m meth c b L xs φ fv cA D qX qM) (hcal : ma_cal (d + 1) μ (vR 20 0 0 :: as0) y = some (r, y')) (hd : d ≤ 20) (hμ : μ < 210 ∧ ma_cl μ = 8) (hi0 : ∀ v ∈ as0, ma_ok na_unM v) (hlen : (ma_en (vR 20 0 0 :: as0)).length ≤ ma_ml μ) (hk : as0.length = k)
    (hl1 : Cond.methodLink R_law i (ma_nm μ) ∈ ma_tb) (hl2 : Cond.instanceMethod (ma_nm μ) ∈ ma_tb) (hl3 : Cond.selects (ma_cn 8) (ma_nm μ) (ma_nm μ) ∈ ma_tb) (hl4 : (parseMethodDescriptor (ma_nm μ).desc).map (fun d => d.parameters.length) = some k)
    (hW : la_Wd φ cA D x y H) (hS : va_S (fun q : Nat => s.heap.size ≤ q) s.heap H locs) (hsz : ls.size = 4) (hrest : (rest.map fun v => v.category).sum ≤ 8) (hdec : decode code pc = .ok (.invokevirtual i, 3)) (hf : cells ≤ room_1.cells ∧ slots ≤ room_1.slots)
    (kk : ∀ (H1 : Heap) (locs1 : List Loc), la_Wd φ cA D x y' H1 → va_S (fun q : Nat => s.heap.size ≤ q) s.heap H1 locs1 → W p l e room_1 s m #[Value.ref b] below meth c H1 locs1 cells slots Q (F0 m (pc + 3) ls ((r.map (ma_tv φ fv)).toList ++ rest))) : W p l e room_1 s m #[Value.ref b] below meth c H locs cells slots Q (F0 m pc ls ((as0.map (ma_tv φ fv)).reverse ++ .ref qM :: rest)) := by
  rw [← C.hqM]
  refine la_call C.hx C.hb C.hml C.hown C.hts C.hK hcal hd hμ.1 na_unM_ok C.hfv C.hDM ⟨by rw [hμ.2]; rfl, by rw [hμ.2]; decide⟩ (by decide +kernel) hi0 hlen hk hl1 hl2 (by rw [hμ.2]; exact hl3) hl4 (la_O C hS C.hsM) hW.2 C.hsM hS hsz hrest hdec hf (fun H1 locs1 h1 h2 h3 => kk H1 locs1 ⟨hW.1.kept (fun k q hq => ?_), h1⟩ h3)
  exact h2 q.1 ((hW.1 k q hq).lt) (fun z => C.hXM _ (na_ws_in hq) z)
end LX
theorem ma_okI {un : List ma_Q} {as : List ma_V} (h : ∀ v ∈ as, ∃ x : Int32, v = vI x) : ∀ v ∈ as, ma_ok un v := fun v hv => by
  obtain ⟨x, rfl⟩ := h v hv
  exact trivial
