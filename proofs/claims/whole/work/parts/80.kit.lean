/-! PART 80: constructors: contracts over one new cell. -/
theorem na_P {D : va_G} {cl : List vw_C} {ws ws' : va_W} {H : Heap} (hp : ws.Perm ws') (h : va_P D cl ws H) : va_P D cl ws' H := fun k q hk => by
  obtain ⟨i, hi⟩ := List.getElem?_of_mem (hp.mem_iff.mpr (List.mem_of_getElem? hk))
  exact h i q hi
theorem na_rotP {D : va_G} {cl : List vw_C} {H : Heap} (E : va_W) {S m : va_W} (h : va_P D cl (E ++ S ++ m) H) : va_P D cl (E ++ (m ++ S)) H := by
  rw [← List.append_assoc]
  exact h.swap
theorem na_rotD {A : Nat → Prop} (E : va_W) {S m : va_W} (h : va_D A (E ++ S ++ m)) : va_D A (E ++ (m ++ S)) := by
  rw [← List.append_assoc]
  exact h.swap
def na_nX (i : Nat) (C : String) : Cond := .methodLinkNest "OneSledgeForTwo" i ⟨C, "<init>", "()V"⟩ "OneSledgeForTwo"
/-- words beside the tables' good ones -/
def na_AO (U : State) : Prop := va_AO "OneSledgeForTwo$Rider" U ∧ va_AO "OneSledgeForTwo$Hill" U ∧ va_AO "OneSledgeForTwo$Shelf" U ∧ va_Nw (na_nX 24 "OneSledgeForTwo$Sharing") U ∧ va_Nw (na_nX 31 "OneSledgeForTwo$Reader") U ∧ va_Nw (na_nX 45 "OneSledgeForTwo$Trace") U ∧ va_Nw (na_nX 64 "OneSledgeForTwo$Shelf") U
theorem na_AO.warm {u U : State} (hW : u.WarmedH U.vm) (h : na_AO u) : na_AO U := ⟨h.1.moved hW.alike, h.2.1.moved hW.alike, h.2.2.1.moved hW.alike, va_Nw.warmM hW h.2.2.2.1, va_Nw.warmM hW h.2.2.2.2.1, va_Nw.warmM hW h.2.2.2.2.2.1, va_Nw.warmM hW h.2.2.2.2.2.2⟩
theorem na_AO.same {u U : State} (hv : u.vm = U.vm) (h : na_AO u) : na_AO U := by
  have hal : u.vm.Alike U.vm := by rw [hv]; exact Vm.Alike.refl _
  exact ⟨h.1.moved hal, h.2.1.moved hal, h.2.2.1.moved hal, va_Nw.same rfl hv h.2.2.2.1, va_Nw.same rfl hv h.2.2.2.2.1, va_Nw.same rfl hv h.2.2.2.2.2.1, va_Nw.same rfl hv h.2.2.2.2.2.2⟩
/-- the class of arrays of a type is one -/
theorem na_one {D : va_G} {cl : List vw_C} {tys : List (ClassId × FieldType)} {U : State} {c1 c2 : ClassId} {ty : FieldType} (h : va_K D cl (tys ++ [(c2, ty)]) U) (h1 : (c1, ty) ∈ tys) : c2 = c1 := by
  have key : ∀ c, (c, ty) ∈ tys ++ [(c2, ty)] → U.vm.findClass ("[" ++ ty.toString) = some c := fun c hc => by
    obtain ⟨k, hk⟩ := List.getElem?_of_mem hc
    have := (h.2 k _ hk).2
    unfold va_RA at this
    split at this
    · rename_i C e
      obtain ⟨kA, comp, -, -, -, z⟩ := this
      simp only at e
      rw [e]; exact z
    · rename_i e
      exact this
  have a := key c1 (List.mem_append_left _ h1)
  have b := key c2 (List.mem_append_right _ (List.mem_singleton.mpr rfl))
  exact Option.some.inj (b.symm.trans a)
def na_ws (y : MethodName) (bs : ByteArray) (ml : Nat) : List Cond := .code y bs ml none :: ma_tb
def na_Ct (l : Launch) (cA : Nat → ClassId) (D : va_G) (y : MethodName) (bs : ByteArray) (ml : Nat) (ci : Nat) (fs : List Value) (As : List Value) {S : Type} (made : Nat → S → va_W) (post : S → Prop) (fr lo mc ms : Nat) : Prop := ∀ (q sz : Nat), Met l y (na_ws y bs ml) { frames := fr, cells := mc, slots := ms, locals := lo } (va_Pc (.ref q :: As) (fun U => U.heap.size = sz ∧ va_P D ma_cls [(q, .inr (ci, fs))] U.heap ∧ va_K D ma_cls (ma_ty cA) U ∧ va_D (fun _ => True) [(q, .inr (ci, fs))] ∧ na_AO U)) (va_Qv post (fun u t => va_P D ma_cls (made q u) t.heap ∧ va_D (va_A [(q, .inr (ci, fs))] sz) (made q u)) (va_A [(q, .inr (ci, fs))] sz)) mc ms (va_A [(q, .inr (ci, fs))] sz)
section NI
variable {p : Program} {l : Launch} {e : Env} {R : Room} {s : State} {m : MethodId} {args : Array Value} {below : List Frame} {meth : Method} {c : Code} {H : Heap} {locs : List Loc} {cells slots : Nat} {Q : State → Prop} {cc : ByteArray} {pc : Nat} {ls : Array Slot} {rest : List Value} {A : Nat → Prop} {H0 : Heap} {D : va_G} {cA : Nat → ClassId} {Ts : List Cond}
/-- the call of a constructor on the newest cell -/
theorem na_init {y : MethodName} {bs : ByteArray} {ml ci fr lo mc ms n nL index q : Nat} {own : String} {fs As : List Value} {S : Type} {made : Nat → S → va_W} {post : S → Prop} (hC : na_Ct l cA D y bs ml ci fs As made post fr lo mc ms) (hfix : CallFix p m c cc nL s args Ts own) (hn : As.length = n) (hG : GoodIn Ts (na_ws y bs ml)) (hini : (Cond.initialized y.cls) ∈ Ts) (hl : (Cond.methodLink own index y) ∈ Ts ∨ va_Nw (.methodLinkNest own index y "OneSledgeForTwo") s) (hinst : (Cond.instanceMethod y) ∈ Ts)
    (hd : y.name = "<init>" ∧ y.cls ≠ "java/lang/invoke/MethodHandle" ∧ y.cls ≠ "java/lang/invoke/VarHandle" ∧ (parseMethodDescriptor y.desc).map (fun d => d.parameters.length) = some n) (hR : fr + 1 ≤ R.frames ∧ 8 + (ml + 11) + lo ≤ R.locals) (hK : va_K D ma_cls (ma_ty cA) s) (hO : na_AO s) {ws : va_W} (hP : va_P D ma_cls (ws ++ [(q, .inr (ci, fs))]) H) (hD : va_D A (ws ++ [(q, .inr (ci, fs))])) (hS : va_S A H0 H locs) (hA : ∀ q, H0.size ≤ q → A q) (hsz : ls.size = nL) (hW : (rest.map fun v => v.category).sum ≤ 8) (hdg : decode cc pc = .ok (.invokespecial index, 3)) (hf : cells + mc ≤ R.cells ∧ slots + ms ≤ R.slots)
    (kk : ∀ (u : S) (H1 : Heap) (locs1 : List Loc), post u → va_P D ma_cls (ws ++ made q u) H1 → va_D A (ws ++ made q u) → va_S A H0 H1 locs1 → W p l e R s m args below meth c H1 locs1 (cells + mc) (slots + ms) Q (F0 m (pc + 3) ls rest)) : W p l e R s m args below meth c H locs cells slots Q (F0 m pc ls (As.reverse ++ .ref q :: rest)) := by
  have hq : (ws ++ [(q, (.inr (ci, fs) : va_E))])[ws.length]? = some (q, .inr (ci, fs)) := by simp
  have hPc : va_P D ma_cls [(q, .inr (ci, fs))] H := fun k x hx => by
    have : x ∈ [(q, (.inr (ci, fs) : va_E))] := List.mem_of_getElem? hx
    rw [List.mem_singleton.mp this]
    exact hP _ _ hq
  have hDc : va_D (fun _ => True) [(q, (.inr (ci, fs) : va_E))] := by
    refine ⟨fun i j x z hi hj _ => ?_, fun _ _ _ => trivial⟩
    have a := (List.getElem?_eq_some_iff.mp hi).1
    have b := (List.getElem?_eq_some_iff.mp hj).1
    simp only [List.length_singleton] at a b
    omega
  have hFc : ∀ x, va_A [(q, (.inr (ci, fs) : va_E))] H.size x → A x := fun x hx => by
    rcases hx with ⟨k, ee, hx⟩ | hx
    · have : (x, ee) ∈ [(q, (.inr (ci, fs) : va_E))] := List.mem_of_getElem? hx
      have e1 : x = q := congrArg Prod.fst (List.mem_singleton.mp this)
      rw [e1]
      exact hD.2 _ _ hq
    · exact hA x (Nat.le_trans hS.1 hx)
  have hpre : PreS s H (va_Pc (.ref q :: As) (fun U => U.heap.size = H.size ∧ va_P D ma_cls [(q, .inr (ci, fs))] U.heap ∧ va_K D ma_cls (ma_ty cA) U ∧ va_D (fun _ => True) [(q, .inr (ci, fs))] ∧ na_AO U)) (.ref q :: As) := by
    refine ⟨fun a U g mk z => ?_, fun U hU hW => ⟨rfl, by rw [hU], by rw [hU]; exact hPc, va_K.moved hW.alike hK, hDc, hO.warm hW⟩⟩
    obtain ⟨q0, q1, qP, qK, qD, qO⟩ := z
    exact ⟨q0, q1, qP, va_K.moved (u := U) (U := U.calling g mk a) (Vm.Alike.refl U.vm) qK, qD, na_AO.same (u := U) (U := U.calling g mk a) rfl qO⟩
  have hrun : va_Run p l e R s m args below meth c H locs cells slots mc ms (F0 m pc ls (As.reverse ++ .ref q :: rest)) rest (va_Qv post (fun u t => va_P D ma_cls (made q u) t.heap ∧ va_D (va_A [(q, .inr (ci, fs))] H.size) (made q u)) (va_A [(q, .inr (ci, fs))] H.size) (.ref q :: As).toArray) (va_A [(q, .inr (ci, fs))] H.size) := by
    rcases hl with hl | hl
    · exact va_runI (As := As) (rest := rest) (n := n) hfix (hC q H.size) ⟨callB_of n hfix.2.2.2.2 hG rfl rfl rfl (hfix.2.2.2.2 _ hini) (hfix.2.2.2.2 _ hl) ⟨hd.2.1, hd.2.2.1, hd.2.2.2⟩ hR, hd.1, hfix.2.2.2.2 _ hinst⟩ hpre rfl hn hsz rfl (lv_room hW) hdg hf
    · exact va_runIN (As := As) (rest := rest) (n := n) (host := "OneSledgeForTwo") hfix (hC q H.size) ⟨va_cnB n hfix.2.2.2.2 hG rfl rfl rfl hl (hfix.2.2.2.2 _ hini) ⟨hd.2.1, hd.2.2.1, hd.2.2.2⟩ hR, hd.1, hfix.2.2.2.2 _ hinst⟩ hpre rfl hn hsz rfl (lv_room hW) hdg hf
  refine va_callv hrun hS (fun x _ h => hFc x h) hFc (fun u t H1 locs1 ht hvm hp hB hz hk hS1 => ?_)
  · obtain ⟨hP1, hD1⟩ := hB
    rw [ht] at hP1
    have hold : ∀ (k : Nat) (x : Nat × va_E), ws[k]? = some x → x.1 < H.size ∧ ¬ va_A [(q, (.inr (ci, fs) : va_E))] H.size x.1 := fun k x hx => by
      have hkl := (List.getElem?_eq_some_iff.mp hx).1
      have h0 : (ws ++ [(q, (.inr (ci, fs) : va_E))])[k]? = some x := by rw [List.getElem?_append_left hkl]; exact hx
      have hlt := (hP k x h0).lt
      refine ⟨hlt, fun z => ?_⟩
      rcases z with ⟨k2, ee, z⟩ | z
      · have : (x.1, ee) ∈ [(q, (.inr (ci, fs) : va_E))] := List.mem_of_getElem? z
        have e1 : x.1 = q := congrArg Prod.fst (List.mem_singleton.mp this)
        have := hD.1 _ _ _ _ h0 hq e1
        omega
      · omega
    have hPw : va_P D ma_cls ws H1 := fun k x hx => by
      have h0 : (ws ++ [(q, (.inr (ci, fs) : va_E))])[k]? = some x := by rw [List.getElem?_append_left (List.getElem?_eq_some_iff.mp hx).1]; exact hx
      exact (hP k x h0).kept (hk x.1 (hold k x hx).1 (hold k x hx).2)
    have hDw : va_D A ws := by
      refine ⟨fun i j x z hi hj hxz => hD.1 i j x z (by rw [List.getElem?_append_left (List.getElem?_eq_some_iff.mp hi).1]; exact hi) (by rw [List.getElem?_append_left (List.getElem?_eq_some_iff.mp hj).1]; exact hj) hxz, fun k x hx => hD.2 k x (by rw [List.getElem?_append_left (List.getElem?_eq_some_iff.mp hx).1]; exact hx)⟩
    exact kk u H1 locs1 hp (hPw.app hP1) (hDw.app (hD1.weaken (fun _ _ _ z => hFc _ z)) (fun i j x z hi hj hxz => (hold i x hi).2 (by rw [hxz]; exact hD1.2 j z hj))) hS1
end NI
theorem na_g {y : MethodName} {bs : ByteArray} {ml : Nat} (h : Cond.code y bs ml none ∈ ma_tb) : GoodIn ma_tb (na_ws y bs ml) := fun w hw => by
  rcases List.mem_cons.mp hw with rfl | hw
  · exact ⟨h, ma_good _ h⟩
  · exact ⟨hw, ma_good _ hw⟩
/-- an array of references, told by another function that agrees on its places -/
theorem na_ext {D : va_G} {cl : List vw_C} {H : Heap} {ws : va_W} {a n : Nat} {c : ClassId} {f g : Nat → Option Nat} (i : Nat) (h : va_P D cl ws H) (hi : ws[i]? = some (a, .inl (c, n, .inr (.inr (.inr (.inr f)))))) (e : ∀ k, k < n → f k = g k) : va_P D cl (ws.set i (a, .inl (c, n, .inr (.inr (.inr (.inr g)))))) H := by
  intro k x hx
  by_cases hk : k = i
  · subst hk
    rw [List.getElem?_set_self (List.getElem?_eq_some_iff.mp hi).1] at hx
    cases hx
    have h0 := h _ _ hi
    have e1 : vp_cell c (n, .inr (.inr (.inr (.inr f)))) = vp_cell c (n, .inr (.inr (.inr (.inr g)))) := by
      rw [vp_cell_q, vp_cell_q]
      unfold arrV
      congr 1
      refine congrArg _ (funext fun j => ?_)
      show va_rf (f j.val) = va_rf (g j.val)
      rw [e j.val j.isLt]
    show H[a]? = some (vp_cell c (n, .inr (.inr (.inr (.inr g)))))
    rw [← e1]
    exact h0
  · rw [List.getElem?_set_ne (Ne.symm hk)] at hx
    exact h k x hx
