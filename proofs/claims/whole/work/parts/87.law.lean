/-! PART 87: the law's rows: a call, an argument. -/
theorem la_ret {n d μ : Nat} {r : Option ma_V} {σe : ma_S} : ∀ (pc : Nat) (ls : ma_L) (st : List ma_V) (σ : ma_S), ma_xF n d μ pc ls st σ = some (r, σe) → (ma_rt μ = 1 → ∃ x, r = some (vI x)) ∧ (ma_rt μ = 5 → ∃ x, r = some (vL x)) := by
  induction n with
  | zero => intro pc ls st σ h; simp [ma_xF] at h
  | succ n ih =>
    intro pc ls st σ h
    rw [ma_xF] at h
    split at h
    · cases h
    · rename_i q hq
      cases h
      unfold ma_nx at hq
      split at hq
      · rename_i ins len e
        rcases ma_st_ret_inv hq with rfl | rfl | rfl | rfl
        · simp only [ma_st] at hq
          split at hq
          · rename_i x
            split at hq
            · rename_i e1
              cases hq
              exact ⟨fun _ => ⟨x, rfl⟩, fun z => absurd (e1.symm.trans z) (by decide)⟩
            · rename_i e1
              exact ⟨fun z => absurd (e1.symm.trans z) (by decide), fun z => absurd (e1.symm.trans z) (by decide)⟩
            · rename_i e1
              exact ⟨fun z => absurd (e1.symm.trans z) (by decide), fun z => absurd (e1.symm.trans z) (by decide)⟩
            · rename_i e1
              exact ⟨fun z => absurd (e1.symm.trans z) (by decide), fun z => absurd (e1.symm.trans z) (by decide)⟩
            · cases hq
          · cases hq
        · simp only [ma_st] at hq
          split at hq
          · rename_i x e1
            cases hq
            exact ⟨fun z => absurd (e1.symm.trans z) (by decide), fun _ => ⟨x, rfl⟩⟩
          · cases hq
        · simp only [ma_st] at hq
          split at hq
          · rename_i x1 x2 x3 e1
            exact ⟨fun z => absurd (e1.symm.trans z) (by decide), fun z => absurd (e1.symm.trans z) (by decide)⟩
          · cases hq
        · simp only [ma_st] at hq
          split at hq
          · rename_i e1
            exact ⟨fun z => absurd (e1.symm.trans z) (by decide), fun z => absurd (e1.symm.trans z) (by decide)⟩
          · cases hq
      · cases hq
    · exact ih _ _ _ _ h
    · split at h
      · cases h
      · split at h
        · cases h
        · exact ih _ _ _ _ h
theorem la_i {d μ : Nat} {as : List ma_V} {σ σ' : ma_S} {r : Option ma_V} (h : ma_cal (d + 1) μ as σ = some (r, σ')) (ht : ma_rt μ = 1) : ∃ x, r = some (vI x) := by
  obtain ⟨n, hn⟩ := ma_ex_iff.mp h
  exact (la_ret _ _ _ _ hn).1 ht
theorem la_l {d μ : Nat} {as : List ma_V} {σ σ' : ma_S} {r : Option ma_V} (h : ma_cal (d + 1) μ as σ = some (r, σ')) (ht : ma_rt μ = 5) : ∃ x, r = some (vL x) := by
  obtain ⟨n, hn⟩ := ma_ex_iff.mp h
  exact (la_ret _ _ _ _ hn).2 ht
def na_A (φ : ma_F) (un : List ma_Q) (a : Nat) : Prop := ∃ q ∈ un, ma_ad φ q = a
theorem ma_Old.narrow {φ : ma_F} {fv : Value} {A B : Nat → Prop} {U : State} {H : Heap} (h : ma_Old φ fv A U H) (hAB : ∀ q, B q → A q) : ma_Old φ fv B U H := by
  obtain ⟨h1, h2, h3, h4, h5, h6⟩ := h
  exact ⟨fun i hi => ⟨(h1 i hi).1.narrow hAB, (h1 i hi).2.narrow hAB⟩, h2.narrow hAB, h3.narrow hAB, fun w hw => ⟨(h4 w hw).1.narrow hAB, (h4 w hw).2.1.narrow hAB, (h4 w hw).2.2.1.narrow hAB, (h4 w hw).2.2.2.1.narrow hAB, (h4 w hw).2.2.2.2⟩, h5, h6⟩
section LA
variable {p : Program} {l : Launch} {e : Env} {s : State} {m : MethodId} {below : List Frame} {meth : Method} {c : Code} {b : Nat} {φ : ma_F} {fv : Value} {cA : Nat → ClassId} {D : va_G} {AX : Nat → Prop} {un : List ma_Q} {H : Heap} {locs : List Loc} {cells slots pc : Nat} {Q : State → Prop} {ls : Array Slot} {rest : List Value}
/-- a call of the law -/
theorem la_call {μ i k d g : Nat} {as0 : List ma_V} {r : Option ma_V} {σ σ' : ma_S} (hx : p.tables.exec = Jvm.exec) (hb : c.code = code) (hml : c.maxLocals = 4) (hown : s.vm.findClass R_law = some m.cls) (hts : ∀ w ∈ ma_tb, w.before #[Value.ref b] s = true) (hK : va_K D ma_cls (ma_ty cA) s)
    (hcal : ma_cal (d + 1) μ (vR g 0 0 :: as0) σ = some (r, σ')) (hd : d ≤ 20) (hμ : μ < 210) (hun : ma_un un) (hfv : fv = .null ∨ ∃ a, fv = .ref a) (hD : ∀ σ, va_D AX (ma_ws φ cA σ un)) (hg : g = ma_gc (ma_cl μ) ∧ ma_cl μ < 9) (hgu : (g, 0, 0) ∈ un) (hi0 : ∀ v ∈ as0, ma_ok un v) (hlen : (ma_en (vR g 0 0 :: as0)).length ≤ ma_ml μ) (hk : as0.length = k)
    (hl1 : Cond.methodLink R_law i (ma_nm μ) ∈ ma_tb) (hl2 : Cond.instanceMethod (ma_nm μ) ∈ ma_tb) (hl3 : Cond.selects (ma_cn (ma_cl μ)) (ma_nm μ) (ma_nm μ) ∈ ma_tb) (hl4 : (parseMethodDescriptor (ma_nm μ).desc).map (fun d => d.parameters.length) = some k)
    (hO : ma_Old φ fv AX s H) (hP : va_P D ma_cls (ma_ws φ cA σ un) H) (hsub : ∀ q, AX q → s.heap.size ≤ q) (hS : va_S (fun q : Nat => s.heap.size ≤ q) s.heap H locs) (hsz : ls.size = 4) (hrest : (rest.map fun v => v.category).sum ≤ 8) (hdec : decode code pc = .ok (.invokevirtual i, 3)) (hf : cells ≤ room_1.cells ∧ slots ≤ room_1.slots)
    (kk : ∀ (H1 : Heap) (locs1 : List Loc), va_P D ma_cls (ma_ws φ cA σ' un) H1 → (∀ q : Nat, q < H.size → ¬ AX q → H1[q]? = H[q]?) → va_S (fun q : Nat => s.heap.size ≤ q) s.heap H1 locs1 → W p l e room_1 s m #[Value.ref b] below meth c H1 locs1 cells slots Q (F0 m (pc + 3) ls ((r.map (ma_tv φ fv)).toList ++ rest))) : W p l e room_1 s m #[Value.ref b] below meth c H locs cells slots Q (F0 m pc ls ((as0.map (ma_tv φ fv)).reverse ++ .ref (φ g 0 0) :: rest)) := by
  have MP := ma_mP_ok μ hμ
  obtain ⟨hg, hcl⟩ := hg
  have hgn := ma_gc9 _ hcl
  have hS0 : ma_okS un (vR g 0 0 :: as0) := fun v hv => by
    rcases List.mem_cons.mp hv with rfl | hv
    · exact Or.inl hgu
    · exact hi0 v hv
  have hM := ma_sound (l := l) (D := D) hun hfv hD d μ _ σ r σ' hμ hS0 hlen hcal
  have hb1 : ma_tv φ fv (vR g 0 0) = .ref (φ g 0 0) := ma_tvR (by rw [hg]; exact hgn.2.2.2.2.2.2.2.2)
  have hcell : ∃ cell : Cell, H[φ g 0 0]? = some cell ∧ cell.vm.isStatics = false ∧ s.vm.findClass (ma_cn (ma_cl μ)) = some cell.cls := by
    obtain ⟨k0, hk0, hw0⟩ := ma_ws_at (φ := φ) (cA := cA) (σ := σ) hgu
    rw [ma_ce_obj (by rw [hg]; exact ⟨hgn.1, hgn.2.1, hgn.2.2.1, hgn.2.2.2.1, hgn.2.2.2.2.1⟩)] at hw0
    have hcg : ma_cg g = ma_cl μ := by
      have hh : ∀ c, c < 9 → ma_cg (ma_gc c) = c := by decide
      rw [hg]
      exact hh _ hcl
    rw [hcg] at hw0
    exact va_recv hK hP (ma_cls9 _ hcl) hw0
  have hR1 : (ma_room d).frames + 1 ≤ room_1.frames := by
    show d + 1 + 1 ≤ 2048
    omega
  have hR2 : 8 + (ma_ml μ + 11) + (ma_room d).locals ≤ room_1.locals := by
    show 8 + (ma_ml μ + 11) + (40 * d + 60) ≤ 84000
    have := MP.2.2.2.2.2
    omega
  have hcw : CallW room_1 s #[Value.ref b] R_law (ma_cn (ma_cl μ)) i (ma_nm μ) (ma_by μ) (ma_ml μ) (ma_rf_ μ) (ma_mws μ) (ma_room d) 0 0 k :=
    ⟨⟨rfl, rfl, hR1, hR2, pay_in hts (ma_goodIn hμ), List.mem_cons_self, hts _ MP.1, by have z := hts _ MP.2.1; rw [← MP.2.2.2.1] at z; exact z, MP.2.2.2.2.1, fun sig hs => by rw [hs] at hl4; exact (Option.some.inj hl4).symm, hts _ hl1⟩, hts _ hl2, hts _ hl3⟩
  have hrun := va_runV (g := F0 m pc ls ((as0.map (ma_tv φ fv)).reverse ++ .ref (φ g 0 0) :: rest)) (b := φ g 0 0) (As := as0.map (ma_tv φ fv)) (rest := rest) (p := p) (l := l) (e := e) (below := below) (meth := meth) (locs := locs) (cells := cells) (slots := slots) (H := H) (nL := 4) (Ts := ma_tb) ⟨hx, hb, hml, hown, hts⟩ hM hcw
    ⟨ma_blind _ _, hcell, fun U hU hW => ⟨by rw [List.map_cons, hb1], by rw [hU]; exact hP, va_K.moved hW.alike hK, by rw [hU]; exact hO.warm hW⟩⟩ rfl (by rw [List.length_map]; exact hk) hsz rfl (lv_room hrest) hdec hf
  intro T hT X
  obtain ⟨v, st₀, t, T', L, h0, X', hL, e1, e2, ⟨⟨hv, hp⟩, hz, hkk⟩, st⟩ := hrun T hT X
  have hv2 : v = r.map (ma_tv φ fv) := by injection hv
  subst hv2
  rw [h0] at hz hkk
  obtain ⟨t2, a1, b1⟩ := kk T'.heap (locs ++ L) (by rw [e1]; exact hp) (fun q h1 h2 => by rw [e1]; exact hkk q h1 h2)
    ⟨Nat.le_trans hS.1 (by rw [e1]; exact hz), fun q h1 h2 => by rw [e1, hkk q (Nat.lt_of_lt_of_le h1 hS.1) (fun z => h2 (hsub q z))]; exact hS.2.1 q h1 h2, fun q hq => by
      rcases List.mem_append.mp hq with h | h
      · exact hS.2.2 q h
      · exact hsub _ (hL q h)⟩ T' rfl X'
  exact ⟨t2, st t2 a1, b1⟩
def la_dec (pc : Nat) (k : Int) : Prop := decode code pc = .ok (.aload_n 0, 1) ∧ decode code (pc + 1) = .ok (.iload_n 3, 1) ∧ decode code (pc + 2) = .ok (.iconst k, 1) ∧ decode code (pc + 3) = .ok (.iadd, 1) ∧ decode code (pc + 4) = .ok (.iaload, 1)
/-- an argument out of the script -/
theorem la_arg {L n k qX qM : Nat} {z : Int} {xs : Nat → Int32} (hx : p.tables.exec = Jvm.exec) (hb : c.code = code) (hX : va_X b L xs s s.heap) (hbl : b < s.heap.size) (hS : va_S (fun q : Nat => s.heap.size ≤ q) s.heap H locs) (hl : lv_has ls 4 [(0, .ref b), (1, .ref qX), (2, .ref qM), (3, .int (nI n))]) (hk : n + k < L) (hL : L ≤ 3072) (hz : Int32.ofInt z = nI k) (hd : la_dec pc z)
    (kk : W p l e room_1 s m #[Value.ref b] below meth c H locs cells slots Q (F0 m (pc + 5) ls (.int (xs (n + k)) :: rest))) : W p l e room_1 s m #[Value.ref b] below meth c H locs cells slots Q (F0 m pc ls rest) := by
  obtain ⟨d0, d1, d2, d3, d4⟩ := hd
  have e : nI n + nI k = nI (n + k) := nI_add n k
  have hin : vp_in (nI (n + k)) L := vp_in_nI hk (by omega)
  refine lv_aload_n hx hb d0 rfl (lv_at hl 0 rfl) ?_
  refine lv_iload_n hx hb d1 rfl (lv_at hl 3 rfl) ?_
  refine lv_iconst hx hb d2 hz ?_
  refine lv_iadd hx hb d3 ?_
  rw [e]
  refine va_sld hx hb hX hbl (Nat.not_le.mpr hbl) hS hin d4 ?_
  rw [nI_clamp (by omega)]
  exact kk
end LA
