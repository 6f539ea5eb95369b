/-! PART 09c: whole runs: every method's contract out of a run of the small machine. -/
def ma_okR (v : ma_V) : Prop := match v with
  | .inr (.inr q) => q.1 = 41 ∧ q.2.1 < 8 ∧ q.2.2 = 0
  | _ => True
theorem ma_okR_ok {un : List ma_Q} {v : ma_V} (h : ma_okR v) : ma_ok un v := by
  match v, h with
  | .inl _, _ => trivial
  | .inr (.inl _), _ => trivial
  | .inr (.inr q), h => exact Or.inr (Or.inr (Or.inl h))
theorem ma_lu_all {α : Type} (P : α → Bool) {l : List (Nat × α)} {i : Nat} {x : α} (h : ma_lu l i = some x) (hall : l.all (fun q => P q.2) = true) : P x = true := List.all_eq_true.mp hall _ (ma_lu_mem _ _ _ h)
theorem ma_mt_cl {c i μ' k : Nat} (h : ma_mt c i = some (0, μ', k)) : ma_cl μ' < 9 ∨ ma_gc (ma_cl μ') = 41 := by
  have key : (fun x : Nat × Nat × Nat => !(Nat.beq x.1 0) || (Nat.ble (ma_cl x.2.1 + 1) 9 || Nat.beq (ma_gc (ma_cl x.2.1)) 41)) (0, μ', k) = true := by
    unfold ma_mt at h
    split at h
    all_goals first
      | (cases h; done)
      | exact ma_lu_all (fun x : Nat × Nat × Nat => !(Nat.beq x.1 0) || (Nat.ble (ma_cl x.2.1 + 1) 9 || Nat.beq (ma_gc (ma_cl x.2.1)) 41)) h (by decide +kernel)
  simp only [Bool.or_eq_true] at key
  rcases key with z | z | z
  · cases z
  · exact Or.inl (Nat.le_of_ble_eq_true z)
  · exact Or.inr (Nat.eq_of_beq_eq_true z)
section RUN
variable {p : Program} {l : Launch} {e : Env} {s : State} {m : MethodId} {args : Array Value} {below : List Frame} {meth : Method} {c : Code} {φ : ma_F} {fv : Value} {cA : Nat → ClassId} {D : va_G} {A : Nat → Prop} {un : List ma_Q} {μ d pc len pc' : Nat} {ls ls' : ma_L} {st st' : List ma_V} {σ σ' : ma_S}
set_option maxHeartbeats 4000000 in
theorem ma_st_ret_inv {ins : Instr} {n : Nat} {r : Option ma_V} (h : ma_st μ pc ins n ls st σ = some (.inl (r, σ'))) : ins = .ireturn ∨ ins = .lreturn ∨ ins = .areturn ∨ ins = .return_ := by
  cases ins
  case ireturn => exact Or.inl rfl
  case lreturn => exact Or.inr (Or.inl rfl)
  case areturn => exact Or.inr (Or.inr (Or.inl rfl))
  case return_ => exact Or.inr (Or.inr (Or.inr rfl))
  all_goals (exfalso; first
    | (cases h; done)
    | (simp only [ma_st, ma_ld, ma_lL, ma_lA, ma_sI, ma_sA, ma_sl, ma_gf, ma_pf] at h
       (repeat' (split at h)) <;> first
         | (cases h; done)
         | (have z := (ma_if_inv h).2; cases z)
         | (obtain ⟨-, -, -, z, -⟩ := ma_call_inv h; cases z)))
set_option maxHeartbeats 4000000 in
theorem ma_st_call_inv {ins : Instr} {n μ' : Nat} {as : List ma_V} (h : ma_st μ pc ins n ls st σ = some (.inr (.inr (μ', as, pc', ls', st', σ')))) : ∃ i, ins = .invokevirtual i ∨ ins = .invokestatic i := by
  cases ins
  case invokevirtual i => exact ⟨i, Or.inl rfl⟩
  case invokestatic i => exact ⟨i, Or.inr rfl⟩
  all_goals (exfalso; first
    | (cases h; done)
    | (simp only [ma_st, ma_ld, ma_lL, ma_lA, ma_sI, ma_sA, ma_sl, ma_gf, ma_pf] at h
       (repeat' (split at h)) <;> first
         | (cases h; done)
         | (have z := (ma_if_inv h).2; cases z)))
theorem ma_nx_rok {r : Option ma_V} (h : ma_nx μ pc ls st σ = some (.inl (r, σ'))) : ∀ v, r = some v → ma_okR v := by
  unfold ma_nx at h
  split at h
  · rename_i ins len e
    rcases ma_st_ret_inv h with rfl | rfl | rfl | rfl
    · simp only [ma_st] at h
      (repeat' (split at h)) <;> first
        | (cases h; done)
        | (cases h; intro v hv; cases hv; trivial)
    · simp only [ma_st] at h
      (repeat' (split at h)) <;> first
        | (cases h; done)
        | (cases h; intro v hv; cases hv; trivial)
    · simp only [ma_st] at h
      split at h
      · split at h
        · rename_i z
          simp only [Bool.and_eq_true] at z
          cases h
          intro v hv
          cases hv
          exact ⟨rfl, Nat.le_of_ble_eq_true z.2.1, rfl⟩
        · cases h
      · cases h
    · simp only [ma_st] at h
      (repeat' (split at h)) <;> first
        | (cases h; done)
        | (cases h; intro v hv; cases hv)
  · cases h
theorem ma_xF_rok : ∀ (n d μ pc : Nat) (ls : ma_L) (st : List ma_V) (σ : ma_S) (r : Option ma_V) (σ' : ma_S), ma_xF n d μ pc ls st σ = some (r, σ') → ∀ v, r = some v → ma_okR v := by
  intro n
  induction n with
  | zero => intro d μ pc ls st σ r σ' h; simp [ma_xF] at h
  | succ n ih =>
    intro d μ pc ls st σ r σ' h
    rw [ma_xF] at h
    split at h
    · cases h
    · rename_i q hq
      cases h
      exact ma_nx_rok hq
    · exact ih _ _ _ _ _ _ _ _ h
    · cases d with
      | zero => simp at h
      | succ d =>
        simp only at h
        split at h
        · cases h
        · exact ih _ _ _ _ _ _ _ _ h
/-- a method's end -/
theorem ma_st_ret {ins : Instr} {r : Option ma_V} (C : ma_Ctx p s m args meth c φ fv cA D A un μ) (hdec : decode (ma_by μ) pc = .ok (ins, len)) (hok : ma_iok μ pc ins len = true) (h : ma_st μ pc ins (pc + len) ls st σ = some (.inl (r, σ'))) :
    ma_At p l e s m args below meth c φ fv cA D A un μ d pc ls st σ (MQ below (ma_Qg φ fv cA D A un r σ') args s 0 0 A) := by
  obtain ⟨hμ, hx, hb, hml, hr, hown, hts, hlocks, hK, hO, hun, hfv, hD⟩ := C
  have hrt : ∀ μ, μ < 210 → (ma_rt μ = 0 → ma_rf_ μ = none) ∧ (ma_rt μ = 1 → ma_rf_ μ = some .int) ∧ (ma_rt μ = 2 → ma_rf_ μ = some .boolean) ∧ (ma_rt μ = 3 → ma_rf_ μ = some .char) ∧ (ma_rt μ = 4 → ma_rf_ μ = some .byte) ∧ (ma_rt μ = 5 → ma_rf_ μ = some .long) ∧ (ma_rt μ = 6 → ma_rf_ μ = some (.object "java/lang/String")) := by decide +kernel
  have ht := hrt μ hμ
  rcases ma_st_ret_inv h with rfl | rfl | rfl | rfl
  · have hl1 : len = 1 := ma_n1 hok
    subst hl1
    simp only [ma_st] at h
    split at h
    · rename_i x
      split at h
      · rename_i hk
        cases h
        intro la H locs h1 h2 h3 h4
        exact W.iret hx hb (hr.trans (ht.2.1 hk)) (fun t hh hW => ⟨⟨rfl, by rw [hh]; exact h2⟩, h3.F hh⟩) h4 hdec hlocks
      · rename_i hk
        split at h
        · rename_i hv
          cases h
          intro la H locs h1 h2 h3 h4
          exact W.zret hx hb (hr.trans (ht.2.2.1 hk)) (by rcases hv with z | z <;> rw [z] <;> rfl) (fun t hh hW => ⟨⟨rfl, by rw [hh]; exact h2⟩, h3.F hh⟩) h4 hdec hlocks
        · cases h
      · rename_i hk
        split at h
        · rename_i hv
          cases h
          intro la H locs h1 h2 h3 h4
          refine W.zret hx hb (hr.trans (ht.2.2.2.1 hk)) ?_ (fun t hh hW => ⟨⟨rfl, by rw [hh]; exact h2⟩, h3.F hh⟩) h4 hdec hlocks
          have hx2 : x = nI x.toInt.toNat := by
            apply Int32.toInt_inj.mp
            rw [nI_toInt (by omega)]
            omega
          rw [hx2]
          exact (pk_charN (by omega)).1
        · cases h
      · rename_i hk
        split at h
        · rename_i hv
          cases h
          intro la H locs h1 h2 h3 h4
          exact W.zret hx hb (hr.trans (ht.2.2.2.2.1 hk)) (by rcases hv with z | z <;> rw [z] <;> rfl) (fun t hh hW => ⟨⟨rfl, by rw [hh]; exact h2⟩, h3.F hh⟩) h4 hdec hlocks
        · cases h
      · cases h
    · cases h
  · have hl1 : len = 1 := ma_n1 hok
    subst hl1
    simp only [ma_st] at h
    split at h
    · rename_i x hk
      cases h
      intro la H locs h1 h2 h3 h4
      exact W.lret hx hb (hr.trans (ht.2.2.2.2.2.1 hk)) (fun t hh hW => ⟨⟨rfl, by rw [hh]; exact h2⟩, h3.F hh⟩) h4 hdec hlocks
    · cases h
  · have hl1 : len = 1 := ma_n1 hok
    subst hl1
    simp only [ma_st] at h
    split at h
    · rename_i g w j hk
      split at h
      · rename_i z
        simp only [Bool.and_eq_true] at z
        have z1 := Nat.eq_of_beq_eq_true z.1
        have z3 := Nat.eq_of_beq_eq_true z.2.2
        subst z1; subst z3
        cases h
        intro la H locs h1 h2 h3 h4
        exact W.aret hx hb (hr.trans (ht.2.2.2.2.2.2 hk)) (Or.inl ⟨_, rfl⟩) (Or.inr ⟨_, rfl⟩) (fun t hh hW => ⟨⟨rfl, by rw [hh]; exact h2⟩, h3.F hh⟩) h4 hdec hlocks
      · cases h
    · cases h
  · have hl1 : len = 1 := ma_n1 hok
    subst hl1
    simp only [ma_st] at h
    split at h
    · rename_i hk
      cases h
      intro la H locs h1 h2 h3 h4
      exact W.vret hx hb (hr.trans (ht.1 hk)) (fun t hh hW => ⟨⟨rfl, by rw [hh]; exact h2⟩, h3.F hh⟩) h4 hdec hlocks
    · cases h
theorem ma_callg {R : Room} {H : Heap} {locs : List Loc} {cells slots : Nat} {Q : State → Prop} {la : Array Slot} {st0 rest0 : List Value} {a : Array Value} {r : Option ma_V} (hr : va_Run p l e R s m args below meth c H locs cells slots 0 0 (F0 m pc la st0) rest0 (ma_Qg φ fv cA D A un r σ' a) A) (hS : va_S A s.heap H locs)
    (kk : ∀ (H1 : Heap) (locs1 : List Loc), va_P D ma_cls (ma_ws φ cA σ' un) H1 → va_S A s.heap H1 locs1 → W p l e R s m args below meth c H1 locs1 cells slots Q (F0 m (pc + 3) la ((r.map (ma_tv φ fv)).toList ++ rest0))) : W p l e R s m args below meth c H locs cells slots Q (F0 m pc la st0) := by
  intro T hT X
  obtain ⟨v, st₀, t, T', L, h0, X', hL, e1, e2, ⟨⟨hv, hp⟩, hz, hk⟩, st⟩ := hr T hT X
  have hv2 : v = r.map (ma_tv φ fv) := by injection hv
  subst hv2
  rw [h0] at hz hk
  obtain ⟨t2, a1, b1⟩ := kk T'.heap (locs ++ L) (by rw [e1]; exact hp)
    ⟨Nat.le_trans hS.1 (by rw [e1]; exact hz), fun q h1 h2 => by rw [e1, hk q (Nat.lt_of_lt_of_le h1 hS.1) h2]; exact hS.2.1 q h1 h2, fun q hq => by
      rcases List.mem_append.mp hq with h | h
      · exact hS.2.2 q h
      · exact hL q h⟩ T' rfl X'
  exact ⟨t2, st t2 a1, b1⟩
def ma_IH (l : Launch) (φ : ma_F) (fv : Value) (cA : Nat → ClassId) (D : va_G) (A : Nat → Prop) (un : List ma_Q) (d : Nat) : Prop :=
  ∀ (μ : Nat) (as : List ma_V) (σ : ma_S) (r : Option ma_V) (σ' : ma_S), μ < 210 → ma_okS un as → (ma_en as).length ≤ ma_ml μ → ma_ex d μ 0 (ma_ent μ as) [] σ = some (r, σ') → Met l (ma_nm μ) (ma_mws μ) (ma_room d) (ma_Pc φ fv cA D A un as σ) (ma_Qg φ fv cA D A un r σ') 0 0 A
theorem ma_blind (as : List ma_V) (σ : ma_S) : FrameBlind (ma_Pc φ fv cA D A un as σ) := fun a U g mk h => ⟨h.1, h.2.1, va_K.moved (u := U) (U := U.calling g mk a) (Vm.Alike.refl U.vm) h.2.2.1, ma_Old.same (u := U) (U := U.calling g mk a) rfl (Vm.Alike.refl U.vm) h.2.2.2⟩
theorem ma_goodIn {μ : Nat} (h : μ < 210) : GoodIn ma_tb (ma_mws μ) := fun w hw => by
  rcases List.mem_cons.mp hw with rfl | hw
  · exact ⟨(ma_mP_ok μ h).1, ma_good _ (ma_mP_ok μ h).1⟩
  · exact ⟨hw, ma_good _ hw⟩
theorem ma_take_rev {k : Nat} {st : List ma_V} : st.map (ma_tv φ fv) = ((st.take k).reverse.map (ma_tv φ fv)).reverse ++ (st.drop k).map (ma_tv φ fv) := by
  rw [← List.map_reverse, List.reverse_reverse, ← List.map_append, List.take_append_drop]
theorem ma_okS_rev {st : List ma_V} {k : Nat} (h : ma_okS un st) : ma_okS un (st.take k).reverse := fun v hv => h v (List.mem_of_mem_take (List.mem_reverse.mp hv))
theorem ma_st_call {ins : Instr} {μ' : Nat} {as : List ma_V} {r : Option ma_V} {σ2 : ma_S} {d' : Nat} (C : ma_Ctx p s m args meth c φ fv cA D A un μ) (hdec : decode (ma_by μ) pc = .ok (ins, len)) (hok : ma_iok μ pc ins len = true) (hS : ma_okS un st) (hd : d = d' + 1) (IH : ma_IH l φ fv cA D A un d') (h : ma_st μ pc ins (pc + len) ls st σ = some (.inr (.inr (μ', as, pc', ls', st', σ'))))
    (hex : ma_ex d' μ' 0 (ma_ent μ' as) [] σ' = some (r, σ2)) (Q : State → Prop) (K : ma_At p l e s m args below meth c φ fv cA D A un μ d pc' ls' (r.toList ++ st') σ2 Q) : ma_At p l e s m args below meth c φ fv cA D A un μ d pc ls st σ Q ∧ μ' < 210 := by
  obtain ⟨hμ, hx, hb, hml, hr, hown, hts, hlocks, hK, hO, hun, hfv, hD⟩ := C
  have hrest : ∀ r0 : List ma_V, r0.length ≤ 4 → ((r0.map (ma_tv φ fv)).map fun v => v.category).sum ≤ 8 := fun r0 h0 => Nat.le_trans (ma_catS hfv r0) (by omega)
  have hmapr : (r.map (ma_tv φ fv)).toList ++ st'.map (ma_tv φ fv) = (r.toList ++ st').map (ma_tv φ fv) := by cases r <;> rfl
  obtain ⟨i, rfl | rfl⟩ := ma_st_call_inv h
  · have hl3 : len = 3 := ma_n3 hok
    subst hl3
    simp only [ma_st] at h
    split at h
    · rename_i a1 k hmt
      have P := ma_mt_ok hmt
      simp only [ma_lP] at P
      obtain ⟨p1, p2, p3, p4, p5⟩ := P
      obtain ⟨c1, c2, c3, c4, c5⟩ := ma_call_inv h
      obtain ⟨q, as0, hq⟩ := c5 rfl
      cases c4
      refine ⟨?_, p1⟩
      intro la H locs h1 h2 h3 h4
      have MP := ma_mP_ok μ' p1
      have hokas := ma_okS_rev (k := k + 1) hS
      have hM := IH μ' _ σ r σ2 p1 hokas c3 hex
      rw [hq] at hM hokas
      have hlen0 : as0.length = k := by
        have e1 := congrArg List.length hq
        rw [List.length_reverse, c1, List.length_cons] at e1
        omega
      have hb1 : ma_tv φ fv (.inr (.inr (ma_gc (ma_cl μ'), q))) = .ref (φ (ma_gc (ma_cl μ')) q.1 q.2) ∧ ∃ cell : Cell, H[φ (ma_gc (ma_cl μ')) q.1 q.2]? = some cell ∧ cell.vm.isStatics = false ∧ s.vm.findClass (ma_cn (ma_cl μ')) = some cell.cls := by
        have hv := hokas _ List.mem_cons_self
        rcases hv with hv | hv
        · have hcl : ma_cl μ' < 9 := by
            rcases ma_mt_cl hmt with z | z
            · exact z
            · exact absurd z (hun _ hv).2.2.2.2.2.2.1
          have hgn := ma_gc9 _ hcl
          refine ⟨ma_tvR hgn.2.2.2.2.2.2.2.2, ?_⟩
          obtain ⟨k0, hk0, hw0⟩ := ma_ws_at (φ := φ) (cA := cA) (σ := σ) hv
          obtain ⟨q1, q2⟩ := q
          rw [ma_ce_obj ⟨hgn.1, hgn.2.1, hgn.2.2.1, hgn.2.2.2.1, hgn.2.2.2.2.1⟩] at hw0
          have hcg : ma_cg (ma_gc (ma_cl μ')) = ma_cl μ' := by
            have hh : ∀ c, c < 9 → ma_cg (ma_gc c) = c := by decide
            exact hh _ hcl
          rw [hcg] at hw0
          exact va_recv hK h2 (ma_cls9 _ hcl) hw0
        · obtain ⟨q1, q2⟩ := q
          have hh : ∀ μ, μ < 210 → ma_gc (ma_cl μ) ≠ 40 ∧ ma_gc (ma_cl μ) ≠ 42 ∧ ma_gc (ma_cl μ) ≠ 43 ∧ (ma_gc (ma_cl μ) = 41 → ma_cn (ma_cl μ) = "java/lang/String") := by decide +kernel
          obtain ⟨g1, g2, g3, g4⟩ := hh μ' p1
          rcases hv with hv | hv | hv | hv
          · exact absurd hv.1 g1
          · obtain ⟨z1, z2, z3⟩ := hv
            simp only at z1 z2 z3
            refine ⟨ma_tvR g3, ?_⟩
            obtain ⟨o1, -⟩ := hO.2.2.2.1 q1 z2
            rw [z1, z3, g4 z1]
            obtain ⟨cell, u1, u2, u3, -⟩ := o1.kept h3.2.1
            exact ⟨cell, u1, u2, u3⟩
          · exact absurd hv.1 g2
          · exact absurd hv g3
      obtain ⟨hb1, hcell⟩ := hb1
      have hcw : CallW (ma_room d) s args (ma_cn (ma_cl μ)) (ma_cn (ma_cl μ')) i (ma_nm μ') (ma_by μ') (ma_ml μ') (ma_rf_ μ') (ma_mws μ') (ma_room d') 0 0 k :=
        ⟨⟨rfl, rfl, by simp only [ma_room]; omega, by simp only [ma_room]; have := MP.2.2.2.2.2; omega, pay_in hts (ma_goodIn p1), List.mem_cons_self, hts _ MP.1, by have z := hts _ MP.2.1; rw [← MP.2.2.2.1] at z; exact z, MP.2.2.2.2.1, fun sig hs => by rw [hs] at p5; exact (Option.some.inj p5).symm, hts _ p2⟩, hts _ p3, by have z := hts _ p4; rw [MP.2.2.2.1] at z; exact z⟩
      have hrun := va_runV (g := F0 m pc la (st.map (ma_tv φ fv))) (b := φ (ma_gc (ma_cl μ')) q.1 q.2) (As := as0.map (ma_tv φ fv)) (rest := (st.drop (k + 1)).map (ma_tv φ fv)) (p := p) (l := l) (e := e) (below := below) (meth := meth) (locs := locs) (cells := 0) (slots := 0) (H := H) (nL := ma_ml μ) (Ts := ma_tb) ⟨hx, hb, hml, hown, hts⟩ hM hcw
        ⟨ma_blind _ _, hcell, fun U hU hW => ⟨by rw [List.map_cons, hb1], by rw [hU]; exact h2, va_K.moved hW.alike hK, by rw [hU]; exact (hO.warm hW).kept h3.2.1⟩⟩ rfl (by rw [List.length_map]; exact hlen0) h1.2.1 (by
          show st.map (ma_tv φ fv) = _
          rw [ma_take_rev (k := k + 1), hq, List.map_cons, hb1, List.reverse_cons, List.append_assoc]; rfl) (lv_room (hrest _ c2)) hdec ⟨Nat.le_refl _, Nat.le_refl _⟩
      refine ma_callg (r := r) hrun h3 (fun H1 locs1 g1 g3 => ?_)
      rw [hmapr]
      exact K la H1 locs1 h1 g1 g3 g3.2.2
    · cases h
  · have hl3 : len = 3 := ma_n3 hok
    subst hl3
    simp only [ma_st] at h
    split at h
    · rename_i a1 k hmt
      have P := ma_mt_ok hmt
      simp only [ma_lP] at P
      obtain ⟨p1, p2, p3, p5⟩ := P
      obtain ⟨c1, c2, c3, c4, -⟩ := ma_call_inv h
      cases c4
      refine ⟨?_, p1⟩
      intro la H locs h1 h2 h3 h4
      have MP := ma_mP_ok μ' p1
      have hM := IH μ' _ σ r σ2 p1 (ma_okS_rev hS) c3 hex
      have hpre : PreS s H (ma_Pc φ fv cA D A un (st.take k).reverse σ) ((st.take k).reverse.map (ma_tv φ fv)) := ⟨ma_blind _ _, fun U hU hW => ⟨rfl, by rw [hU]; exact h2, va_K.moved hW.alike hK, by rw [hU]; exact (hO.warm hW).kept h3.2.1⟩⟩
      have hlen0 : ((st.take k).reverse.map (ma_tv φ fv)).length = k := by rw [List.length_map, List.length_reverse, c1]
      have hfr : (ma_room d').frames + 1 ≤ (ma_room d).frames := by simp only [ma_room]; omega
      have hlo : 8 + (ma_ml μ' + 11) + (ma_room d').locals ≤ (ma_room d).locals := by simp only [ma_room]; have := MP.2.2.2.2.2; omega
      have hini : (Cond.initialized (ma_nm μ').cls).before args s = true := by have z := hts _ MP.2.1; rw [← MP.2.2.2.1] at z; exact z
      have hrun : va_Run p l e (ma_room d) s m args below meth c H locs 0 0 0 0 (F0 m pc la (st.map (ma_tv φ fv))) ((st.drop k).map (ma_tv φ fv)) (ma_Qg φ fv cA D A un r σ2 ((st.take k).reverse.map (ma_tv φ fv)).toArray) A := by
        rcases p2 with p2 | ⟨w1, w2, w3⟩
        · exact va_runS (g := F0 m pc la (st.map (ma_tv φ fv))) (nL := ma_ml μ) (Ts := ma_tb) (own := ma_cn (ma_cl μ)) (ret := ma_rf_ μ') (bytes := ma_by μ') (maxL := ma_ml μ') ⟨hx, hb, hml, hown, hts⟩ hM
            ⟨⟨rfl, rfl, hfr, hlo, pay_in hts (ma_goodIn p1), List.mem_cons_self, hts _ MP.1, hini, MP.2.2.2.2.1, fun sig hs => by rw [hs] at p5; exact (Option.some.inj p5).symm, hts _ p2⟩, hts _ p3⟩ hpre rfl hlen0 h1.2.1 ma_take_rev (lv_room (hrest _ c2)) hdec ⟨Nat.le_refl _, Nat.le_refl _⟩
        · subst w2; subst w3
          have hown3 : s.vm.findClass "OneSledgeForTwo$Rider" = some m.cls := by rw [w1] at hown; exact hown
          exact va_runSN (g := F0 m pc la (st.map (ma_tv φ fv))) (nL := ma_ml μ) (Ts := ma_tb) (own := "OneSledgeForTwo$Rider") (host := "OneSledgeForTwo") (ret := ma_rf_ 103) (bytes := ma_by 103) (maxL := ma_ml 103) ⟨hx, hb, hml, hown3, hts⟩ hM
            ⟨⟨⟨rfl, rfl, hfr, hlo, pay_in hts (ma_goodIn p1), List.mem_cons_self⟩, hts _ MP.1, hini, MP.2.2.2.2.1, fun sig hs => by rw [hs] at p5; exact (Option.some.inj p5).symm, va_Nw.use rfl hO.2.2.2.2.1⟩, hts _ p3, trivial⟩ hpre rfl hlen0 h1.2.1 ma_take_rev (lv_room (hrest _ c2)) hdec ⟨Nat.le_refl _, Nat.le_refl _⟩
      refine ma_callg (r := r) hrun h3 (fun H1 locs1 g1 g3 => ?_)
      rw [hmapr]
      exact K la H1 locs1 h1 g1 g3 g3.2.2
    all_goals (exfalso; (repeat' (split at h)) <;> cases h)
theorem ma_run (C : ma_Ctx p s m args meth c φ fv cA D A un μ) (IH : ∀ d', d = d' + 1 → ma_IH l φ fv cA D A un d') {r : Option ma_V} {σe : ma_S} : ∀ (n pc : Nat) (ls : ma_L) (st : List ma_V) (σ : ma_S), ma_okS un st → ma_okL un ls → ma_xF n d μ pc ls st σ = some (r, σe) → ma_At p l e s m args below meth c φ fv cA D A un μ d pc ls st σ (MQ below (ma_Qg φ fv cA D A un r σe) args s 0 0 A) := by
  intro n
  induction n with
  | zero => intro pc ls st σ _ _ h; simp [ma_xF] at h
  | succ n ih =>
    intro pc ls st σ hS hL h
    rw [ma_xF] at h
    have hμ := C.1
    have key : ∀ x, ma_nx μ pc ls st σ = some x → ∃ ins len, decode (ma_by μ) pc = .ok (ins, len) ∧ ma_iok μ pc ins len = true ∧ (∀ i, ins = .ldc_w i → ma_cl μ = 8) ∧ ma_st μ pc ins (pc + len) ls st σ = some x := by
      intro x hx
      unfold ma_nx at hx
      split at hx
      · rename_i ins len e
        have hm := ma_lu_mem _ _ _ e
        obtain ⟨a1, a2⟩ := ma_ck μ hμ _ hm
        refine ⟨ins, len, a1, a2, ?_, hx⟩
        rintro i rfl
        have z := List.all_eq_true.mp (ma_ldcw μ hμ) _ hm
        exact Nat.eq_of_beq_eq_true z
      · cases hx
    split at h
    · cases h
    · rename_i q hq
      obtain ⟨r0, s0⟩ := q
      cases h
      obtain ⟨ins, len, a1, a2, a3, a4⟩ := key _ hq
      exact ma_st_ret C a1 a2 a4
    · rename_i pc' ls' st' σ' hq
      obtain ⟨ins, len, a1, a2, a3, a4⟩ := key _ hq
      obtain ⟨g1, g2, g3⟩ := ma_st_go (l := l) (e := e) (below := below) (d := d) C a1 a2 hS hL a3 a4
      exact g3 _ (ih _ _ _ _ g1 g2 h)
    · rename_i μ' as pc' ls' st' σ' hq
      cases d with
      | zero => simp at h
      | succ d' =>
        simp only at h
        split at h
        · cases h
        · rename_i r1 s1 h1
          obtain ⟨ins, len, a1, a2, a3, a4⟩ := key _ hq
          have hokst : ma_okS un st' ∧ ls' = ls := by
            obtain ⟨i, rfl | rfl⟩ := ma_st_call_inv a4
            · simp only [ma_st] at a4
              split at a4
              · obtain ⟨-, -, -, z, -⟩ := ma_call_inv a4
                cases z
                exact ⟨fun v hv => hS v (List.mem_of_mem_drop hv), rfl⟩
              · cases a4
            · simp only [ma_st] at a4
              split at a4
              · obtain ⟨-, -, -, z, -⟩ := ma_call_inv a4
                cases z
                exact ⟨fun v hv => hS v (List.mem_of_mem_drop hv), rfl⟩
              all_goals (exfalso; (repeat' (split at a4)) <;> cases a4)
          have hokr : ma_okS un (r1.toList ++ st') := by
            intro v hv
            rcases List.mem_append.mp hv with hv | hv
            · cases r1 with
              | none => cases hv
              | some v1 =>
                rcases List.mem_singleton.mp hv with rfl
                exact ma_okR_ok (ma_xF_rok _ _ _ _ _ _ _ _ _ h1 _ rfl)
            · exact hokst.1 v hv
          have hokl : ma_okL un ls' := by rw [hokst.2]; exact hL
          exact (ma_st_call C a1 a2 hS rfl (IH d' rfl) a4 (ma_ex_iff.mpr ⟨n, h1⟩) _ (ih _ _ _ _ hokr hokl h)).1
theorem ma_en_len (hfv : fv = .null ∨ ∃ a, fv = .ref a) : ∀ as : List ma_V, (lg_sl (as.map (ma_tv φ fv))).length = (ma_en as).length
  | [] => rfl
  | v :: as => by
    have ih := ma_en_len hfv as
    unfold lg_sl at ih ⊢
    rw [List.map_cons, List.flatMap_cons, List.length_append, ih]
    match v with
    | .inl x => simp [ma_tv, Value.category, ma_en]; omega
    | .inr (.inl x) => simp [ma_tv, Value.category, ma_en]; omega
    | .inr (.inr q) =>
      have hc := ma_catR (φ := φ) hfv q
      have hne : ¬ (ma_tv φ fv (.inr (.inr q))).category = 2 := by rw [hc]; decide
      rw [if_neg hne]
      simp [ma_en]; omega
theorem ma_en_args (hfv : fv = .null ∨ ∃ a, fv = .ref a) : ∀ (as : List ma_V) (k i : Nat) (v : ma_V), (ma_en as)[i]? = some (some v) → (k + i, ma_tv φ fv v) ∈ lv_args k (as.map (ma_tv φ fv))
  | [], k, i, v, h => by simp [ma_en] at h
  | w :: as, k, i, v, h => by
    rw [List.map_cons, lv_args]
    match w, h with
    | .inl x, h =>
      cases i with
      | zero => simp [ma_en] at h; rw [← h]; exact List.mem_cons_self
      | succ i =>
        have h2 : (ma_en as)[i]? = some (some v) := by simpa [ma_en] using h
        have := ma_en_args hfv as (k + 1) i v h2
        rw [show k + (i + 1) = k + 1 + i by omega]
        exact List.mem_cons_of_mem _ (by simpa [ma_tv, Value.category] using this)
    | .inr (.inl x), h =>
      match i, h with
      | 0, h => simp [ma_en] at h; rw [← h]; exact List.mem_cons_self
      | 1, h => simp [ma_en] at h
      | i + 2, h =>
        have h2 : (ma_en as)[i]? = some (some v) := by simpa [ma_en] using h
        have := ma_en_args hfv as (k + 2) i v h2
        rw [show k + (i + 2) = k + 2 + i by omega]
        exact List.mem_cons_of_mem _ (by simpa [ma_tv, Value.category] using this)
    | .inr (.inr q), h =>
      have hne : ¬ (ma_tv φ fv (.inr (.inr q))).category = 2 := by rw [ma_catR hfv q]; decide
      rw [if_neg hne]
      cases i with
      | zero => simp [ma_en] at h; rw [← h]; exact List.mem_cons_self
      | succ i =>
        have h2 : (ma_en as)[i]? = some (some v) := by simpa [ma_en] using h
        have := ma_en_args hfv as (k + 1) i v h2
        rw [show k + (i + 1) = k + 1 + i by omega]
        exact List.mem_cons_of_mem _ this
theorem ma_en_mem : ∀ (as : List ma_V) (v : ma_V), some v ∈ ma_en as → v ∈ as
  | [], v, h => by cases h
  | w :: as, v, h => by
    match w, h with
    | .inl x, h =>
      simp only [ma_en, List.mem_cons] at h
      rcases h with h | h
      · cases h; exact List.mem_cons_self
      · exact List.mem_cons_of_mem _ (ma_en_mem as v h)
    | .inr (.inl x), h =>
      simp only [ma_en, List.mem_cons] at h
      rcases h with h | h | h
      · cases h; exact List.mem_cons_self
      · cases h
      · exact List.mem_cons_of_mem _ (ma_en_mem as v h)
    | .inr (.inr q), h =>
      simp only [ma_en, List.mem_cons] at h
      rcases h with h | h
      · cases h; exact List.mem_cons_self
      · exact List.mem_cons_of_mem _ (ma_en_mem as v h)
theorem ma_ent_at {μ i : Nat} {as : List ma_V} {v : ma_V} (h : (ma_ent μ as)[i]? = some (some v)) : (ma_en as)[i]? = some (some v) := by
  unfold ma_ent at h
  by_cases hi : i < (ma_en as).length
  · rw [List.getElem?_append_left hi] at h; exact h
  · rw [List.getElem?_append_right (by omega)] at h
    have := List.eq_of_mem_replicate (List.mem_of_getElem? h)
    cases this
theorem ma_sound1 (hun : ma_un un) (hfv : fv = .null ∨ ∃ a, fv = .ref a) (hD : ∀ σ, va_D A (ma_ws φ cA σ un)) (d : Nat) (IH : ∀ d', d = d' + 1 → ma_IH l φ fv cA D A un d') : ma_IH l φ fv cA D A un d := by
  intro μ as σ r σ' hμ hok hlen hex
  obtain ⟨n, hn⟩ := ma_ex_iff.mp hex
  have MP := ma_mP_ok μ hμ
  refine Met.ofW (cc := ma_by μ) (maxL := ma_ml μ) (ret := ma_rf_ μ) MP.2.2.1 rfl ?_
  intro p e s m args below meth c s₁ B hml hv
  obtain ⟨rfl, hP, hK, hO⟩ := hv
  have hts0 := atoms_spec (ws := ma_mws μ) B.pre
  have hown : s.vm.findClass (ma_nm μ).cls = some m.cls := findClass_of_methodNamed B.named
  rw [MP.2.2.2.1] at hown
  have C : ma_Ctx p s m (as.map (ma_tv φ fv)).toArray meth c φ fv cA D A un μ := ⟨hμ, B.exec, B.bytes, hml, B.returns, hown, fun w hw => hts0 w (List.mem_cons_of_mem _ hw), B.notSynchronized, hK, hO, hun, hfv, hD⟩
  have hll : (lg_sl (as.map (ma_tv φ fv))).length ≤ ma_ml μ := by rw [ma_en_len hfv]; exact hlen
  have he := lv_entry (as.map (ma_tv φ fv)) hll
  rw [lg_entry_eq]
  refine ma_run C IH n 0 (ma_ent μ as) [] σ (fun v hv => by cases hv) (fun v hv => ?_) hn _ s.heap [] ⟨?_, he.1, he.2.1, fun i v hv => ?_⟩ hP va_S.rf (fun q hq => by cases hq)
  · obtain ⟨k, hk⟩ := List.getElem?_of_mem hv
    exact hok v (ma_en_mem as v (List.mem_of_getElem? (ma_ent_at hk)))
  · simp only [ma_ent, List.length_append, List.length_replicate]
    omega
  · have := ma_en_args (φ := φ) hfv as 0 i v (ma_ent_at hv)
    rw [Nat.zero_add] at this
    exact he.2.2 _ this
/-- every run of the small machine is a contract -/
theorem ma_sound (hun : ma_un un) (hfv : fv = .null ∨ ∃ a, fv = .ref a) (hD : ∀ σ, va_D A (ma_ws φ cA σ un)) : ∀ d, ma_IH l φ fv cA D A un d := by
  intro d
  induction d with
  | zero => exact ma_sound1 hun hfv hD 0 (fun d' h => by omega)
  | succ d ih => exact ma_sound1 hun hfv hD (d + 1) (fun d' h => by rw [show d' = d by omega]; exact ih)
end RUN
