/-! PART 76: call: hill, whole. -/
theorem ma_sm_back15 (m : ma_S) (S : Nat → Int32) (T : Nat → Nat → Int32) (hS : ∀ q, (q = 45 ∨ q = 46) → S q = m.1 20 0 0 q) (hT : ∀ r q, (7 ≤ q ∧ q ≤ 13) ∨ q = 16 ∨ q = 21 → T r q = ma_G m r q) (hp : ∀ j, j < 32 → T j 15 = sp_put (m.1 20 0 0) (ma_G m) 15 0 j 15) : ma_sm m (ma_mh m (upd (sp_getF S T 15 0) 9 (m.1 20 0 0 9)) (sp_getG T 15 0)) := by
  refine ⟨fun k hk => ?_, fun k r h1 hk => ?_, rfl⟩
  · rw [ma_mh_F]
    unfold upd
    by_cases c9 : k = 9
    · rw [if_pos c9, c9]
    · rw [if_neg c9]
      unfold sp_getF
      by_cases c : 1 ≤ k ∧ k ≤ 8
      · rw [if_pos c, hp _ (by omega)]
        unfold sp_put
        rw [if_pos (by omega), if_neg (by omega), show 0 + 23 + k - 0 - 23 = k by omega]
      · rw [if_neg c, hS k (by omega)]
  · rw [ma_mh_A]
    unfold sp_getG
    by_cases c : 1 ≤ k ∧ k ≤ 6 ∧ r < 4
    · rw [if_pos c, hp _ (by omega)]
      unfold sp_put
      rw [if_pos (by omega), if_pos (by omega), show (0 + 4 * (k - 1) + r - 0) % 4 = r by omega, show (0 + 4 * (k - 1) + r - 0) / 4 + 1 = k by omega]
      rfl
    · rw [if_neg c, hT r k (by omega)]
      rfl
theorem ma_sx_rdu (x : ma_S) (R L F : Nat → Int32) (G : Nat → Nat → Int32) (v : Int32) : ma_sx (ma_u x 1 0 0 10 v) (ma_u (ma_rd x R L F G) 1 0 0 10 v) := by
  refine ⟨?_, ?_, ?_, ?_, ?_, rfl, ?_, ?_, ?_, ?_⟩
  all_goals (try funext i) <;> (try funext j) <;> (try funext k) <;> simp [ma_rd, ma_u]
theorem hill_ivS (t : Nat) (x m : ma_S) (hi : ma_Iv t x m) (R L F' S' : Nat → Int32) (G' T' : Nat → Nat → Int32) (hH : sp_HR (200 * ((t + 1 : Nat) : Int)) F' G' S' T') (hn : (x.1 2 0 0 1).toInt ≤ (F' 1).toInt) (h9 : S' 9 = -1) (h45 : S' 45 = m.1 20 0 0 45) (h46 : S' 46 = m.1 20 0 0 46) (hT : ∀ r q, (7 ≤ q ∧ q ≤ 13) ∨ q = 16 ∨ q = 21 → T' r q = ma_G m r q) : ma_Iv (t + 1) (ma_sh (ma_u (ma_rd x R L F' G') 1 0 0 10 (-1)) 0 (sp_bF (x.1 2 0 0) F') (sp_bG (F' 1) (x.1 4 0) G')) (ma_mh m S' T') := by
  have i1 := ma_Iv_fault (-1) hi
  have i2 := ma_Iv_x (ma_sx_rdu x R L F' G' (-1)) i1
  have hsm : ma_sm (ma_u m 20 0 0 9 (-1)) (ma_mh m (fun q => if q ≤ 8 then m.1 20 0 0 q else S' q) (fun r q => if q ≤ 6 then ma_G m r q else T' r q)) := by
    refine ⟨fun k hk => ?_, fun k r h1 hk => ?_, rfl⟩
    · rw [ma_mh_F, ma_u_k]
      by_cases c9 : k = 9
      · subst c9
        rw [if_neg (by omega), if_pos rfl, h9]
      · rw [if_neg c9]
        by_cases c8 : k ≤ 8
        · rw [if_pos c8]
        · rw [if_neg c8]
          rcases (show k = 45 ∨ k = 46 by omega) with rfl | rfl
          · exact h45
          · exact h46
    · rw [ma_mh_A, ma_u_g (by decide)]
      by_cases c6 : k ≤ 6
      · rw [if_pos c6]; rfl
      · rw [if_neg c6, hT r k (by omega)]; rfl
  have i3 := ma_Iv_m hsm i2
  have hRb := sp_bF_Re (x.1 2 0 0) F' (x.1 4 0) G'
  have e2 : ∀ k, (ma_u (ma_rd x R L F' G') 1 0 0 10 (-1)).1 2 0 0 k = x.1 2 0 0 k := fun k => by
    rw [ma_u_g (by decide)]
    simp [ma_rd]
  have i4 := ma_Iv_hill (F := sp_bF (x.1 2 0 0) F') (S := S') (G := sp_bG (F' 1) (x.1 4 0) G') (T := T') (Nat.le_succ t) i3 ⟨ma_Re_trans (ma_Re_symm hRb) hH.1, sp_Re_ok hRb hH.2.1, sp_rb2_Re hRb hH.2.2, fun r hr => by
      have := hi.1.2.2.2 r hr
      unfold sp_bG
      split
      · exact this
      · exact this⟩ (by rw [e2]; exact hn) (fun k hk => by rw [ma_mh_F, if_neg (by omega)]) (fun r k hk => by
        show _ = (ma_mh m _ _).1 50 k 0 r
        rw [ma_mh_A, if_neg (by omega)])
  rw [ma_mh_mh] at i4
  exact i4
theorem hill_ivF (t : Nat) (x m : ma_S) (v : Int32) (hi : ma_Iv t x m) (R L F' S' : Nat → Int32) (G' T' : Nat → Nat → Int32) (hS : ∀ q, (q = 45 ∨ q = 46) → S' q = m.1 20 0 0 q) (hT : ∀ r q, (7 ≤ q ∧ q ≤ 13) ∨ q = 16 ∨ q = 21 → T' r q = ma_G m r q) (hp : ∀ j, j < 32 → T' j 15 = sp_put (m.1 20 0 0) (ma_G m) 15 0 j 15) : ma_Iv (t + 1) (sp_rx (ma_u (ma_rd x R L F' G') 1 0 0 10 v) (-6)) (sp_rm (ma_mh m (upd (sp_getF S' T' 15 0) 9 v) (sp_getG T' 15 0)) (-6)) := by
  have i1 := ma_Iv_fault v (ma_Iv_m (ma_sm_back15 m S' T' hS hT hp) hi)
  have i2 := ma_Iv_x (ma_sx_rdu x R L F' G' v) i1
  have e : ma_u (ma_mh m (upd (sp_getF S' T' 15 0) 9 (m.1 20 0 0 9)) (sp_getG T' 15 0)) 20 0 0 9 v = ma_mh m (upd (sp_getF S' T' 15 0) 9 v) (sp_getG T' 15 0) := by
    rw [ma_mh_uF]
    congr 1
    funext k
    unfold upd
    split
    · rfl
    · rfl
  rw [e] at i2
  exact ma_Iv_no sp_isb6 (ma_Iv_s i2)
theorem op_hill (d t : Nat) (x m : ma_S) (sv : Int32) (ht : t < 1000) (hi : ma_Iv t x m) : ma_Op (d + 8) 72 145 [vI sv] t x m := by
  unfold ma_Op
  rw [en_72, en_145]
  have hr := cx_rr (d + 5) t x m sv hi
  have hw := cm_wanted (d + 5) sv m
  have hQ : (if ¬ (0 ≤ sv ∧ sv < 8) then (-1 : Int32) else if m.1 50 8 0 sv.toNatClampNeg = 2 then -2 else if m.1 50 8 0 sv.toNatClampNeg = 0 then -3 else 0) = sp_Q m sv := rfl
  rw [hQ] at hw
  rcases Classical.propComplete (sp_Q m sv = 0) with c0 | c0
  case inr =>
    have hb := sp_Q_b (of_eq_false c0)
    refine ⟨some (vI (sp_Q m sv)), _, _, ?_, ?_, ma_Iv_no hb (ma_Iv_s hi)⟩
    · simp only [bk_72_0, bk_72_5, bk_72_10, bk_72_15, hr, c0, cx_refuse _ _ _ hb, ↓reduceIte, ma_bd_some, ma_bd_none, ma_tl1, ma_tl0, ma_ap1, ma_ap0, b2i_0, b2i_1, b2i_01, ma_l10, ma_l01, eq_self, true_or, or_true, not_true_eq_false, not_false_eq_true, Bool.false_eq_true]
    · simp only [bk_145_0, bk_145_5, bk_145_10, bk_145_15, hw, c0, cm_no _ _ _ hb, ↓reduceIte, ma_bd_some, ma_bd_none, ma_tl1, ma_tl0, ma_ap1, ma_ap0, b2i_0, b2i_1, b2i_01, ma_l10, ma_l01, eq_self, true_or, or_true, not_true_eq_false, not_false_eq_true, Bool.false_eq_true]
  obtain ⟨h8, h1⟩ := sp_Q_0 hi (of_eq_true c0)
  obtain ⟨hin, hs8, hz⟩ := sp_in8 h8
  obtain ⟨_, _, _, q4⟩ := sp_ct hi hs8
  obtain ⟨_, z2, z3, z4⟩ := q4 h1
  have z5 : ∀ i, i < 160 → x.2 sv.toNatClampNeg i = m.2 10 (160 * sv.toNatClampNeg + i) := by
    rcases hi.2.1 sv.toNatClampNeg hs8 with ⟨a, _⟩ | ⟨a, _⟩ | ⟨_, _, _, _, _, _, _, c⟩
    · rw [a] at h1; exact absurd h1 (by decide)
    · rw [a] at h1; exact absurd h1 (by decide)
    · exact c
  obtain ⟨s, hs⟩ : ∃ s : Nat, s = sv.toNatClampNeg := ⟨_, rfl⟩
  rw [← hs] at hs8 hz z2 z3 z4 z5 h1
  obtain ⟨Z, hZ⟩ : ∃ Z : Nat, (m.1 50 10 0 s).toInt = Z := ⟨(m.1 50 10 0 s).toInt.toNat, by omega⟩
  have hZn : m.1 50 10 0 s = nI Z := ma_nI hZ (by omega)
  have h160 : Z ≤ 160 := by omega
  have hok := ma_Iv_ok hi
  -- class: the hill, the letters
  have hbec := cx_become (d + 4) 4 0 x (by decide) hok.1 hok.2.1
  have hRb := sp_bF_Re (x.1 2 4 0) (x.1 2 0 0) (x.1 4 4) (x.1 4 0)
  have hokb := sp_Re_ok hRb hok
  have hF1 : sp_bF (x.1 2 4 0) (x.1 2 0 0) 1 = x.1 2 0 0 1 := rfl
  generalize hFB : sp_bF (x.1 2 4 0) (x.1 2 0 0) = Fb at hbec hRb hokb hF1
  generalize hGB : sp_bG (x.1 2 0 0 1) (x.1 4 4) (x.1 4 0) = Gb at hbec hRb hokb
  have hid := ma_rd_id x
  have hsh := ma_rd_sh x (x.1 7 0 0) (x.1 50 120 0) (x.1 2 4 0) (x.1 4 4) Fb Gb
  rw [hid] at hsh
  rw [hsh] at hbec
  obtain ⟨L, hL⟩ : ∃ L : Nat → Int32, L = sp_Lk (fun j => Int64.toInt32 (x.2 s j)) (x.1 50 120 0) Z := ⟨_, rfl⟩
  have hlet := cx_letters (d + 4) Z s x (upd (x.1 7 0 0) 2 (nI Z)) (x.1 50 120 0) Fb Gb hs8 (z2.trans hZn) h160 rfl Z 0 (by omega)
  rw [sp_Lk_0, nI_0, ← hL] at hlet
  obtain ⟨R, hR⟩ : ∃ R : Nat → Int32, R = upd (upd (upd (x.1 7 0 0) 2 (nI Z)) 3 0) 4 (-1) := ⟨_, rfl⟩
  -- model: its hill is kept, the text begins
  have hput := cm_all_put (d + 5) 15 0 m (m.1 20 0 0) (ma_G m) (by omega) (by decide) (by decide)
  rw [nI_0, ma_mh_id] at hput
  obtain ⟨S, hS⟩ : ∃ S : Nat → Int32, S = upd (upd (upd (upd (m.1 20 0 0) 26 (160 * sv)) 27 0) 28 (nI Z)) 9 (-1) := ⟨_, rfl⟩
  obtain ⟨T, hT⟩ : ∃ T : Nat → Nat → Int32, T = sp_put (m.1 20 0 0) (ma_G m) 15 0 := ⟨_, rfl⟩
  have hTo : ∀ r k, k ≠ 15 → T r k = ma_G m r k := fun r k h => by rw [hT]; unfold sp_put; rw [if_neg (by omega)]
  have hsv : 160 * sv = nI (160 * s) := by
    have e160 : (160 : Int32).toInt = 160 := rfl
    refine ma_nI ?_ (by omega)
    rw [ma_mul (by rw [e160]; omega) (by rw [e160]; omega), e160, hz]
    omega
  have hM : sp_MT m L Z s S T := by
    refine ⟨by rw [hS, ← hsv]; rfl, by rw [hS]; rfl, h160, hs8, ⟨fun k hk => ?_, fun k hk => ?_⟩, fun p hp => ?_⟩
    · show T k 12 = _
      rw [hTo k 12 (by omega)]
      exact hi.2.2.2.2.2.2.1 k hk
    · show T k 13 = _
      rw [hTo k 13 (by omega)]
      exact hi.2.2.2.2.2.2.2 k hk
    · rw [hL, ← z5 p (by omega)]
      unfold sp_Lk
      rw [if_pos hp]
  have hH : sp_HR (200 * t) Fb Gb S T := by
    refine ⟨ma_Re_S (ma_Re_trans (ma_Re_symm hRb) hi.1.1) (fun k a c => ?_) (fun r k a c => hTo r k (by omega)), hokb, sp_rb2_Re hRb hi.1.2.2.1⟩
    rw [hS]
    unfold upd
    rw [if_neg (by omega), if_neg (by omega), if_neg (by omega), if_neg (by omega)]
  have hR2 : R 2 = nI Z := by rw [hR]; rfl
  have hR3 : R 3 = nI 0 := by rw [hR, nI_0]; rfl
  have hR4 : R 4 = -1 := by rw [hR]; rfl
  have hS27 : S 27 = nI 0 := by rw [hS, nI_0]; rfl
  -- class to the first item
  have pre : ma_cal (d + 7) 24 [vR 7 0 0, vR 2 0 0, vR 16 s 0] x = ma_bd (ma_cal (d + 6) 25 [vR 7 0 0] (ma_rd x R L Fb Gb)) (fun v σ' => ma_ex (d + 6) 24 57 [some (vR 7 0 0), some (vR 2 0 0), some (vR 16 s 0), some (vI (nI Z))] (Option.toList v ++ []) σ') := by
    have e16 : (ma_rd x (x.1 7 0 0) (x.1 50 120 0) Fb Gb).1 16 s 0 2 = nI Z := by rw [ma_rd_16]; exact z2.trans hZn
    rw [en_24, bk_24_0, hbec, ma_bd_some, ma_tl0, ma_ap0, bk_24_8, e16, ma_rd_uR, hlet, bk_24_43, ma_rd_uR, ma_rd_uR, ← hR]
  have prm : ma_ex (d + 7) 145 0 [some (vR 20 0 0), some (vI sv), none, none, none] [] m = ma_bd (ma_cal (d + 7) 142 [vR 20 0 0] (ma_mh m S T)) (fun v σ' => ma_ex (d + 7) 145 61 [some (vR 20 0 0), some (vI sv), some (vI 0), some (vI 1), none] (Option.toList v ++ []) σ') := by
    have e10 : sp_put (m.1 20 0 0) (ma_G m) 15 0 s 10 = nI Z := by
      rw [← hT, hTo s 10 (by omega)]
      exact hZn
    have w0 := of_eq_true c0
    rw [w0] at hw
    simp only [bk_145_0, bk_145_5, bk_145_16, hw, hput, ↓reduceIte, ma_bd_some, ma_bd_none, ma_tl1, ma_tl0, ma_ap1, ma_ap0, b2i_0, b2i_1, b2i_01, ma_l10, ma_l01, eq_self, true_or, or_true, not_true_eq_false, not_false_eq_true, Bool.false_eq_true]
    rw [bk_145_26, ma_if_pos hin, ← hs]
    simp only [ma_mh_uF, ma_mh_A, e10]
    rw [← hS, ← hT]
  have hTi : ∀ {S' : Nat → Int32} {T' : Nat → Nat → Int32}, sp_frS S S' → sp_frT T T' → (∀ q, (q = 45 ∨ q = 46) → S' q = m.1 20 0 0 q) ∧ (∀ r q, (7 ≤ q ∧ q ≤ 13) ∨ q = 16 ∨ q = 21 → T' r q = ma_G m r q) ∧ (∀ j, j < 32 → T' j 15 = sp_put (m.1 20 0 0) (ma_G m) 15 0 j 15) ∧ S' 9 = -1 := fun h1 h2 => by
    refine ⟨fun q hq => ?_, fun r q hq => ?_, fun j hj => ?_, ?_⟩
    · rw [h1 q (by omega) (by omega) (by omega) (by omega), hS]
      unfold upd
      rw [if_neg (by omega), if_neg (by omega), if_neg (by omega), if_neg (by omega)]
    · rw [h2 r q (by omega) (by omega)]
      exact hTo r q (by omega)
    · rw [h2 j 15 (by omega) (by omega), hT]
    · rw [h1 9 (by omega) (by omega) (by omega) (by omega), hS]
      rfl
  have hX : ma_ex (d + 7) 72 0 [some (vR 1 0 0), some (vI sv), none, none] [] x = ma_bd (ma_cal (d + 7) 24 [vR 7 0 0, vR 2 0 0, vR 16 s 0] x) (fun v σ' => ma_ex (d + 7) 72 33 [some (vR 1 0 0), some (vI sv), some (vI 0), none] (Option.toList v ++ []) σ') := by
    simp only [bk_72_0, bk_72_5, hr, c0, ↓reduceIte, ma_bd_some, ma_bd_none, ma_tl1, ma_tl0, ma_ap1, ma_ap0, b2i_0, b2i_1, b2i_01, ma_l10, ma_l01, eq_self, true_or, or_true, not_true_eq_false, not_false_eq_true, Bool.false_eq_true]
    rw [bk_72_16, ma_if_pos hin, ← hs, of_eq_true c0]
  have xF : ∀ (R' F' : Nat → Int32) (G' : Nat → Nat → Int32) (c : Int32) (p : Nat), p < 1000 → R' 4 = nI p → ma_ex (d + 7) 72 33 [some (vR 1 0 0), some (vI sv), some (vI 0), none] [vI c] (ma_rd x R' L F' G') = some (some (vI (-6)), sp_rx (ma_u (ma_rd x R' L F' G') 1 0 0 10 (nI p)) (-6)) := fun R' F' G' c p hp h => by
    rw [bk_72_33, ma_rd_R, h, ma_u_k, if_pos rfl, if_neg (nI_n1 (f := p) (by omega)), bk_72_53, cx_refuse _ _ _ sp_isb6]
    simp only [bk_72_59, ↓reduceIte, ma_bd_some, ma_bd_none, ma_tl1, ma_tl0, ma_ap1, ma_ap0, b2i_0, b2i_1, b2i_01, ma_l10, ma_l01, eq_self, true_or, or_true, not_true_eq_false, not_false_eq_true, Bool.false_eq_true]
  have xS : ∀ (R' F' : Nat → Int32) (G' : Nat → Nat → Int32) (c : Int32), R' 4 = -1 → sp_ok F' G' → ma_ex (d + 7) 72 33 [some (vR 1 0 0), some (vI sv), some (vI 0), none] [vI c] (ma_rd x R' L F' G') = some (some (vI c), ma_sh (ma_u (ma_rd x R' L F' G') 1 0 0 10 (-1)) 0 (sp_bF (x.1 2 0 0) F') (sp_bG (F' 1) (x.1 4 0) G')) := fun R' F' G' c h hk => by
    have b24 : (ma_u (ma_rd x R' L F' G') 1 0 0 10 (-1)).1 2 4 0 = F' := by
      rw [ma_u_g (by decide), ma_rd_F]
    have b44 : (ma_u (ma_rd x R' L F' G') 1 0 0 10 (-1)).1 4 4 = G' := by
      rw [ma_u_g (by decide), ma_rd_G]
    have b20 : (ma_u (ma_rd x R' L F' G') 1 0 0 10 (-1)).1 2 0 0 = x.1 2 0 0 := by
      rw [ma_u_g (by decide)]
      funext k
      simp [ma_rd]
    have b40 : (ma_u (ma_rd x R' L F' G') 1 0 0 10 (-1)).1 4 0 = x.1 4 0 := by
      rw [ma_u_g (by decide)]
      funext r k
      simp [ma_rd]
    have hb := cx_become (d + 5) 0 4 (ma_u (ma_rd x R' L F' G') 1 0 0 10 (-1)) (by decide) (by rw [b24]; exact hk.1) (by rw [b24]; exact hk.2.1)
    rw [b24, b44, b20, b40] at hb
    rw [bk_72_33, ma_rd_R, h, ma_u_k, if_pos rfl, if_pos rfl, bk_72_60, hb]
    simp only [bk_72_74, ↓reduceIte, ma_bd_some, ma_bd_none, ma_tl1, ma_tl0, ma_ap1, ma_ap0, b2i_0, b2i_1, b2i_01, ma_l10, ma_l01, eq_self, true_or, or_true, not_true_eq_false, not_false_eq_true, Bool.false_eq_true]
  have mF : ∀ (S' : Nat → Int32) (T' : Nat → Nat → Int32) (n : Int32) (p : Nat), S' 30 = nI p → ma_ex (d + 7) 145 141 [some (vR 20 0 0), some (vI sv), some (vI 0), some (vI n), some (vI 0)] [] (ma_mh m S' T') = some (some (vI (-6)), sp_rm (ma_mh m (upd (sp_getF S' T' 15 0) 9 (nI p)) (sp_getG T' 15 0)) (-6)) := fun S' T' n p h => by
    have hg := cm_all_get (d + 5) 15 0 m S' T' (by omega) (by decide) (by decide)
    rw [nI_0] at hg
    have e30 : sp_getF S' T' 15 0 30 = nI p := h
    rw [bk_145_141, hg, ma_bd_some, ma_tl0, ma_ap0, bk_145_151, ma_mh_F, e30, ma_mh_uF, cm_no _ _ _ sp_isb6]
    simp only [bk_145_165, ↓reduceIte, ma_bd_some, ma_bd_none, ma_tl1, ma_tl0, ma_ap1, ma_ap0, b2i_0, b2i_1, b2i_01, ma_l10, ma_l01, eq_self, true_or, or_true, not_true_eq_false, not_false_eq_true, Bool.false_eq_true]
  rw [hX, pre, prm]
  rcases item_sim d (d + 1) Z s 0 (200 * t) x m L R Fb S Gb T (Nat.zero_le _) (by omega) hR2 hR3 hR4 hM hS27 hH with ⟨p, R', F', G', S', T', p0, i1, i2, i3, i4, i5, i6, i7⟩ | ⟨a', R', F', G', S', T', p0, p1, i1, i2, i3, i4, i5, i6, i7, i8, i9, i10⟩
  · obtain ⟨q1, q2, q3, _⟩ := hTi i6 i7
    refine ⟨some (vI (-6)), _, _, ?_, ?_, hill_ivF t x m (nI p) hi R' L F' S' G' T' q1 q2 q3⟩
    · rw [i1, ma_bd_some, ma_tl0, ma_ap0, bk_24_57, bk_24_59, ma_rd_R, i3, if_neg (nI_n1 (f := p) (by omega)), bk_24_102, ma_bd_some, ma_tl1, ma_ap1]
      exact xF R' F' G' 1 p p0 i3
    · rw [i4, ma_bd_some, ma_tl1, ma_ap1, bk_145_61, bk_145_63, if_pos rfl, bk_145_134, if_pos rfl]
      exact mF S' T' 1 p i5
  · have hM' : sp_MT m L Z s S' T' := sp_MT_T Z s m L (sp_MT_S hM (i7 26 (by omega) (by omega) (by omega) (by omega)) (i7 28 (by omega) (by omega) (by omega) (by omega))) (fun r q hq => i8 r q (by omega) (by omega))
    rcases hill_loop d (d + 1) Z s (200 * t + 1) x m L Fb S T sv 0 s (by omega) (Z - a') a' 1 R' F' S' G' T' (by omega) (by omega) i2 i4 i3 hM' i6 (sp_HR_B (by omega) i9) i7 i8 i10 with ⟨j, R2, F2, G2, S2, T2, k1, k2, k3, k4, k5, k6, k7⟩ | ⟨p, c, n, R2, F2, G2, S2, T2, k0, k1, k2, k3, k4, k5, k6⟩
    · rw [show nI 1 = (1 : Int32) from rfl] at k1 k3
      obtain ⟨q1, q2, q3, q4⟩ := hTi k4 k5
      refine ⟨some (vI (nI j)), _, _, ?_, ?_, hill_ivS t x m hi R2 L F2 S2 G2 T2 (sp_HR_B (by omega) k6) (by rw [← hF1]; exact k7) q4 (q1 45 (Or.inl rfl)) (q1 46 (Or.inr rfl)) q2⟩
      · rw [i1, ma_bd_some, ma_tl0, ma_ap0, bk_24_57, k1, ma_bd_some, ma_tl1, ma_ap1]
        exact xS R2 F2 G2 (nI j) k2 k6.2.1
      · rw [i5, ma_bd_some, ma_tl1, ma_ap1, bk_145_61]
        exact k3
    · rw [show nI 1 = (1 : Int32) from rfl] at k1 k3
      obtain ⟨q1, q2, q3, q4⟩ := hTi k5 k6
      refine ⟨some (vI (-6)), _, _, ?_, ?_, hill_ivF t x m (nI p) hi R2 L F2 S2 G2 T2 q1 q2 q3⟩
      · rw [i1, ma_bd_some, ma_tl0, ma_ap0, bk_24_57, k1, ma_bd_some, ma_tl1, ma_ap1]
        exact xF R2 F2 G2 c p k0 k2
      · rw [i5, ma_bd_some, ma_tl1, ma_ap1, bk_145_61]
        exact k3.trans (mF S2 T2 n p k4)
