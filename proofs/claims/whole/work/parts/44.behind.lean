/-! PART 44: call: behind. -/
theorem cm_behind_told (d : Nat) (m : ma_S) (s n w : Int32) : ma_ex (d + 5) 180 0 [some (vR 20 0 0), some (vI s), some (vI n), some (vI w), none, none, none] [] m = ma_ex (d + 5) 180 39 [some (vR 20 0 0), some (vI s), some (vI n), some (vI w), some (vI (sp_td (sp_Q m s) (m.1 50 10 0 s.toNatClampNeg) n (decide (0 ≤ w ∧ w ≤ 3)))), none, none] [] m := by
  have hb := cm_bars (d + 2) m s n
  have hB := cm_barsOf (d + 1) m s n
  have m4 : ((-4 : Int32) = 0) = False := by decide
  have m5 : ((-5 : Int32) = 0) = False := by decide
  have e0 : (0 : Int32).toInt = 0 := rfl
  unfold sp_td at hB ⊢
  by_cases h : sp_Q m s = 0
  · rw [if_neg (fun z => z h)] at hb hB ⊢
    by_cases c1 : 0 ≤ n
    · rw [if_neg (fun z => z c1)] at hb hB ⊢
      by_cases c2 : m.1 50 10 0 s.toNatClampNeg < n
      · rw [if_pos c2] at hb
        rw [if_pos (Or.inl c2)]
        simp only [bk_180_0, bk_180_6, bk_180_26, hb, m5, ↓reduceIte, ma_bd_some, ma_bd_none, ma_tl1, ma_tl0, ma_ap1, ma_ap0, b2i_0, b2i_1, b2i_01, ma_l10, ma_l01, eq_self, true_or, or_true, not_true_eq_false, not_false_eq_true, Bool.false_eq_true]
      · rw [if_neg c2] at hb
        have c3 : ¬ (m.1 50 10 0 s.toNatClampNeg < n ∨ ¬ true = true) := fun z => z.elim c2 (fun w => w rfl)
        rw [if_neg c3] at hB
        by_cases c4 : 0 ≤ w ∧ w ≤ 3
        · have b1 : (w < 0) = False := eq_false (fun z => by have := ma_lt.mp z; have := ma_le.mp c4.1; omega)
          have c5 : ¬ (m.1 50 10 0 s.toNatClampNeg < n ∨ ¬ decide (0 ≤ w ∧ w ≤ 3) = true) := fun z => z.elim c2 (fun q => q (decide_eq_true c4))
          rw [if_neg c5]
          simp only [bk_180_0, bk_180_6, bk_180_13, bk_180_17, bk_180_26, bk_180_31, bk_180_37, hb, hB, b1, eq_true c4.2, ↓reduceIte, ma_bd_some, ma_bd_none, ma_tl1, ma_tl0, ma_ap1, ma_ap0, b2i_0, b2i_1, b2i_01, ma_l10, ma_l01, eq_self, true_or, or_true, not_true_eq_false, not_false_eq_true, Bool.false_eq_true]
        · have c5 : (m.1 50 10 0 s.toNatClampNeg < n ∨ ¬ decide (0 ≤ w ∧ w ≤ 3) = true) := Or.inr (by rw [decide_eq_true_iff]; exact c4)
          rw [if_pos c5]
          by_cases b1 : w < 0
          · simp only [bk_180_0, bk_180_6, bk_180_13, bk_180_22, bk_180_26, hb, b1, m5, ↓reduceIte, ma_bd_some, ma_bd_none, ma_tl1, ma_tl0, ma_ap1, ma_ap0, b2i_0, b2i_1, b2i_01, ma_l10, ma_l01, eq_self, true_or, or_true, not_true_eq_false, not_false_eq_true, Bool.false_eq_true]
          · have b2 : (w ≤ 3) = False := eq_false (fun z => c4 ⟨by rw [ma_lt] at b1; rw [ma_le]; omega, z⟩)
            simp only [bk_180_0, bk_180_6, bk_180_13, bk_180_17, bk_180_22, bk_180_26, hb, b1, b2, m5, ↓reduceIte, ma_bd_some, ma_bd_none, ma_tl1, ma_tl0, ma_ap1, ma_ap0, b2i_0, b2i_1, b2i_01, ma_l10, ma_l01, eq_self, true_or, or_true, not_true_eq_false, not_false_eq_true, Bool.false_eq_true]
    · rw [if_pos c1] at hb ⊢
      simp only [bk_180_0, bk_180_6, bk_180_26, hb, m4, ↓reduceIte, ma_bd_some, ma_bd_none, ma_tl1, ma_tl0, ma_ap1, ma_ap0, b2i_0, b2i_1, b2i_01, ma_l10, ma_l01, eq_self, true_or, or_true, not_true_eq_false, not_false_eq_true, Bool.false_eq_true]
  · rw [if_pos h] at hb ⊢
    simp only [bk_180_0, bk_180_6, bk_180_26, hb, h, ↓reduceIte, ma_bd_some, ma_bd_none, ma_tl1, ma_tl0, ma_ap1, ma_ap0, b2i_0, b2i_1, b2i_01, ma_l10, ma_l01, eq_self, true_or, or_true, not_true_eq_false, not_false_eq_true, Bool.false_eq_true]
theorem op_behind (d t : Nat) (x m : ma_S) (s n w : Int32) (ht : t < 1000) (hi : ma_Iv t x m) : ma_Op (d + 6) 85 180 [vI s, vI n, vI w] t x m := by
  unfold ma_Op
  rw [en_85, en_180]
  have hbk : b2i (0 ≤ w ∧ w ≤ 3) = b2i (decide (0 ≤ w ∧ w ≤ 3) = true) := by
    by_cases c : 0 ≤ w ∧ w ≤ 3
    · rw [b2i_t c, b2i_t (decide_eq_true c)]
    · rw [b2i_f c, b2i_f (by rw [decide_eq_true_iff]; exact c)]
  have hT := cx_told (d + 2) t x m s n (decide (0 ≤ w ∧ w ≤ 3)) hi
  rw [← hbk] at hT
  rw [cm_behind_told]
  by_cases h0 : sp_td (sp_Q m s) (m.1 50 10 0 s.toNatClampNeg) n (decide (0 ≤ w ∧ w ≤ 3)) = 0
  · obtain ⟨v, F, G, S, T, c1, c2, c3, c4, c5, c6, c7, c8⟩ := told_core d t x m s n ht hi _ h0
    obtain ⟨q0, _, _, kn, _⟩ := sp_td_0 h0
    obtain ⟨h8, h1⟩ := sp_Q_0 hi q0
    obtain ⟨hin, hs, hz⟩ := sp_in8 h8
    have hput := cm_all_put (d + 3) 17 0 m (m.1 20 0 0) (ma_G m) (by omega) (by decide) (by decide)
    have hget := cm_all_get (d + 3) 17 0 m S T (by omega) (by decide) (by decide)
    rw [nI_0, ma_mh_id] at hput
    rw [nI_0] at hget
    have hsx := ma_sx_h x 1 F G (by decide) (by decide)
    have hIv := ma_Iv_m (ma_sm_back m S T (fun q a _ => c7 q a) (fun r q a b => by rw [c8 r q a]; unfold sp_put; rw [if_neg (by omega)]) (fun j _ => c8 j 17 (by omega))) (ma_Iv_x hsx (ma_Iv_s hi))
    obtain ⟨N, hN4, hNF⟩ := sp_n_of c4
    have hNi : (nI N).toInt = N := nI_toInt (by omega)
    have hNS : S 1 = nI N := (c3.1 1 (by omega) (by omega)).symm.trans hNF
    have a1 := cx_allRuns (d + 4) 1 N (ma_sh x 1 F G) (by rw [ma_sh_F]; exact hNF) hN4
    have a2 := cx_allWaited (d + 4) 1 N (ma_sh x 1 F G) (by rw [ma_sh_F]; exact hNF) hN4
    rw [ma_sh_G] at a1 a2
    have b1 := cm_allOf (d + 4) 5 N (ma_mh m S T) (by rw [ma_mh_F]; exact hNS) hN4 rfl
    have b2 := cm_allOf (d + 4) 6 N (ma_mh m S T) (by rw [ma_mh_F]; exact hNS) hN4 rfl
    simp only [ma_mh_A] at b1 b2
    have s1 : sp_sum (fun r => T r 5) N = sp_sum (fun r => G r 5) N := sp_sum_congr N (fun r hr => (c3.2 r (by rw [hNF, hNi]; omega) 5 (by omega) (by omega)).symm)
    have s2 : sp_sum (fun r => T r 6) N = sp_sum (fun r => G r 6) N := sp_sum_congr N (fun r hr => (c3.2 r (by rw [hNF, hNi]; omega) 6 (by omega) (by omega)).symm)
    rw [s1] at b1
    rw [s2] at b2
    have e4 : S 4 = F 4 := (c3.1 4 (by omega) (by omega)).symm
    have e5 : S 5 = F 5 := (c3.1 5 (by omega) (by omega)).symm
    have n10 : ((1 : Int32) = 0) = False := by decide
    have n20 : ((2 : Int32) = 0) = False := by decide
    have n21 : ((2 : Int32) = 1) = False := by decide
    obtain ⟨u, hu⟩ : ∃ u : Int32, u = if w = 0 then sp_sum (fun r => G r 5) N else if w = 1 then F 4 else if w = 2 then sp_sum (fun r => G r 6) N else F 5 := ⟨_, rfl⟩
    have hmod : ma_ex (d + 5) 180 39 [some (vR 20 0 0), some (vI s), some (vI n), some (vI w), some (vI 0), none, none] [] m = ma_ex (d + 5) 180 128 [some (vR 20 0 0), some (vI s), some (vI n), some (vI w), some (vI 0), some (vI v), some (vI u)] [] (ma_mh m (sp_getF S T 17 0) (sp_getG T 17 0)) := by
      rw [hu]
      rcases Classical.propComplete (w = 0) with w0 | w0 <;> rcases Classical.propComplete (w = 1) with w1 | w1 <;> rcases Classical.propComplete (w = 2) with w2 | w2
      all_goals
        simp only [bk_180_39, bk_180_51, bk_180_61, bk_180_67, bk_180_73, bk_180_81, bk_180_84, bk_180_89, bk_180_96, bk_180_101, bk_180_109, bk_180_112, bk_180_116, hput, c2, b1, b2, w0, w1, w2, ma_mh_F, e4, e5, hget, ↓reduceIte, ma_bd_some, ma_bd_none, ma_tl1, ma_tl0, ma_ap1, ma_ap0, b2i_0, b2i_1, b2i_01, ma_l10, ma_l01, eq_self, true_or, or_true, not_true_eq_false, not_false_eq_true, Bool.false_eq_true]
    rw [h0, hmod]
    rcases Classical.propComplete (v = -1) with hv | hv
    · refine ⟨some (vI u), _, _, ?_, ?_, hIv⟩
      · rw [hu]
        rcases Classical.propComplete (w = 0) with w0 | w0 <;> rcases Classical.propComplete (w = 1) with w1 | w1 <;> rcases Classical.propComplete (w = 2) with w2 | w2
        all_goals
          simp only [bk_85_0, bk_85_9, bk_85_12, bk_85_19, bk_85_25, bk_85_26, bk_85_37, bk_85_41, bk_85_47, bk_85_48, bk_85_76, bk_85_83, bk_85_84, bk_85_92, bk_85_99, bk_85_100, cx_isIn, hT, h0, ma_if_pos hin, c1, hv, a1, a2, w0, w1, w2, ma_sh_F, ↓reduceIte, ma_bd_some, ma_bd_none, ma_tl1, ma_tl0, ma_ap1, ma_ap0, b2i_0, b2i_1, b2i_01, ma_l10, ma_l01, eq_self, true_or, or_true, not_true_eq_false, not_false_eq_true, Bool.false_eq_true]
      · simp only [bk_180_128, bk_180_134, bk_180_145, hv, ↓reduceIte, ma_bd_some, ma_bd_none, ma_tl1, ma_tl0, ma_ap1, ma_ap0, b2i_0, b2i_1, b2i_01, ma_l10, ma_l01, eq_self, true_or, or_true, not_true_eq_false, not_false_eq_true, Bool.false_eq_true]
    · refine ⟨some (vI (-6)), _, _, ?_, ?_, ma_Iv_no sp_isb6 hIv⟩
      · simp only [bk_85_0, bk_85_9, bk_85_12, bk_85_19, bk_85_25, bk_85_26, bk_85_37, bk_85_41, bk_85_47, bk_85_48, bk_85_76, bk_85_83, bk_85_84, bk_85_92, bk_85_99, bk_85_100, cx_isIn, hT, h0, ma_if_pos hin, c1, hv, cx_refuse _ _ _ sp_isb6, ↓reduceIte, ma_bd_some, ma_bd_none, ma_tl1, ma_tl0, ma_ap1, ma_ap0, b2i_0, b2i_1, b2i_01, ma_l10, ma_l01, eq_self, true_or, or_true, not_true_eq_false, not_false_eq_true, Bool.false_eq_true]
      · simp only [bk_180_128, bk_180_139, bk_180_145, hv, cm_no _ _ _ sp_isb6, ↓reduceIte, ma_bd_some, ma_bd_none, ma_tl1, ma_tl0, ma_ap1, ma_ap0, b2i_0, b2i_1, b2i_01, ma_l10, ma_l01, eq_self, true_or, or_true, not_true_eq_false, not_false_eq_true, Bool.false_eq_true]
  · have hb := sp_td_b sp_Q_b h0
    refine ⟨some (vI (sp_td (sp_Q m s) (m.1 50 10 0 s.toNatClampNeg) n (decide (0 ≤ w ∧ w ≤ 3)))), _, _, ?_, ?_, ma_Iv_no hb (ma_Iv_s hi)⟩
    · simp only [bk_85_0, bk_85_9, bk_85_12, bk_85_19, bk_85_25, bk_85_26, bk_85_37, bk_85_41, bk_85_47, bk_85_48, bk_85_76, bk_85_83, bk_85_84, bk_85_92, bk_85_99, bk_85_100, cx_isIn, hT, h0, cx_refuse _ _ _ hb, ↓reduceIte, ma_bd_some, ma_bd_none, ma_tl1, ma_tl0, ma_ap1, ma_ap0, b2i_0, b2i_1, b2i_01, ma_l10, ma_l01, eq_self, true_or, or_true, not_true_eq_false, not_false_eq_true, Bool.false_eq_true]
    · simp only [bk_180_39, bk_180_44, bk_180_50, h0, cm_no _ _ _ hb, ↓reduceIte, ma_bd_some, ma_bd_none, ma_tl1, ma_tl0, ma_ap1, ma_ap0, b2i_0, b2i_1, b2i_01, ma_l10, ma_l01, eq_self, true_or, or_true, not_true_eq_false, not_false_eq_true, Bool.false_eq_true]
