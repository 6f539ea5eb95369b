/-! PART 30: calls: fault, seed, takes, may, move, next. -/
def ma_Op (d a b : Nat) (as : List ma_V) (t : Nat) (x m : ma_S) : Prop := ∃ v x' m', ma_cal d a (vR 1 0 0 :: as) x = some (v, x') ∧ ma_cal d b (vR 20 0 0 :: as) m = some (v, m') ∧ ma_Iv (t + 1) x' m'
theorem sp_isb6 : sp_isb (-6) := by unfold sp_isb; decide
theorem sp_isb5 : sp_isb (-5) := by unfold sp_isb; decide
theorem sp_isb1 : sp_isb (-1) := by unfold sp_isb; decide
theorem sp_isb2 : sp_isb (-2) := by unfold sp_isb; decide
theorem sp_isb3 : sp_isb (-3) := by unfold sp_isb; decide
theorem sp_isb4 : sp_isb (-4) := by unfold sp_isb; decide
theorem sp_isb7 : sp_isb (-7) := by unfold sp_isb; decide
theorem ma_Iv_ok {t : Nat} {x m : ma_S} (hi : ma_Iv t x m) : sp_ok (x.1 2 0 0) (x.1 4 0) := hi.1.2.1
theorem ma_Iv_okm {t : Nat} {x m : ma_S} (hi : ma_Iv t x m) : sp_ok (m.1 20 0 0) (ma_G m) := sp_Re_ok hi.1.1 hi.1.2.1
theorem ma_Iv_s {t : Nat} {x m : ma_S} (hi : ma_Iv t x m) : ma_Iv (t + 1) x m := ma_Iv_mono (Nat.le_succ t) hi
theorem ma_Iv_F {t : Nat} {x m : ma_S} (hi : ma_Iv t x m) (k : Nat) (h1 : 1 ≤ k) (h2 : k ≤ 8) : m.1 20 0 0 k = x.1 2 0 0 k := (hi.1.1.1 k h1 h2).symm
theorem op_fault (d t : Nat) (x m : ma_S) (hi : ma_Iv t x m) : ma_Op (d + 1) 73 146 [] t x m := by
  refine ⟨some (vI (x.1 1 0 0 10)), x, m, ?_, ?_, ma_Iv_s hi⟩
  · rw [en_73]; simp only [bk_73_0]
  · rw [en_146]; simp only [bk_146_0]; rw [hi.2.2.2.2.2.1]
theorem op_takes (d t : Nat) (x m : ma_S) (mv : Int32) (hi : ma_Iv t x m) : ma_Op (d + 4) 74 157 [vI mv] t x m := by
  have hk := ma_Iv_ok hi
  have e1 := ma_Iv_F hi 1 (by omega) (by omega)
  unfold ma_Op
  rw [en_74, en_157]
  by_cases h : sp_isM (x.1 2 0 0 1) mv = true
  · have hp := sp_last_pos hk h
    have hne : (sp_last (x.1 2 0 0) (x.1 4 0) mv = -1) = False := eq_false (fun e => by rw [e] at hp; exact absurd hp (by decide))
    have hl := sp_Re_last hi.1.1 h
    have hin := sp_isM_in hk.2.1 h
    refine ⟨some (vI (sp_last (x.1 2 0 0) (x.1 4 0) mv)), x, m, ?_, ?_, ma_Iv_s hi⟩
    · simp only [bk_74_0, bk_74_8, bk_74_14, bk_74_20, bk_74_23, bk_74_24, cx_minutesOf _ _ _ _ hk.2.1, h, hne, ma_bd_some, ma_bd_none, ma_tl1, ma_tl0, ma_ap1, ma_ap0, b2i_0, b2i_1, b2i_01, ma_l10, ma_l01, eq_self, if_true, if_false, true_or, or_true, not_true_eq_false, not_false_eq_true, Bool.false_eq_true]
    · simp only [bk_157_0, bk_157_5, bk_157_8, bk_157_13, bk_157_16, bk_157_22, cm_isMove, cm_lasts _ _ _ hin.1 hin.2, e1, h, ← hl, ma_bd_some, ma_bd_none, ma_tl1, ma_tl0, ma_ap1, ma_ap0, b2i_0, b2i_1, b2i_01, ma_l10, ma_l01, eq_self, if_true, if_false, true_or, or_true, not_true_eq_false, not_false_eq_true, Bool.false_eq_true]
  · refine ⟨some (vI (-6)), sp_rx x (-6), sp_rm m (-6), ?_, ?_, ma_Iv_no sp_isb6 (ma_Iv_s hi)⟩
    · simp only [bk_74_0, bk_74_8, bk_74_14, bk_74_20, bk_74_23, bk_74_24, cx_minutesOf _ _ _ _ hk.2.1, h, cx_refuse _ _ _ sp_isb6, ma_bd_some, ma_bd_none, ma_tl1, ma_tl0, ma_ap1, ma_ap0, b2i_0, b2i_1, b2i_01, ma_l10, ma_l01, eq_self, if_true, if_false, true_or, or_true, not_true_eq_false, not_false_eq_true, Bool.false_eq_true]
    · simp only [bk_157_0, bk_157_5, bk_157_8, bk_157_13, bk_157_16, bk_157_22, cm_isMove, e1, h, cm_no _ _ _ sp_isb6, ma_bd_some, ma_bd_none, ma_tl1, ma_tl0, ma_ap1, ma_ap0, b2i_0, b2i_1, b2i_01, ma_l10, ma_l01, eq_self, if_true, if_false, true_or, or_true, not_true_eq_false, not_false_eq_true, Bool.false_eq_true]
theorem op_may (d t : Nat) (x m : ma_S) (mv : Int32) (hi : ma_Iv t x m) : ma_Op (d + 5) 75 158 [vI mv] t x m := by
  have hk := ma_Iv_ok hi
  have hkm := ma_Iv_okm hi
  have e1 := ma_Iv_F hi 1 (by omega) (by omega)
  have hmm := sp_Re_may mv hi.1.1
  unfold ma_Op
  rw [en_75, en_158]
  by_cases h : sp_isM (x.1 2 0 0 1) mv = true
  · by_cases h2 : sp_may (x.1 2 0 0) (x.1 4 0) mv = true
    all_goals
      first
        | refine ⟨some (vI (if sp_may (x.1 2 0 0) (x.1 4 0) mv = true then 1 else 0)), x, m, ?_, ?_, ma_Iv_s hi⟩
      · simp only [bk_75_0, bk_75_8, bk_75_11, bk_75_17, bk_75_18, bk_75_26, bk_75_29, bk_75_33, bk_75_34, cx_isMove, cx_mayBe _ _ _ _ hk, h, h2, ma_bd_some, ma_bd_none, ma_tl1, ma_tl0, ma_ap1, ma_ap0, b2i_0, b2i_1, b2i_01, ma_l10, ma_l01, eq_self, if_true, if_false, true_or, or_true, not_true_eq_false, not_false_eq_true, Bool.false_eq_true]
      · simp only [bk_158_0, bk_158_5, bk_158_8, bk_158_13, bk_158_16, bk_158_20, bk_158_24, bk_158_30, cm_isMove, cm_mayBe _ _ _ hkm, ← hmm, e1, h, h2, ma_bd_some, ma_bd_none, ma_tl1, ma_tl0, ma_ap1, ma_ap0, b2i_0, b2i_1, b2i_01, ma_l10, ma_l01, eq_self, if_true, if_false, true_or, or_true, not_true_eq_false, not_false_eq_true, Bool.false_eq_true]
  · refine ⟨some (vI (-6)), sp_rx x (-6), sp_rm m (-6), ?_, ?_, ma_Iv_no sp_isb6 (ma_Iv_s hi)⟩
    · simp only [bk_75_0, bk_75_8, bk_75_11, bk_75_17, bk_75_18, bk_75_26, bk_75_29, bk_75_33, bk_75_34, cx_isMove, h, cx_refuse _ _ _ sp_isb6, ma_bd_some, ma_bd_none, ma_tl1, ma_tl0, ma_ap1, ma_ap0, b2i_0, b2i_1, b2i_01, ma_l10, ma_l01, eq_self, if_true, if_false, true_or, or_true, not_true_eq_false, not_false_eq_true, Bool.false_eq_true]
    · simp only [bk_158_0, bk_158_5, bk_158_8, bk_158_13, bk_158_16, bk_158_20, bk_158_24, bk_158_30, cm_isMove, e1, h, cm_no _ _ _ sp_isb6, ma_bd_some, ma_bd_none, ma_tl1, ma_tl0, ma_ap1, ma_ap0, b2i_0, b2i_1, b2i_01, ma_l10, ma_l01, eq_self, if_true, if_false, true_or, or_true, not_true_eq_false, not_false_eq_true, Bool.false_eq_true]
theorem ma_mvG_7 (F : Nat → Int32) (G : Nat → Nat → Int32) (m : Int32) (r k : Nat) (h : 7 ≤ k) : sp_mvG F G m r k = G r k := by
  unfold sp_mvG sp_step
  split
  · split
    · unfold sp_along; rw [if_neg (by omega), if_neg (by omega), if_neg (by omega)]
    · unfold sp_rest; rw [if_neg (by omega), if_neg (by omega)]
  · rfl
theorem ma_mvG_0 (F : Nat → Int32) (G : Nat → Nat → Int32) (m : Int32) (r : Nat) : sp_mvG F G m r 0 = G r 0 := by
  unfold sp_mvG sp_step
  split
  · split <;> rfl
  · rfl
theorem ma_mvF_9 (F : Nat → Int32) (G : Nat → Nat → Int32) (m : Int32) (k : Nat) (h : 9 ≤ k) : sp_mvF F G m k = F k := by
  unfold sp_mvF sp_sl
  rw [if_neg (by omega), if_neg (by omega), if_neg (by omega)]
  unfold upd
  rw [if_neg (by omega)]
theorem ma_IvH_mv {t : Nat} {F S : Nat → Int32} {G T : Nat → Nat → Int32} {mv : Int32} (ht : t < 100000) (hi : ma_IvH t F G S T) (hm : sp_may F G mv = true) : ma_IvH (t + 1) (sp_mvF F G mv) (sp_mvG F G mv) (sp_mvF S T mv) (sp_mvG S T mv) := by
  obtain ⟨h1, h2, h3, h4⟩ := hi
  refine ⟨sp_Re_mv h1 ((sp_may_iff _ _ _).mp hm).1, sp_mv_ok h2 hm, fun r hr => ?_, fun r hr => by rw [ma_mvG_0]; exact h4 r hr⟩
  have := sp_rb2_mv mv (b := 200 * (t : Int)) (by omega) h3 r hr
  omega
theorem op_move (d t : Nat) (x m : ma_S) (mv : Int32) (ht : t < 1000) (hi : ma_Iv t x m) : ma_Op (d + 5) 88 188 [vI mv] t x m := by
  have hk := ma_Iv_ok hi
  have hkm := ma_Iv_okm hi
  have e1 := ma_Iv_F hi 1 (by omega) (by omega)
  have hmm := sp_Re_may mv hi.1.1
  unfold ma_Op
  rw [en_88, en_188]
  by_cases h : sp_may (x.1 2 0 0) (x.1 4 0) mv = true
  · have hM := ((sp_may_iff _ _ _).mp (hmm ▸ h)).1
    have hH := ma_IvH_mv (by omega) hi.1 h
    have hIv := ma_Iv_hill (Nat.le_succ t) hi hH (by rw [sp_mvF_1]; exact Int.le_refl _) (fun k hk => ma_mvF_9 _ _ _ _ hk) (fun r k hk => ma_mvG_7 _ _ _ _ _ hk)
    refine ⟨some (vI (sp_mvF (x.1 2 0 0) (x.1 4 0) mv 4)), _, _, ?_, ?_, hIv⟩
    · simp only [bk_88_0, bk_88_8, bk_88_11, bk_88_21, bk_88_27, cx_make _ _ _ _ hk, h, ma_sh_F, ma_bd_some, ma_bd_none, ma_tl1, ma_tl0, ma_ap1, ma_ap0, b2i_0, b2i_1, b2i_01, ma_l10, ma_l01, eq_self, if_true, if_false, true_or, or_true, not_true_eq_false, not_false_eq_true, Bool.false_eq_true]
    · have e4 := hH.1.1 4 (by omega) (by omega)
      simp only [bk_188_0, bk_188_5, bk_188_8, bk_188_14, bk_188_15, bk_188_20, cm_mayBe _ _ _ hkm, ← hmm, h, cm_moves _ _ _ hkm hM, ma_mh_F, ← e4, ma_bd_some, ma_bd_none, ma_tl1, ma_tl0, ma_ap1, ma_ap0, b2i_0, b2i_1, b2i_01, ma_l10, ma_l01, eq_self, if_true, if_false, true_or, or_true, not_true_eq_false, not_false_eq_true, Bool.false_eq_true]
  · refine ⟨some (vI (-6)), sp_rx x (-6), sp_rm m (-6), ?_, ?_, ma_Iv_no sp_isb6 (ma_Iv_s hi)⟩
    · simp only [bk_88_0, bk_88_8, bk_88_11, bk_88_21, bk_88_27, cx_make _ _ _ _ hk, h, cx_refuse _ _ _ sp_isb6, ma_bd_some, ma_bd_none, ma_tl1, ma_tl0, ma_ap1, ma_ap0, b2i_0, b2i_1, b2i_01, ma_l10, ma_l01, eq_self, if_true, if_false, true_or, or_true, not_true_eq_false, not_false_eq_true, Bool.false_eq_true]
    · simp only [bk_188_0, bk_188_5, bk_188_8, bk_188_14, bk_188_15, bk_188_20, cm_mayBe _ _ _ hkm, ← hmm, h, cm_no _ _ _ sp_isb6, ma_bd_some, ma_bd_none, ma_tl1, ma_tl0, ma_ap1, ma_ap0, b2i_0, b2i_1, b2i_01, ma_l10, ma_l01, eq_self, if_true, if_false, true_or, or_true, not_true_eq_false, not_false_eq_true, Bool.false_eq_true]
