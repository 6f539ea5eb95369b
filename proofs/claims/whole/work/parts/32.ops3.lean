/-! PART 32: calls: ask, day, rider. -/
theorem cm_isAsked0 (d : Nat) (v : Int32) (σ : ma_S) : ma_cal (d + 1) 133 [vR 20 0 0, vI 0, vI v] σ = some (some (vI (b2i (0 ≤ v ∧ v ≤ 999))), σ) := by
  have h := cm_isAsked d 0 v σ
  have a : ((2 : Int32) ≤ 0) = False := by decide
  simp only [a, if_true, if_false] at h
  exact h
theorem cm_isAsked1 (d : Nat) (v : Int32) (σ : ma_S) : ma_cal (d + 1) 133 [vR 20 0 0, vI 1, vI v] σ = some (some (vI (b2i (0 ≤ v ∧ v ≤ 99))), σ) := by
  have h := cm_isAsked d 1 v σ
  have a : ((2 : Int32) ≤ 1) = False := by decide
  have b : ((1 : Int32) = 0) = False := by decide
  simp only [a, b, if_true, if_false] at h
  exact h
theorem cm_isAsked2 (d : Nat) (v : Int32) (σ : ma_S) : ma_cal (d + 1) 133 [vR 20 0 0, vI 2, vI v] σ = some (some (vI (b2i (1 ≤ v ∧ v ≤ 9))), σ) := by
  have h := cm_isAsked d 2 v σ
  have a : ((2 : Int32) ≤ 2) = True := by decide
  have b : ((2 : Int32) = 0) = False := by decide
  have c : ((2 : Int32) = 1) = False := by decide
  simp only [a, b, c, if_true, if_false] at h
  exact h
theorem cm_isAsked3 (d : Nat) (v : Int32) (σ : ma_S) : ma_cal (d + 1) 133 [vR 20 0 0, vI 3, vI v] σ = some (some (vI (b2i (1 ≤ v ∧ v ≤ 9))), σ) := by
  have h := cm_isAsked d 3 v σ
  have a : ((2 : Int32) ≤ 3) = True := by decide
  have b : ((3 : Int32) = 0) = False := by decide
  have c : ((3 : Int32) = 1) = False := by decide
  simp only [a, b, c, if_true, if_false] at h
  exact h
theorem op_ask (d t : Nat) (x m : ma_S) (w v : Int32) (hi : ma_Iv t x m) : ma_Op (d + 2) 71 135 [vI w, vI v] t x m := by
  have e0 : (0 : Int32).toInt = 0 := rfl
  have e1 : (1 : Int32).toInt = 1 := rfl
  have e3 : (3 : Int32).toInt = 3 := rfl
  have e9 : (9 : Int32).toInt = 9 := rfl
  have e99 : (99 : Int32).toInt = 99 := rfl
  have e999 : (999 : Int32).toInt = 999 := rfl
  have n10 : ((1 : Int32) = 0) = False := by decide
  have n20 : ((2 : Int32) = 0) = False := by decide
  have n21 : ((2 : Int32) = 1) = False := by decide
  have n30 : ((3 : Int32) = 0) = False := by decide
  have n31 : ((3 : Int32) = 1) = False := by decide
  have n32 : ((3 : Int32) = 2) = False := by decide
  have n01 : ((0 : Int32) = 1) = False := by decide
  have n02 : ((0 : Int32) = 2) = False := by decide
  have n03 : ((0 : Int32) = 3) = False := by decide
  have n12 : ((1 : Int32) = 2) = False := by decide
  have n13 : ((1 : Int32) = 3) = False := by decide
  have n23 : ((2 : Int32) = 3) = False := by decide
  have l0 : ((0 : Int32) < 0) = False := by decide
  have l1 : ((1 : Int32) < 0) = False := by decide
  have l2 : ((2 : Int32) < 0) = False := by decide
  have l3 : ((3 : Int32) < 0) = False := by decide
  have g0 : ((3 : Int32) < 0) = False := by decide
  have g1 : ((3 : Int32) < 1) = False := by decide
  have g2 : ((3 : Int32) < 2) = False := by decide
  have g3 : ((3 : Int32) < 3) = False := by decide
  unfold ma_Op
  rw [en_71, en_135]
  by_cases w0 : w = 0
  · subst w0
    by_cases c : 0 ≤ v ∧ v ≤ 999
    · have c1 := ma_le.mp c.1
      have c2 := ma_le.mp c.2
      refine ⟨some (vI (x.1 2 0 0 4)), _, _, ?_, ?_, ma_Iv_uF (k := 4) (v := v) (by omega) (by omega) (fun _ => by omega) (by omega) (ma_Iv_s hi)⟩
      · simp only [bk_71_0, bk_71_4, bk_71_12, bk_71_15, bk_71_34, bk_71_39, bk_71_46, bk_71_49, bk_71_68, bk_71_73, bk_71_80, bk_71_83, bk_71_102, bk_71_107, bk_71_114, bk_71_117, bk_71_136, bk_71_142, bk_71_143, cx_isIn, eq_true c, ↓reduceIte, ma_bd_some, ma_bd_none, ma_tl1, ma_tl0, ma_ap1, ma_ap0, b2i_0, b2i_1, b2i_01, ma_l10, ma_l01, eq_self, true_or, or_true, not_true_eq_false, not_false_eq_true, Bool.false_eq_true]
      · simp only [bk_135_0, bk_135_4, bk_135_9, bk_135_15, bk_135_18, bk_135_24, bk_135_27, bk_135_33, cm_isAsked0, eq_true c, l0, g0, en_134, bk_134_0, bk_134_4, bk_134_11, bk_134_16, bk_134_23, bk_134_28, bk_134_35, bk_134_39, bk_134_68, bk_134_76, bk_134_84, bk_134_92, bk_134_97, ma_Iv_F hi 4 (by omega) (by omega), ↓reduceIte, ma_bd_some, ma_bd_none, ma_tl1, ma_tl0, ma_ap1, ma_ap0, b2i_0, b2i_1, b2i_01, ma_l10, ma_l01, eq_self, true_or, or_true, not_true_eq_false, not_false_eq_true, Bool.false_eq_true]
    · refine ⟨some (vI (-6)), sp_rx x (-6), sp_rm m (-6), ?_, ?_, ma_Iv_no sp_isb6 (ma_Iv_s hi)⟩
      · simp only [bk_71_0, bk_71_4, bk_71_12, bk_71_15, bk_71_34, bk_71_39, bk_71_46, bk_71_49, bk_71_68, bk_71_73, bk_71_80, bk_71_83, bk_71_102, bk_71_107, bk_71_114, bk_71_117, bk_71_136, bk_71_142, bk_71_143, cx_isIn, eq_false c, n01, n02, n03, cx_refuse _ _ _ sp_isb6, ↓reduceIte, ma_bd_some, ma_bd_none, ma_tl1, ma_tl0, ma_ap1, ma_ap0, b2i_0, b2i_1, b2i_01, ma_l10, ma_l01, eq_self, true_or, or_true, not_true_eq_false, not_false_eq_true, Bool.false_eq_true]
      · simp only [bk_135_0, bk_135_4, bk_135_9, bk_135_15, bk_135_18, bk_135_24, bk_135_27, bk_135_33, cm_isAsked0, eq_false c, l0, g0, cm_no _ _ _ sp_isb6, ↓reduceIte, ma_bd_some, ma_bd_none, ma_tl1, ma_tl0, ma_ap1, ma_ap0, b2i_0, b2i_1, b2i_01, ma_l10, ma_l01, eq_self, true_or, or_true, not_true_eq_false, not_false_eq_true, Bool.false_eq_true]
  by_cases w1 : w = 1
  · subst w1
    by_cases c : 0 ≤ v ∧ v ≤ 99
    · refine ⟨some (vI (x.1 2 0 0 5)), _, _, ?_, ?_, ma_Iv_uF (k := 5) (v := v) (by omega) (by omega) (by omega) (by omega) (ma_Iv_s hi)⟩
      · simp only [bk_71_0, bk_71_4, bk_71_12, bk_71_15, bk_71_34, bk_71_39, bk_71_46, bk_71_49, bk_71_68, bk_71_73, bk_71_80, bk_71_83, bk_71_102, bk_71_107, bk_71_114, bk_71_117, bk_71_136, bk_71_142, bk_71_143, cx_isIn, eq_true c, n10, ↓reduceIte, ma_bd_some, ma_bd_none, ma_tl1, ma_tl0, ma_ap1, ma_ap0, b2i_0, b2i_1, b2i_01, ma_l10, ma_l01, eq_self, true_or, or_true, not_true_eq_false, not_false_eq_true, Bool.false_eq_true]
      · simp only [bk_135_0, bk_135_4, bk_135_9, bk_135_15, bk_135_18, bk_135_24, bk_135_27, bk_135_33, cm_isAsked1, eq_true c, l1, g1, n10, en_134, bk_134_0, bk_134_4, bk_134_11, bk_134_16, bk_134_23, bk_134_28, bk_134_35, bk_134_39, bk_134_68, bk_134_76, bk_134_84, bk_134_92, bk_134_97, ma_Iv_F hi 5 (by omega) (by omega), ↓reduceIte, ma_bd_some, ma_bd_none, ma_tl1, ma_tl0, ma_ap1, ma_ap0, b2i_0, b2i_1, b2i_01, ma_l10, ma_l01, eq_self, true_or, or_true, not_true_eq_false, not_false_eq_true, Bool.false_eq_true]
    · refine ⟨some (vI (-6)), sp_rx x (-6), sp_rm m (-6), ?_, ?_, ma_Iv_no sp_isb6 (ma_Iv_s hi)⟩
      · simp only [bk_71_0, bk_71_4, bk_71_12, bk_71_15, bk_71_34, bk_71_39, bk_71_46, bk_71_49, bk_71_68, bk_71_73, bk_71_80, bk_71_83, bk_71_102, bk_71_107, bk_71_114, bk_71_117, bk_71_136, bk_71_142, bk_71_143, cx_isIn, eq_false c, n10, n12, n13, cx_refuse _ _ _ sp_isb6, ↓reduceIte, ma_bd_some, ma_bd_none, ma_tl1, ma_tl0, ma_ap1, ma_ap0, b2i_0, b2i_1, b2i_01, ma_l10, ma_l01, eq_self, true_or, or_true, not_true_eq_false, not_false_eq_true, Bool.false_eq_true]
      · simp only [bk_135_0, bk_135_4, bk_135_9, bk_135_15, bk_135_18, bk_135_24, bk_135_27, bk_135_33, cm_isAsked1, eq_false c, l1, g1, cm_no _ _ _ sp_isb6, ↓reduceIte, ma_bd_some, ma_bd_none, ma_tl1, ma_tl0, ma_ap1, ma_ap0, b2i_0, b2i_1, b2i_01, ma_l10, ma_l01, eq_self, true_or, or_true, not_true_eq_false, not_false_eq_true, Bool.false_eq_true]
  by_cases w2 : w = 2
  · subst w2
    by_cases c : 1 ≤ v ∧ v ≤ 9
    · have c1 := ma_le.mp c.1
      have c2 := ma_le.mp c.2
      refine ⟨some (vI (x.1 2 0 0 6)), _, _, ?_, ?_, ma_Iv_uF (k := 6) (v := v) (by omega) (by omega) (by omega) (fun _ => by omega) (ma_Iv_s hi)⟩
      · simp only [bk_71_0, bk_71_4, bk_71_12, bk_71_15, bk_71_34, bk_71_39, bk_71_46, bk_71_49, bk_71_68, bk_71_73, bk_71_80, bk_71_83, bk_71_102, bk_71_107, bk_71_114, bk_71_117, bk_71_136, bk_71_142, bk_71_143, cx_isIn, eq_true c, n20, n21, ↓reduceIte, ma_bd_some, ma_bd_none, ma_tl1, ma_tl0, ma_ap1, ma_ap0, b2i_0, b2i_1, b2i_01, ma_l10, ma_l01, eq_self, true_or, or_true, not_true_eq_false, not_false_eq_true, Bool.false_eq_true]
      · simp only [bk_135_0, bk_135_4, bk_135_9, bk_135_15, bk_135_18, bk_135_24, bk_135_27, bk_135_33, cm_isAsked2, eq_true c, l2, g2, n20, n21, en_134, bk_134_0, bk_134_4, bk_134_11, bk_134_16, bk_134_23, bk_134_28, bk_134_35, bk_134_39, bk_134_68, bk_134_76, bk_134_84, bk_134_92, bk_134_97, ma_Iv_F hi 6 (by omega) (by omega), ↓reduceIte, ma_bd_some, ma_bd_none, ma_tl1, ma_tl0, ma_ap1, ma_ap0, b2i_0, b2i_1, b2i_01, ma_l10, ma_l01, eq_self, true_or, or_true, not_true_eq_false, not_false_eq_true, Bool.false_eq_true]
    · refine ⟨some (vI (-6)), sp_rx x (-6), sp_rm m (-6), ?_, ?_, ma_Iv_no sp_isb6 (ma_Iv_s hi)⟩
      · simp only [bk_71_0, bk_71_4, bk_71_12, bk_71_15, bk_71_34, bk_71_39, bk_71_46, bk_71_49, bk_71_68, bk_71_73, bk_71_80, bk_71_83, bk_71_102, bk_71_107, bk_71_114, bk_71_117, bk_71_136, bk_71_142, bk_71_143, cx_isIn, eq_false c, n20, n21, n23, cx_refuse _ _ _ sp_isb6, ↓reduceIte, ma_bd_some, ma_bd_none, ma_tl1, ma_tl0, ma_ap1, ma_ap0, b2i_0, b2i_1, b2i_01, ma_l10, ma_l01, eq_self, true_or, or_true, not_true_eq_false, not_false_eq_true, Bool.false_eq_true]
      · simp only [bk_135_0, bk_135_4, bk_135_9, bk_135_15, bk_135_18, bk_135_24, bk_135_27, bk_135_33, cm_isAsked2, eq_false c, l2, g2, cm_no _ _ _ sp_isb6, ↓reduceIte, ma_bd_some, ma_bd_none, ma_tl1, ma_tl0, ma_ap1, ma_ap0, b2i_0, b2i_1, b2i_01, ma_l10, ma_l01, eq_self, true_or, or_true, not_true_eq_false, not_false_eq_true, Bool.false_eq_true]
  by_cases w3 : w = 3
  · subst w3
    by_cases c : 1 ≤ v ∧ v ≤ 9
    · have c1 := ma_le.mp c.1
      have c2 := ma_le.mp c.2
      refine ⟨some (vI (x.1 2 0 0 7)), _, _, ?_, ?_, ma_Iv_uF (k := 7) (v := v) (by omega) (by omega) (by omega) (fun _ => by omega) (ma_Iv_s hi)⟩
      · simp only [bk_71_0, bk_71_4, bk_71_12, bk_71_15, bk_71_34, bk_71_39, bk_71_46, bk_71_49, bk_71_68, bk_71_73, bk_71_80, bk_71_83, bk_71_102, bk_71_107, bk_71_114, bk_71_117, bk_71_136, bk_71_142, bk_71_143, cx_isIn, eq_true c, n30, n31, n32, ↓reduceIte, ma_bd_some, ma_bd_none, ma_tl1, ma_tl0, ma_ap1, ma_ap0, b2i_0, b2i_1, b2i_01, ma_l10, ma_l01, eq_self, true_or, or_true, not_true_eq_false, not_false_eq_true, Bool.false_eq_true]
      · simp only [bk_135_0, bk_135_4, bk_135_9, bk_135_15, bk_135_18, bk_135_24, bk_135_27, bk_135_33, cm_isAsked3, eq_true c, l3, g3, n30, n31, n32, en_134, bk_134_0, bk_134_4, bk_134_11, bk_134_16, bk_134_23, bk_134_28, bk_134_35, bk_134_39, bk_134_68, bk_134_76, bk_134_84, bk_134_92, bk_134_97, ma_Iv_F hi 7 (by omega) (by omega), ↓reduceIte, ma_bd_some, ma_bd_none, ma_tl1, ma_tl0, ma_ap1, ma_ap0, b2i_0, b2i_1, b2i_01, ma_l10, ma_l01, eq_self, true_or, or_true, not_true_eq_false, not_false_eq_true, Bool.false_eq_true]
    · refine ⟨some (vI (-6)), sp_rx x (-6), sp_rm m (-6), ?_, ?_, ma_Iv_no sp_isb6 (ma_Iv_s hi)⟩
      · simp only [bk_71_0, bk_71_4, bk_71_12, bk_71_15, bk_71_34, bk_71_39, bk_71_46, bk_71_49, bk_71_68, bk_71_73, bk_71_80, bk_71_83, bk_71_102, bk_71_107, bk_71_114, bk_71_117, bk_71_136, bk_71_142, bk_71_143, cx_isIn, eq_false c, n30, n31, n32, cx_refuse _ _ _ sp_isb6, ↓reduceIte, ma_bd_some, ma_bd_none, ma_tl1, ma_tl0, ma_ap1, ma_ap0, b2i_0, b2i_1, b2i_01, ma_l10, ma_l01, eq_self, true_or, or_true, not_true_eq_false, not_false_eq_true, Bool.false_eq_true]
      · simp only [bk_135_0, bk_135_4, bk_135_9, bk_135_15, bk_135_18, bk_135_24, bk_135_27, bk_135_33, cm_isAsked3, eq_false c, l3, g3, cm_no _ _ _ sp_isb6, ↓reduceIte, ma_bd_some, ma_bd_none, ma_tl1, ma_tl0, ma_ap1, ma_ap0, b2i_0, b2i_1, b2i_01, ma_l10, ma_l01, eq_self, true_or, or_true, not_true_eq_false, not_false_eq_true, Bool.false_eq_true]
  · refine ⟨some (vI (-6)), sp_rx x (-6), sp_rm m (-6), ?_, ?_, ma_Iv_no sp_isb6 (ma_Iv_s hi)⟩
    · simp only [bk_71_0, bk_71_4, bk_71_12, bk_71_15, bk_71_34, bk_71_39, bk_71_46, bk_71_49, bk_71_68, bk_71_73, bk_71_80, bk_71_83, bk_71_102, bk_71_107, bk_71_114, bk_71_117, bk_71_136, bk_71_142, bk_71_143, w0, w1, w2, w3, cx_refuse _ _ _ sp_isb6, ↓reduceIte, ma_bd_some, ma_bd_none, ma_tl1, ma_tl0, ma_ap1, ma_ap0, b2i_0, b2i_1, b2i_01, ma_l10, ma_l01, eq_self, true_or, or_true, not_true_eq_false, not_false_eq_true, Bool.false_eq_true]
    · by_cases b1 : w < 0
      · simp only [bk_135_0, bk_135_4, bk_135_9, bk_135_15, bk_135_18, bk_135_24, bk_135_27, bk_135_33, b1, cm_no _ _ _ sp_isb6, ↓reduceIte, ma_bd_some, ma_bd_none, ma_tl1, ma_tl0, ma_ap1, ma_ap0, b2i_0, b2i_1, b2i_01, ma_l10, ma_l01, eq_self, true_or, or_true, not_true_eq_false, not_false_eq_true, Bool.false_eq_true]
      · have b2 : (3 < w) = True := eq_true (by
          have e2 : (2 : Int32).toInt = 2 := rfl
          rw [ma_lt] at b1 ⊢
          rw [ma_eq] at w0 w1 w2 w3
          omega)
        simp only [bk_135_0, bk_135_4, bk_135_9, bk_135_15, bk_135_18, bk_135_24, bk_135_27, bk_135_33, b1, b2, cm_no _ _ _ sp_isb6, ↓reduceIte, ma_bd_some, ma_bd_none, ma_tl1, ma_tl0, ma_ap1, ma_ap0, b2i_0, b2i_1, b2i_01, ma_l10, ma_l01, eq_self, true_or, or_true, not_true_eq_false, not_false_eq_true, Bool.false_eq_true]
theorem sp_sum_congr {f g : Nat → Int32} : ∀ n, (∀ r, r < n → f r = g r) → sp_sum f n = sp_sum g n := by
  intro n
  induction n with
  | zero => intro _; rfl
  | succ n ih =>
    intro h
    show sp_sum f n + f n = sp_sum g n + g n
    rw [ih (fun r hr => h r (by omega)), h n (by omega)]
theorem ma_Iv_n {t : Nat} {x m : ma_S} (hi : ma_Iv t x m) : ∃ n : Nat, n ≤ 4 ∧ x.1 2 0 0 1 = nI n ∧ m.1 20 0 0 1 = nI n := by
  obtain ⟨n, hn, hF⟩ := sp_n_of (ma_Iv_ok hi)
  exact ⟨n, hn, hF, (ma_Iv_F hi 1 (by omega) (by omega)).trans hF⟩
theorem cm_day_loop (d n : Nat) (v b : Int32) (σ : ma_S) (F : Nat → Int32) (G : Nat → Nat → Int32) (hF : F 1 = nI n) (hn : n ≤ 4) :
    ∀ c k, n - k = c → k ≤ n → ma_ex (d + 1) 192 27 [some (vR 20 0 0), some (vI v), some (vI b), some (vI (nI k))] [] (ma_mh σ F (sp_dGk k G)) = ma_ex (d + 1) 192 69 [some (vR 20 0 0), some (vI v), some (vI b), some (vI (nI n))] [] (ma_mh σ F (sp_dGk n G)) := by
  intro c
  induction c with
  | zero =>
    intro k hj hk
    have : k = n := by omega
    subst this
    rw [bk_192_27, if_pos (by rw [ma_mh_F, hF]; exact nI_le (Nat.le_refl _) (by omega))]
  | succ c ih =>
    intro k hj hk
    have hlt : k < n := by omega
    have hin := sp_nIin hlt hn
    have hcl : (nI k).toNatClampNeg = k := nI_clamp (by omega)
    have e : upd (upd (upd (upd (sp_dGk k G k) 3 0) 4 0) 5 0) 6 0 = sp_dayR (sp_dGk k G k) := by
      funext q
      simp only [upd, sp_dayR]
      by_cases k3 : q = 3
      · subst k3; simp
      by_cases k4 : q = 4
      · subst k4; simp
      by_cases k5 : q = 5
      · subst k5; simp
      by_cases k6 : q = 6
      · subst k6; simp
      · rw [if_neg k6, if_neg k5, if_neg k4, if_neg k3, if_neg (by omega)]
    rw [← ih (k + 1) (by omega) (by omega), bk_192_27, if_neg (by rw [ma_mh_F, hF]; exact nI_ge hlt (by omega))]
    simp only [bk_192_35, ma_if_pos hin, hcl, ma_mh_uA, ma_uG_at, ma_uG_uG, e, sp_dGk_s, nI_succ, ↓reduceIte, ma_bd_some, ma_bd_none, ma_tl1, ma_tl0, ma_ap1, ma_ap0, b2i_0, b2i_1, b2i_01, ma_l10, ma_l01, eq_self, true_or, or_true, not_true_eq_false, not_false_eq_true, Bool.false_eq_true]
theorem sp_dayR_5 (R : Nat → Int32) : sp_dayR R 5 = 0 := by simp [sp_dayR]
theorem op_day (d t : Nat) (x m : ma_S) (v : Int32) (hi : ma_Iv t x m) : ma_Op (d + 3) 91 192 [vI v] t x m := by
  obtain ⟨n, hn, hF, hFm⟩ := ma_Iv_n hi
  have hni : (nI n).toInt = n := nI_toInt (by omega)
  unfold ma_Op
  rw [en_91, en_192]
  by_cases c : 0 ≤ v ∧ v ≤ 999
  · have c1 := ma_le.mp c.1
    have c2 := ma_le.mp c.2
    have e0 : (0 : Int32).toInt = 0 := rfl
    have e999 : (999 : Int32).toInt = 999 := rfl
    have hsum : sp_sum (fun r => m.1 50 5 0 r) n = sp_sum (fun r => x.1 4 0 r 5) n := sp_sum_congr n (fun r hr => ma_Iv_G hi r (by rw [hF, hni]; omega) 5 (by omega) (by omega))
    have hl := cm_day_loop (d + 1) n v (sp_sum (fun r => x.1 4 0 r 5) n) m (m.1 20 0 0) (ma_G m) hFm hn n 0 (by omega) (Nat.zero_le _)
    have e00 : sp_dGk 0 (ma_G m) = ma_G m := by funext r; simp [sp_dGk]
    rw [e00, ma_mh_id, nI_0] at hl
    have hH : ma_IvH (t + 1) (sp_dF v (x.1 2 0 0)) (sp_dGk n (x.1 4 0)) (sp_dF v (m.1 20 0 0)) (sp_dGk n (ma_G m)) := by
      obtain ⟨⟨hFF, hG⟩, hok, hrb, hnum⟩ := (ma_Iv_s hi).1
      have f1 : sp_dF v (x.1 2 0 0) 1 = x.1 2 0 0 1 := rfl
      refine ⟨⟨fun k a b => ?_, fun r hr k a b => ?_⟩, ?_, fun r hr => ?_, fun r hr => ?_⟩
      · unfold sp_dF
        rw [hFF 2 (by omega) (by omega), hFF 3 (by omega) (by omega), hFF k a b]
      · rw [f1, hF, hni] at hr
        unfold sp_dGk
        rw [if_pos (by omega), if_pos (by omega)]
        unfold sp_dayR
        rw [hG r (by rw [hF, hni]; omega) k a b]
      · obtain ⟨a1, a2, a3, a4, a5, a6, a7, a8, hr⟩ := hok
        refine ⟨a1, a2, by show (0 : Int) ≤ v.toInt; omega, by show v.toInt ≤ 999; omega, a5, a6, a7, a8, fun r hlt => ?_⟩
        rw [f1] at hlt
        obtain ⟨b1, b2, b3, b4⟩ := hr r hlt
        rw [hF, hni] at hlt
        unfold sp_dGk
        rw [if_pos (by omega)]
        exact ⟨b1, b2, Or.inl rfl, by show (0 : Int) ≤ (0 : Int32).toInt ∧ (0 : Int32).toInt ≤ 99; decide⟩
      · rw [f1, hF, hni] at hr
        unfold sp_dGk
        rw [if_pos (by omega), sp_dayR_5]
        constructor
        · decide
        · rw [e0]; omega
      · unfold sp_dGk
        split
        · exact hnum r hr
        · exact hnum r hr
    have hIv := ma_Iv_hill (Nat.le_succ t) hi hH (Int.le_refl _) (fun k hk => by unfold sp_dF; rw [if_neg (by omega), if_neg (by omega), if_neg (by omega)]) (fun r k hk => by
      unfold sp_dGk
      split
      · unfold sp_dayR; rw [if_neg (by omega)]
      · rfl)
    refine ⟨some (vI (sp_sum (fun r => x.1 4 0 r 5) n)), _, _, ?_, ?_, hIv⟩
    · simp only [bk_91_0, bk_91_8, bk_91_11, bk_91_17, bk_91_18, bk_91_25, bk_91_34, cx_isIn, eq_true c, cx_allRuns _ _ _ _ hF hn, cx_beginDay _ _ _ _ _ hF hn, ↓reduceIte, ma_bd_some, ma_bd_none, ma_tl1, ma_tl0, ma_ap1, ma_ap0, b2i_0, b2i_1, b2i_01, ma_l10, ma_l01, eq_self, true_or, or_true, not_true_eq_false, not_false_eq_true, Bool.false_eq_true]
    · have e5 : ma_la 5 = 4 := rfl
      simp only [bk_192_0, bk_192_6, bk_192_16, bk_192_24, cm_isAsked0, eq_true c, cm_allOf _ 5 _ _ hFm hn e5, hsum, hl, ↓reduceIte, ma_bd_some, ma_bd_none, ma_tl1, ma_tl0, ma_ap1, ma_ap0, b2i_0, b2i_1, b2i_01, ma_l10, ma_l01, eq_self, true_or, or_true, not_true_eq_false, not_false_eq_true, Bool.false_eq_true]
      simp only [bk_192_69, ma_mh_F, ma_mh_uF]
      congr 3
      funext q
      simp only [upd, sp_dF]
      by_cases k2 : q = 2
      · subst k2; simp
      by_cases k3 : q = 3
      · subst k3; simp
      by_cases k4 : q = 4
      · subst k4; simp
      · simp [k2, k3, k4]
  · refine ⟨some (vI (-6)), sp_rx x (-6), sp_rm m (-6), ?_, ?_, ma_Iv_no sp_isb6 (ma_Iv_s hi)⟩
    · simp only [bk_91_0, bk_91_8, bk_91_11, bk_91_17, bk_91_18, bk_91_25, bk_91_34, cx_isIn, eq_false c, cx_refuse _ _ _ sp_isb6, ↓reduceIte, ma_bd_some, ma_bd_none, ma_tl1, ma_tl0, ma_ap1, ma_ap0, b2i_0, b2i_1, b2i_01, ma_l10, ma_l01, eq_self, true_or, or_true, not_true_eq_false, not_false_eq_true, Bool.false_eq_true]
    · simp only [bk_192_0, bk_192_6, bk_192_9, bk_192_15, bk_192_16, bk_192_24, bk_192_27, bk_192_35, bk_192_69, cm_isAsked0, eq_false c, cm_no _ _ _ sp_isb6, ↓reduceIte, ma_bd_some, ma_bd_none, ma_tl1, ma_tl0, ma_ap1, ma_ap0, b2i_0, b2i_1, b2i_01, ma_l10, ma_l01, eq_self, true_or, or_true, not_true_eq_false, not_false_eq_true, Bool.false_eq_true]
