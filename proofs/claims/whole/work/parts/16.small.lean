/-! PART 16: the small questions of both sides. -/
theorem cx_isShelf (d : Nat) (s : Int32) (σ : ma_S) : ma_cal (d + 1) 102 [vI s] σ = some (some (vI (b2i (0 ≤ s ∧ s < 8))), σ) := by
  rw [en_102]
  simp only [bk_102_0, bk_102_4, bk_102_10, bk_102_14, bk_102_15, ma_bd_some, ma_bd_none, ma_tl1, ma_tl0, ma_ap1, ma_ap0, b2i_0, b2i_1, b2i_01, ma_l10, ma_l01, eq_self, if_true, if_false, true_or, or_true, not_true_eq_false, not_false_eq_true, Bool.false_eq_true]
  simp only [b2i]
  repeat' split
  all_goals first | with_reducible rfl | (simp_all; done) | (exfalso; simp only [Int32.lt_iff_toInt_lt, Int32.le_iff_toInt_le, ← Int32.toInt_inj] at *; simp at *; omega)
theorem cx_isKind (d : Nat) (s : Int32) (σ : ma_S) : ma_cal (d + 1) 103 [vI s] σ = some (some (vI (b2i (0 ≤ s ∧ s < 7))), σ) := by
  rw [en_103]
  simp only [bk_103_0, bk_103_4, bk_103_10, bk_103_14, bk_103_15, ma_bd_some, ma_bd_none, ma_tl1, ma_tl0, ma_ap1, ma_ap0, b2i_0, b2i_1, b2i_01, ma_l10, ma_l01, eq_self, if_true, if_false, true_or, or_true, not_true_eq_false, not_false_eq_true, Bool.false_eq_true]
  simp only [b2i]
  repeat' split
  all_goals first | with_reducible rfl | (simp_all; done) | (exfalso; simp only [Int32.lt_iff_toInt_lt, Int32.le_iff_toInt_le, ← Int32.toInt_inj] at *; simp at *; omega)
theorem cx_isRule (d : Nat) (s : Int32) (σ : ma_S) : ma_cal (d + 1) 104 [vI s] σ = some (some (vI (b2i (0 ≤ s ∧ s < 4))), σ) := by
  rw [en_104]
  simp only [bk_104_0, bk_104_4, bk_104_9, bk_104_13, bk_104_14, ma_bd_some, ma_bd_none, ma_tl1, ma_tl0, ma_ap1, ma_ap0, b2i_0, b2i_1, b2i_01, ma_l10, ma_l01, eq_self, if_true, if_false, true_or, or_true, not_true_eq_false, not_false_eq_true, Bool.false_eq_true]
  simp only [b2i]
  repeat' split
  all_goals first | with_reducible rfl | (simp_all; done) | (exfalso; simp only [Int32.lt_iff_toInt_lt, Int32.le_iff_toInt_le, ← Int32.toInt_inj] at *; simp at *; omega)
theorem cx_isIn (d : Nat) (v a b : Int32) (σ : ma_S) : ma_cal (d + 1) 105 [vI v, vI a, vI b] σ = some (some (vI (b2i (a ≤ v ∧ v ≤ b))), σ) := by
  rw [en_105]
  have e1 : (v < a) = ¬ (a ≤ v) := by apply propext; rw [ma_lt, ma_le]; omega
  have e2 : (b < v) = ¬ (v ≤ b) := by apply propext; rw [ma_lt, ma_le]; omega
  by_cases c1 : a ≤ v <;> by_cases c2 : v ≤ b
  all_goals simp only [bk_105_0, bk_105_5, bk_105_10, bk_105_14, bk_105_15, e1, e2, c1, c2, ma_bd_some, ma_bd_none, ma_tl1, ma_tl0, ma_ap1, ma_ap0, b2i_0, b2i_1, b2i_01, ma_l10, ma_l01, eq_self, if_true, if_false, true_or, or_true, not_true_eq_false, not_false_eq_true, Bool.false_eq_true, and_self, and_true, and_false, b2i]
theorem cx_has (d i : Nat) (r : Int32) (σ : ma_S) : ma_cal (d + 1) 2 [vR 2 i 0, vI r] σ = some (some (vI (b2i (0 ≤ r ∧ r < σ.1 2 i 0 1))), σ) := by
  rw [en_2]
  simp only [bk_2_0, bk_2_4, bk_2_12, bk_2_16, bk_2_17, ma_bd_some, ma_bd_none, ma_tl1, ma_tl0, ma_ap1, ma_ap0, b2i_0, b2i_1, b2i_01, ma_l10, ma_l01, eq_self, if_true, if_false, true_or, or_true, not_true_eq_false, not_false_eq_true, Bool.false_eq_true]
  simp only [b2i]
  repeat' split
  all_goals first | with_reducible rfl | (simp_all; done) | (exfalso; simp only [Int32.lt_iff_toInt_lt, Int32.le_iff_toInt_le, ← Int32.toInt_inj] at *; simp at *; omega)
theorem cx_hasRoom (d i : Nat) (σ : ma_S) : ma_cal (d + 1) 3 [vR 2 i 0] σ = some (some (vI (b2i (σ.1 2 i 0 1 < 4))), σ) := by
  rw [en_3]
  simp only [bk_3_0, bk_3_8, bk_3_12, bk_3_13, ma_bd_some, ma_bd_none, ma_tl1, ma_tl0, ma_ap1, ma_ap0, b2i_0, b2i_1, b2i_01, ma_l10, ma_l01, eq_self, if_true, if_false, true_or, or_true, not_true_eq_false, not_false_eq_true, Bool.false_eq_true]
  simp only [b2i]
  repeat' split
  all_goals first | with_reducible rfl | (simp_all; done) | (exfalso; simp only [Int32.lt_iff_toInt_lt, Int32.le_iff_toInt_le, ← Int32.toInt_inj] at *; simp at *; omega)
theorem cx_hasRow (d s : Nat) (σ : ma_S) : ma_cal (d + 1) 50 [vR 16 s 0] σ = some (some (vI (b2i (100 ≤ σ.1 16 s 0 1))), σ) := by
  rw [en_50]
  simp only [bk_50_0, bk_50_9, bk_50_13, bk_50_14, ma_bd_some, ma_bd_none, ma_tl1, ma_tl0, ma_ap1, ma_ap0, b2i_0, b2i_1, b2i_01, ma_l10, ma_l01, eq_self, if_true, if_false, true_or, or_true, not_true_eq_false, not_false_eq_true, Bool.false_eq_true]
  simp only [b2i]
  repeat' split
  all_goals first | with_reducible rfl | (simp_all; done) | (exfalso; simp only [Int32.lt_iff_toInt_lt, Int32.le_iff_toInt_le, ← Int32.toInt_inj] at *; simp at *; omega)
theorem cx_hasRider (d s : Nat) (σ : ma_S) : ma_cal (d + 1) 51 [vR 16 s 0] σ = some (some (vI (b2i (0 ≤ σ.1 16 s 0 1 ∧ σ.1 16 s 0 1 < 100))), σ) := by
  rw [en_51]
  simp only [bk_51_0, bk_51_7, bk_51_16, bk_51_20, bk_51_21, ma_bd_some, ma_bd_none, ma_tl1, ma_tl0, ma_ap1, ma_ap0, b2i_0, b2i_1, b2i_01, ma_l10, ma_l01, eq_self, if_true, if_false, true_or, or_true, not_true_eq_false, not_false_eq_true, Bool.false_eq_true]
  simp only [b2i]
  repeat' split
  all_goals first | with_reducible rfl | (simp_all; done) | (exfalso; simp only [Int32.lt_iff_toInt_lt, Int32.le_iff_toInt_le, ← Int32.toInt_inj] at *; simp at *; omega)
theorem cx_hasElement (d s : Nat) (i : Int32) (σ : ma_S) : ma_cal (d + 1) 52 [vR 16 s 0, vI i] σ = some (some (vI (b2i (0 ≤ i ∧ i < σ.1 16 s 0 2))), σ) := by
  rw [en_52]
  simp only [bk_52_0, bk_52_4, bk_52_12, bk_52_16, bk_52_17, ma_bd_some, ma_bd_none, ma_tl1, ma_tl0, ma_ap1, ma_ap0, b2i_0, b2i_1, b2i_01, ma_l10, ma_l01, eq_self, if_true, if_false, true_or, or_true, not_true_eq_false, not_false_eq_true, Bool.false_eq_true]
  simp only [b2i]
  repeat' split
  all_goals first | with_reducible rfl | (simp_all; done) | (exfalso; simp only [Int32.lt_iff_toInt_lt, Int32.le_iff_toInt_le, ← Int32.toInt_inj] at *; simp at *; omega)
theorem cx_hold (d s : Nat) (r : Int32) (σ : ma_S) : ma_cal (d + 1) 53 [vR 16 s 0, vI r] σ = some (none, ma_u (ma_u σ 16 s 0 1 r) 16 s 0 2 0) := by
  rw [en_53]
  simp only [bk_53_0]
theorem cx_asInt (d s : Nat) (i : Int32) (σ : ma_S) (hs : s < 8) (hz : (σ.1 16 s 0 2).toInt ≤ 160) : ma_cal (d + 2) 56 [vR 16 s 0, vI i] σ = some (some (vI (if 0 ≤ i ∧ i < σ.1 16 s 0 2 then Int64.toInt32 (σ.2 s i.toNatClampNeg) else 0)), σ) := by
  rw [en_56]
  have hl : ma_lj s = 160 := by rcases s with _|_|_|_|_|_|_|_|s <;> first | rfl | omega
  by_cases h : 0 ≤ i ∧ i < σ.1 16 s 0 2
  · have hin : ma_in i 160 := by
      have h1 := ma_le.mp h.1
      have h2 := ma_lt.mp h.2
      have e0 : (0 : Int32).toInt = 0 := rfl
      exact ma_inI (by omega) (by omega)
    simp only [bk_56_0, bk_56_5, bk_56_8, bk_56_18, bk_56_19, cx_hasElement, h, hl, ma_if_pos hin, ma_bd_some, ma_bd_none, ma_tl1, ma_tl0, ma_ap1, ma_ap0, b2i_0, b2i_1, b2i_01, ma_l10, ma_l01, eq_self, if_true, if_false, true_or, or_true, not_true_eq_false, not_false_eq_true, Bool.false_eq_true, and_self, not_true_eq_false]
  · simp only [bk_56_0, bk_56_5, bk_56_8, bk_56_18, bk_56_19, cx_hasElement, h, ma_bd_some, ma_bd_none, ma_tl1, ma_tl0, ma_ap1, ma_ap0, b2i_0, b2i_1, b2i_01, ma_l10, ma_l01, eq_self, if_true, if_false, true_or, or_true, not_true_eq_false, not_false_eq_true, Bool.false_eq_true]
theorem cx_clear (d : Nat) (σ : ma_S) : ma_cal (d + 1) 57 [vR 13 0 0] σ = some (none, ma_u σ 13 0 0 1 0) := by
  rw [en_57]
  simp only [bk_57_0]
theorem cx_rowRefusal (d : Nat) (s : Int32) (σ : ma_S) : ma_cal (d + 2) 99 [vR 1 0 0, vI s] σ = some (some (vI (if ¬ (0 ≤ s ∧ s < 8) then -1 else if 0 ≤ σ.1 16 s.toNatClampNeg 0 1 ∧ σ.1 16 s.toNatClampNeg 0 1 < 100 then -2 else if 100 ≤ σ.1 16 s.toNatClampNeg 0 1 then 0 else -3)), σ) := by
  rw [en_99]
  by_cases h : 0 ≤ s ∧ s < 8
  · have hin : ma_in s 8 := by
      have h1 := ma_le.mp h.1
      have h2 := ma_lt.mp h.2
      have e0 : (0 : Int32).toInt = 0 := rfl
      have e8 : (8 : Int32).toInt = 8 := rfl
      exact ma_inI (by omega) (by omega)
    rw [if_neg (fun z => z h)]
    by_cases c1 : 0 ≤ σ.1 16 s.toNatClampNeg 0 1 ∧ σ.1 16 s.toNatClampNeg 0 1 < 100
    · simp only [bk_99_0, bk_99_4, bk_99_7, bk_99_9, bk_99_18, bk_99_21, bk_99_24, bk_99_33, bk_99_36, bk_99_40, bk_99_42, cx_isShelf, cx_hasRider, cx_hasRow, h, c1, ma_if_pos hin, ma_bd_some, ma_bd_none, ma_tl1, ma_tl0, ma_ap1, ma_ap0, b2i_0, b2i_1, b2i_01, ma_l10, ma_l01, eq_self, if_true, if_false, true_or, or_true, not_true_eq_false, not_false_eq_true, Bool.false_eq_true, and_self, not_true_eq_false]
    · by_cases c2 : 100 ≤ σ.1 16 s.toNatClampNeg 0 1
      all_goals simp only [bk_99_0, bk_99_4, bk_99_7, bk_99_9, bk_99_18, bk_99_21, bk_99_24, bk_99_33, bk_99_36, bk_99_40, bk_99_42, cx_isShelf, cx_hasRider, cx_hasRow, h, c1, c2, ma_if_pos hin, ma_bd_some, ma_bd_none, ma_tl1, ma_tl0, ma_ap1, ma_ap0, b2i_0, b2i_1, b2i_01, ma_l10, ma_l01, eq_self, if_true, if_false, true_or, or_true, not_true_eq_false, not_false_eq_true, Bool.false_eq_true, and_self, not_true_eq_false]
  · rw [if_pos h]
    simp only [bk_99_0, bk_99_4, bk_99_7, bk_99_9, bk_99_18, bk_99_21, bk_99_24, bk_99_33, bk_99_36, bk_99_40, bk_99_42, cx_isShelf, h, ma_bd_some, ma_bd_none, ma_tl1, ma_tl0, ma_ap1, ma_ap0, b2i_0, b2i_1, b2i_01, ma_l10, ma_l01, eq_self, if_true, if_false, true_or, or_true, not_true_eq_false, not_false_eq_true, Bool.false_eq_true]
theorem cm_isShelf (d : Nat) (s : Int32) (σ : ma_S) : ma_cal (d + 1) 115 [vR 20 0 0, vI s] σ = some (some (vI (b2i (0 ≤ s ∧ s < 8))), σ) := by
  rw [en_115]
  simp only [bk_115_0, bk_115_4, bk_115_10, bk_115_14, bk_115_15, ma_bd_some, ma_bd_none, ma_tl1, ma_tl0, ma_ap1, ma_ap0, b2i_0, b2i_1, b2i_01, ma_l10, ma_l01, eq_self, if_true, if_false, true_or, or_true, not_true_eq_false, not_false_eq_true, Bool.false_eq_true]
  simp only [b2i]
  repeat' split
  all_goals first | with_reducible rfl | (simp_all; done) | (exfalso; simp only [Int32.lt_iff_toInt_lt, Int32.le_iff_toInt_le, ← Int32.toInt_inj] at *; simp at *; omega)
theorem cm_isRule (d : Nat) (s : Int32) (σ : ma_S) : ma_cal (d + 1) 172 [vR 20 0 0, vI s] σ = some (some (vI (b2i (0 ≤ s ∧ s < 4))), σ) := by
  rw [en_172]
  simp only [bk_172_0, bk_172_4, bk_172_9, bk_172_13, bk_172_14, ma_bd_some, ma_bd_none, ma_tl1, ma_tl0, ma_ap1, ma_ap0, b2i_0, b2i_1, b2i_01, ma_l10, ma_l01, eq_self, if_true, if_false, true_or, or_true, not_true_eq_false, not_false_eq_true, Bool.false_eq_true]
  simp only [b2i]
  repeat' split
  all_goals first | with_reducible rfl | (simp_all; done) | (exfalso; simp only [Int32.lt_iff_toInt_lt, Int32.le_iff_toInt_le, ← Int32.toInt_inj] at *; simp at *; omega)
theorem cm_isAsked (d : Nat) (w v : Int32) (σ : ma_S) : ma_cal (d + 1) 133 [vR 20 0 0, vI w, vI v] σ = some (some (vI (b2i ((if 2 ≤ w then 1 else 0) ≤ v ∧ v ≤ (if w = 0 then 999 else if w = 1 then 99 else 9)))), σ) := by
  rw [en_133]
  simp only [bk_133_0, bk_133_6, bk_133_10, bk_133_11, bk_133_14, bk_133_19, bk_133_25, bk_133_30, bk_133_35, bk_133_37, bk_133_40, bk_133_44, bk_133_45, ma_bd_some, ma_bd_none, ma_tl1, ma_tl0, ma_ap1, ma_ap0, b2i_0, b2i_1, b2i_01, ma_l10, ma_l01, eq_self, if_true, if_false, true_or, or_true, not_true_eq_false, not_false_eq_true, Bool.false_eq_true]
  simp only [b2i]
  by_cases c1 : 2 ≤ w <;> by_cases c2 : w = 0 <;> by_cases c3 : w = 1
  all_goals
    simp only [c1, c2, c3, if_true, if_false]
    repeat' split
    all_goals first | with_reducible rfl | (simp_all; done) | (exfalso; simp only [Int32.lt_iff_toInt_lt, Int32.le_iff_toInt_le, ← Int32.toInt_inj] at *; simp at *; omega)
theorem cm_areSledges (d : Nat) (f t : Int32) (σ : ma_S) : ma_cal (d + 1) 131 [vR 20 0 0, vI f, vI t] σ = some (some (vI (b2i (0 ≤ f ∧ 0 ≤ t ∧ f ≤ 3 ∧ t ≤ 3 ∧ f + t ≤ 3))), σ) := by
  rw [en_131]
  simp only [bk_131_0, bk_131_4, bk_131_8, bk_131_13, bk_131_18, bk_131_25, bk_131_29, bk_131_30, ma_bd_some, ma_bd_none, ma_tl1, ma_tl0, ma_ap1, ma_ap0, b2i_0, b2i_1, b2i_01, ma_l10, ma_l01, eq_self, if_true, if_false, true_or, or_true, not_true_eq_false, not_false_eq_true, Bool.false_eq_true]
  simp only [b2i]
  generalize f + t = u
  repeat' split
  all_goals first | with_reducible rfl | (simp_all; done) | (exfalso; simp only [Int32.lt_iff_toInt_lt, Int32.le_iff_toInt_le, ← Int32.toInt_inj] at *; simp at *; omega)
theorem cm_wanted (d : Nat) (s : Int32) (σ : ma_S) : ma_cal (d + 2) 124 [vR 20 0 0, vI s] σ = some (some (vI (if ¬ (0 ≤ s ∧ s < 8) then -1 else if σ.1 50 8 0 s.toNatClampNeg = 2 then -2 else if σ.1 50 8 0 s.toNatClampNeg = 0 then -3 else 0)), σ) := by
  rw [en_124]
  by_cases h : 0 ≤ s ∧ s < 8
  · have hin : ma_in s 8 := by
      have h1 := ma_le.mp h.1
      have h2 := ma_lt.mp h.2
      have e0 : (0 : Int32).toInt = 0 := rfl
      have e8 : (8 : Int32).toInt = 8 := rfl
      exact ma_inI (by omega) (by omega)
    rw [if_neg (fun z => z h)]
    by_cases c1 : σ.1 50 8 0 s.toNatClampNeg = 2
    · simp only [bk_124_0, bk_124_5, bk_124_8, bk_124_12, bk_124_22, bk_124_27, bk_124_36, bk_124_41, bk_124_42, cm_isShelf, h, c1, ma_if_pos hin, ma_bd_some, ma_bd_none, ma_tl1, ma_tl0, ma_ap1, ma_ap0, b2i_0, b2i_1, b2i_01, ma_l10, ma_l01, eq_self, if_true, if_false, true_or, or_true, not_true_eq_false, not_false_eq_true, Bool.false_eq_true, and_self, not_true_eq_false]
    · rcases Classical.propComplete (σ.1 50 8 0 s.toNatClampNeg = 0) with c2 | c2
      all_goals simp only [bk_124_0, bk_124_5, bk_124_8, bk_124_12, bk_124_22, bk_124_27, bk_124_36, bk_124_41, bk_124_42, cm_isShelf, h, c1, c2, ma_if_pos hin, ma_bd_some, ma_bd_none, ma_tl1, ma_tl0, ma_ap1, ma_ap0, b2i_0, b2i_1, b2i_01, ma_l10, ma_l01, eq_self, if_true, if_false, true_or, or_true, not_true_eq_false, not_false_eq_true, Bool.false_eq_true, and_self, not_true_eq_false]
  · rw [if_pos h]
    simp only [bk_124_0, bk_124_5, bk_124_8, bk_124_12, bk_124_22, bk_124_27, bk_124_36, bk_124_41, bk_124_42, cm_isShelf, h, ma_bd_some, ma_bd_none, ma_tl1, ma_tl0, ma_ap1, ma_ap0, b2i_0, b2i_1, b2i_01, ma_l10, ma_l01, eq_self, if_true, if_false, true_or, or_true, not_true_eq_false, not_false_eq_true, Bool.false_eq_true]
/-- a refusal is counted: the class, the model -/
def sp_rx (σ : ma_S) (b : Int32) : ma_S := ma_u σ 50 124 0 (-b - 1).toNatClampNeg (σ.1 50 124 0 (-b - 1).toNatClampNeg + 1)
def sp_rm (σ : ma_S) (b : Int32) : ma_S := ma_u σ 50 7 0 (-b).toNatClampNeg (σ.1 50 7 0 (-b).toNatClampNeg + 1)
def sp_isb (b : Int32) : Prop := -7 ≤ b.toInt ∧ b.toInt ≤ -1
theorem sp_isb_n {b : Int32} (h : sp_isb b) : (-b - 1).toInt = - b.toInt - 1 ∧ (-b).toInt = - b.toInt := by
  obtain ⟨h1, h2⟩ := h
  have e : (-b).toInt = - b.toInt := by
    have e0 : (0 : Int32).toInt = 0 := rfl
    have e1 := ma_sub (a := 0) (b := b) (by omega) (by omega)
    rw [Int32.zero_sub] at e1
    omega
  have e1 : (1 : Int32).toInt = 1 := rfl
  have := ma_sub (a := -b) (b := 1) (by omega) (by omega)
  exact ⟨by omega, e⟩
theorem cx_refuse (d : Nat) (b : Int32) (σ : ma_S) (h : sp_isb b) : ma_cal (d + 1) 98 [vR 1 0 0, vI b] σ = some (some (vI b), sp_rx σ b) := by
  rw [en_98]
  have hn := (sp_isb_n h).1
  have h1 := h.1
  have h2 := h.2
  have e0 : (0 : Int32).toInt = 0 := rfl
  have e7 : (7 : Int32).toInt = 7 := rfl
  have c1 : ((-b) - 1 < 0) = False := eq_false (by rw [ma_lt]; omega)
  have c2 : (7 ≤ (-b) - 1) = False := eq_false (by rw [ma_le]; omega)
  have hin : ma_in ((-b) - 1) 7 := ma_inI (by omega) (by omega)
  simp only [bk_98_0, bk_98_9, bk_98_15, bk_98_25, c1, c2, ma_if_pos hin, ma_bd_some, ma_bd_none, ma_tl1, ma_tl0, ma_ap1, ma_ap0, b2i_0, b2i_1, b2i_01, ma_l10, ma_l01, eq_self, if_true, if_false, true_or, or_true, not_true_eq_false, not_false_eq_true, Bool.false_eq_true, sp_rx]
theorem cm_no (d : Nat) (b : Int32) (σ : ma_S) (h : sp_isb b) : ma_cal (d + 1) 113 [vR 20 0 0, vI b] σ = some (some (vI b), sp_rm σ b) := by
  rw [en_113]
  have hn := (sp_isb_n h).2
  have h1 := h.1
  have h2 := h.2
  have hin : ma_in (-b) 8 := ma_inI (by omega) (by omega)
  simp only [bk_113_0, ma_if_pos hin, ma_bd_some, ma_bd_none, ma_tl1, ma_tl0, ma_ap1, ma_ap0, b2i_0, b2i_1, b2i_01, ma_l10, ma_l01, eq_self, if_true, if_false, true_or, or_true, not_true_eq_false, not_false_eq_true, Bool.false_eq_true, sp_rm]
theorem cm_noTen (d : Nat) (b : Int32) (σ : ma_S) (h : sp_isb b) : ma_cal (d + 1) 114 [vR 20 0 0, vI b] σ = some (some (vI (b - 10)), sp_rm σ b) := by
  rw [en_114]
  have hn := (sp_isb_n h).2
  have h1 := h.1
  have h2 := h.2
  have hin : ma_in (-b) 8 := ma_inI (by omega) (by omega)
  simp only [bk_114_0, ma_if_pos hin, ma_bd_some, ma_bd_none, ma_tl1, ma_tl0, ma_ap1, ma_ap0, b2i_0, b2i_1, b2i_01, ma_l10, ma_l01, eq_self, if_true, if_false, true_or, or_true, not_true_eq_false, not_false_eq_true, Bool.false_eq_true, sp_rm]
