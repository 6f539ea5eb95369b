/-! PART 48: the trace of an ACT: one body more. -/
def sp_tx (σ : ma_S) (b : Int32) : ma_S := if (20 : Int32) ≤ σ.1 13 0 0 1 then ma_u σ 13 0 0 1 (σ.1 13 0 0 1 + 1) else ma_u (ma_u σ 50 123 0 (σ.1 13 0 0 1).toNatClampNeg b) 13 0 0 1 (σ.1 13 0 0 1 + 1)
def sp_tm (σ : ma_S) (b : Int32) : ma_S := if (20 : Int32) ≤ σ.1 20 0 0 45 then ma_u σ 20 0 0 45 (σ.1 20 0 0 45 + 1) else ma_u (ma_u σ 50 21 0 (σ.1 20 0 0 45).toNatClampNeg b) 20 0 0 45 (σ.1 20 0 0 45 + 1)
theorem cx_note (d : Nat) (b : Int32) (σ : ma_S) (h : 0 ≤ (σ.1 13 0 0 1).toInt) : ma_cal (d + 1) 58 [vR 13 0 0, vI b] σ = some (none, sp_tx σ b) := by
  rw [en_58]
  have e0 : (0 : Int32).toInt = 0 := rfl
  have e20 : (20 : Int32).toInt = 20 := rfl
  have b1 : (σ.1 13 0 0 1 < 0) = False := eq_false (by rw [ma_lt]; omega)
  unfold sp_tx
  by_cases c : (20 : Int32) ≤ σ.1 13 0 0 1
  · rw [if_pos c]
    simp only [bk_58_0, bk_58_7, bk_58_16, bk_58_26, b1, eq_true c, ↓reduceIte, ma_bd_some, ma_bd_none, ma_tl1, ma_tl0, ma_ap1, ma_ap0, b2i_0, b2i_1, b2i_01, ma_l10, ma_l01, eq_self, true_or, or_true, not_true_eq_false, not_false_eq_true, Bool.false_eq_true]
  · have l := c
    rw [ma_le] at l
    have hin : ma_in (σ.1 13 0 0 1) 20 := ma_inI h (by omega)
    have g : ∀ τ : ma_S, ∀ k w, (ma_u τ 50 123 0 k w).1 13 = τ.1 13 := fun τ k w => ma_u_g (by decide) τ 123 0 k w
    rw [if_neg c]
    simp only [bk_58_0, bk_58_7, bk_58_16, bk_58_26, b1, eq_false c, ma_if_pos hin, g, ↓reduceIte, ma_bd_some, ma_bd_none, ma_tl1, ma_tl0, ma_ap1, ma_ap0, b2i_0, b2i_1, b2i_01, ma_l10, ma_l01, eq_self, true_or, or_true, not_true_eq_false, not_false_eq_true, Bool.false_eq_true]
theorem cm_body (d : Nat) (b : Int32) (σ : ma_S) (h : 0 ≤ (σ.1 20 0 0 45).toInt) : ma_cal (d + 1) 194 [vR 20 0 0, vI b] σ = some (none, sp_tm σ b) := by
  rw [en_194]
  have e20 : (20 : Int32).toInt = 20 := rfl
  unfold sp_tm
  by_cases c : (20 : Int32) ≤ σ.1 20 0 0 45
  · rw [if_pos c]
    simp only [bk_194_0, bk_194_9, bk_194_19, eq_true c, ↓reduceIte, ma_bd_some, ma_bd_none, ma_tl1, ma_tl0, ma_ap1, ma_ap0, b2i_0, b2i_1, b2i_01, ma_l10, ma_l01, eq_self, true_or, or_true, not_true_eq_false, not_false_eq_true, Bool.false_eq_true]
  · have l := c
    rw [ma_le] at l
    have hin : ma_in (σ.1 20 0 0 45) 20 := ma_inI h (by omega)
    have g : ∀ τ : ma_S, ∀ k w, (ma_u τ 50 21 0 k w).1 20 = τ.1 20 := fun τ k w => ma_u_g (by decide) τ 21 0 k w
    rw [if_neg c]
    simp only [bk_194_0, bk_194_9, bk_194_19, eq_false c, ma_if_pos hin, g, ↓reduceIte, ma_bd_some, ma_bd_none, ma_tl1, ma_tl0, ma_ap1, ma_ap0, b2i_0, b2i_1, b2i_01, ma_l10, ma_l01, eq_self, true_or, or_true, not_true_eq_false, not_false_eq_true, Bool.false_eq_true]
