/-! PART 45: a draw. -/
def sp_sd (v : Int32) : Int32 := v * 1103515245 + 12345
def sp_dr (v n : Int32) : Int32 := ma_rm ((Int32.toUInt32 v >>> (Int32.toUInt32 16 &&& Int32.toUInt32 31)).toInt32) n
theorem cx_draw (d i : Nat) (n : Int32) (σ : ma_S) (h : 0 < n.toInt) : ma_cal (d + 1) 9 [vR 2 i 0, vI n] σ = some (some (vI (sp_dr (sp_sd (σ.1 2 i 0 8)) n)), ma_u σ 2 i 0 8 (sp_sd (σ.1 2 i 0 8))) := by
  rw [en_9]
  have e0 : (0 : Int32).toInt = 0 := rfl
  have b1 : (n ≤ 0) = False := eq_false (by rw [ma_le]; omega)
  have b2 : (n = 0) = False := eq_false (by rw [ma_eq]; omega)
  simp only [bk_9_0, bk_9_19, bk_9_31, bk_9_32, b1, b2, ma_u_k, ↓reduceIte, ma_bd_some, ma_bd_none, ma_tl1, ma_tl0, ma_ap1, ma_ap0, b2i_0, b2i_1, b2i_01, ma_l10, ma_l01, eq_self, true_or, or_true, not_true_eq_false, not_false_eq_true, Bool.false_eq_true, sp_dr, sp_sd]
theorem cm_draw (d : Nat) (n : Int32) (σ : ma_S) (h : 0 < n.toInt) : ma_cal (d + 1) 190 [vR 20 0 0, vI n] σ = some (some (vI (sp_dr (sp_sd (σ.1 20 0 0 8)) n)), ma_u σ 20 0 0 8 (sp_sd (σ.1 20 0 0 8))) := by
  rw [en_190]
  have e0 : (0 : Int32).toInt = 0 := rfl
  have b2 : (n = 0) = False := eq_false (by rw [ma_eq]; omega)
  simp only [bk_190_0, b2, ma_u_k, ↓reduceIte, ma_bd_some, ma_bd_none, ma_tl1, ma_tl0, ma_ap1, ma_ap0, b2i_0, b2i_1, b2i_01, ma_l10, ma_l01, eq_self, true_or, or_true, not_true_eq_false, not_false_eq_true, Bool.false_eq_true, sp_dr, sp_sd]
theorem sp_shr (v : Int32) : 0 ≤ ((Int32.toUInt32 v >>> (Int32.toUInt32 16 &&& Int32.toUInt32 31)).toInt32).toInt := by
  have e : (Int32.toUInt32 16 &&& Int32.toUInt32 31) = 16 := by decide
  rw [e]
  have h : (Int32.toUInt32 v >>> 16).toNat < 65536 := by
    rw [UInt32.toNat_shiftRight]
    have := UInt32.toNat_lt (Int32.toUInt32 v)
    rw [Nat.shiftRight_eq_div_pow]
    have e2 : (16 : UInt32).toNat % 32 = 16 := rfl
    rw [e2]
    omega
  have h2 : ((Int32.toUInt32 v >>> 16).toInt32).toInt = ((Int32.toUInt32 v >>> 16).toNat : Int) := by
    show (Int32.toUInt32 v >>> 16).toBitVec.toInt = _
    rw [BitVec.toInt_eq_toNat_of_lt]
    · rfl
    · have : (Int32.toUInt32 v >>> 16).toBitVec.toNat = (Int32.toUInt32 v >>> 16).toNat := rfl
      omega
  omega
theorem sp_dr_b (v n : Int32) (h : 0 < n.toInt) : 0 ≤ (sp_dr v n).toInt ∧ (sp_dr v n).toInt < n.toInt := by
  unfold sp_dr
  rw [ma_rmI (sp_shr v) h]
  exact ⟨Int.emod_nonneg _ (by omega), Int.emod_lt_of_pos _ h⟩
