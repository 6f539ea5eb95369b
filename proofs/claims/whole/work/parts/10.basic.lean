/-! PART 10: numbers; what a hill's riders take; the small methods. -/
theorem ma_tl0 : Option.toList (none : Option ma_V) = [] := rfl
theorem ma_tl1 (v : ma_V) : Option.toList (some v) = [v] := rfl
theorem ma_ap0 (l : List ma_V) : ([] : List ma_V) ++ l = l := rfl
theorem ma_ap1 (v : ma_V) (l : List ma_V) : [v] ++ l = v :: l := rfl
theorem ma_l10 : ((1 : Int32) = 0) = False := by decide
theorem ma_l01 : ((0 : Int32) = 1) = False := by decide
theorem ma_iteq {α : Type} {c : Prop} [Decidable c] {a b x : α} (h1 : c → a = x) (h2 : ¬ c → b = x) : (if c then a else b) = x := by
  split
  · exact h1 (by assumption)
  · exact h2 (by assumption)
def b2i (c : Prop) [Decidable c] : Int32 := if c then 1 else 0
theorem b2i_0 (c : Prop) [Decidable c] : (b2i c = 0) = ¬ c := by
  unfold b2i; split <;> simp_all
theorem b2i_1 (c : Prop) [Decidable c] : (b2i c = 1) = c := by
  unfold b2i; split <;> simp_all
theorem b2i_01 (c : Prop) [Decidable c] : (b2i c = 0 ∨ b2i c = 1) = True := by
  unfold b2i; split <;> simp
theorem b2i_t {c : Prop} [Decidable c] (h : c) : b2i c = 1 := if_pos h
theorem b2i_f {c : Prop} [Decidable c] (h : ¬ c) : b2i c = 0 := if_neg h
theorem ma_a1 (x : Int32) : x + (-1) = x - 1 := (Int32.sub_eq_add_neg x 1).symm
theorem ma_a2 (x : Int32) : x + (-2) = x - 2 := (Int32.sub_eq_add_neg x 2).symm
theorem ma_a3 (x : Int32) : x + (-3) = x - 3 := (Int32.sub_eq_add_neg x 3).symm
theorem ma_s1 (x : Int32) : x - (-1) = x + 1 := by rw [Int32.sub_eq_add_neg]; rfl
theorem ma_s2 (x : Int32) : x - (-2) = x + 2 := by rw [Int32.sub_eq_add_neg]; rfl
theorem ma_s0 (x : Int32) : x - 0 = x := Int32.sub_zero x
theorem ma_m2 (x : Int32) : x * 2 = 2 * x := Int32.mul_comm x 2
/-- of whole numbers -/
theorem ma_lt {a b : Int32} : a < b ↔ a.toInt < b.toInt := Int32.lt_iff_toInt_lt
theorem ma_le {a b : Int32} : a ≤ b ↔ a.toInt ≤ b.toInt := Int32.le_iff_toInt_le
theorem ma_eq {a b : Int32} : a = b ↔ a.toInt = b.toInt := Int32.toInt_inj.symm
theorem ma_bm {x : Int} (h1 : -2147483648 ≤ x) (h2 : x < 2147483648) : x.bmod (2 ^ 32) = x := by
  rw [Int.bmod_eq_of_le] <;> omega
theorem ma_add {a b : Int32} (h1 : -2147483648 ≤ a.toInt + b.toInt) (h2 : a.toInt + b.toInt < 2147483648) : (a + b).toInt = a.toInt + b.toInt := by rw [Int32.toInt_add, ma_bm h1 h2]
theorem ma_sub {a b : Int32} (h1 : -2147483648 ≤ a.toInt - b.toInt) (h2 : a.toInt - b.toInt < 2147483648) : (a - b).toInt = a.toInt - b.toInt := by rw [Int32.toInt_sub, ma_bm h1 h2]
theorem ma_mul {a b : Int32} (h1 : -2147483648 ≤ a.toInt * b.toInt) (h2 : a.toInt * b.toInt < 2147483648) : (a * b).toInt = a.toInt * b.toInt := by rw [Int32.toInt_mul, ma_bm h1 h2]
theorem ma_neg {a : Int32} (h1 : -2147483648 < a.toInt) : (-a).toInt = -a.toInt := by rw [Int32.toInt_neg, ma_bm] <;> have := Int32.toInt_lt a <;> omega
theorem ma_div {a b : Int32} (ha : 0 ≤ a.toInt) (hb : 0 < b.toInt) : (a / b).toInt = a.toInt / b.toInt := by
  rw [Int32.toInt_div_of_ne_right a b (fun e => by rw [e] at hb; exact absurd hb (by decide)), Int.tdiv_eq_ediv_of_nonneg ha]
theorem ma_rmI {a b : Int32} (ha : 0 ≤ a.toInt) (hb : 0 < b.toInt) : (ma_rm a b).toInt = a.toInt % b.toInt := by
  have h1 := ma_div ha hb
  have hd : a.toInt / b.toInt * b.toInt ≤ a.toInt := Int.ediv_mul_le _ (by omega)
  have h0 : 0 ≤ a.toInt / b.toInt * b.toInt := Int.mul_nonneg (Int.ediv_nonneg ha (by omega)) (by omega)
  have hlt := Int32.toInt_lt a
  have h2 : (a / b * b).toInt = a.toInt / b.toInt * b.toInt := by rw [ma_mul (by rw [h1]; omega) (by rw [h1]; omega), h1]
  unfold ma_rm
  rw [ma_sub (by rw [h2]; omega) (by rw [h2]; omega), h2]
  have := Int.mul_ediv_add_emod a.toInt b.toInt
  rw [Int.mul_comm] at this
  omega
theorem ma_inI {x : Int32} {n : Nat} (h1 : 0 ≤ x.toInt) (h2 : x.toInt < (n : Int)) : ma_in x n := ⟨h1, h2⟩
theorem ma_clN {x : Int32} : x.toNatClampNeg = x.toInt.toNat := rfl
theorem ma_nI {x : Int32} {n : Nat} (h : x.toInt = (n : Int)) (hn : n < 2 ^ 31) : x = nI n := ma_eq.mpr (by rw [nI_toInt hn]; exact h)
def sp_one (x : Int32) : Int32 := if x < 1 then 1 else x
def sp_down (k l : Int32) : Int32 := if k = 1 then sp_one (l - 1) else if k = 3 then sp_one (l - 2) else if k = 4 ∨ k = 6 then sp_one (l + 1) else sp_one l
def sp_pull (k st ti : Int32) : Int32 := if k = 6 then sp_one (2 * (st + ti / 10)) else if k = 2 then sp_one (st + ti / 10 - 2) else if k = 5 then sp_one (st + ti / 10 - 3) else if k = 4 then sp_one (st + ti / 10 + 2) else sp_one (st + ti / 10)
def sp_walk (st ti : Int32) : Int32 := st / 2 + ti / 10 + 1
def sp_pby (k a : Int32) : Int32 := if k = 2 ∨ k = 5 then 5 else 8 + a
theorem sp_max1 (x : Int32) : (if 1 < x then x else 1) = sp_one x := by
  unfold sp_one
  split <;> split <;> first | rfl | (simp only [ma_lt] at *; exfalso; simp at *; omega) | (apply ma_eq.mpr; simp only [ma_lt] at *; simp at *; omega)
def sp_min (a b : Int32) : Int32 := if a < b then a else b
theorem sp_minc (a b : Int32) : (if b < a then b else a) = sp_min a b := by
  unfold sp_min
  split <;> split <;> first | rfl | (simp only [ma_lt] at *; exfalso; omega) | (apply ma_eq.mpr; simp only [ma_lt] at *; omega)
-- riders of the class
theorem cx_downAlone (d i r : Nat) (l : Int32) (σ : ma_S) : ma_cal (d + 1) 37 [vR 4 i r, vI l] σ = some (some (vI (sp_down (σ.1 4 i r 1) l)), σ) := by
  rw [en_37]
  simp only [bk_37_0, bk_37_44, bk_37_50, bk_37_56, bk_37_62, bk_37_67, bk_37_71, bk_37_72, ma_a1, ma_a2, ma_a3, ma_s1, ma_s2, ma_s0, ma_m2]
  simp only [sp_down, sp_one]
  repeat' split
  all_goals first | with_reducible rfl | (simp_all; done) | (exfalso; simp only [Int32.lt_iff_toInt_lt, Int32.le_iff_toInt_le, ← Int32.toInt_inj] at *; simp at *; omega)
theorem cx_pullAlone (d i r : Nat) (l : Int32) (σ : ma_S) : ma_cal (d + 1) 38 [vR 4 i r, vI l] σ = some (some (vI (sp_pull (σ.1 4 i r 1) l (σ.1 4 i r 4))), σ) := by
  rw [en_38]
  simp only [bk_38_0, bk_38_48, bk_38_54, bk_38_60, bk_38_66, bk_38_73, bk_38_78, bk_38_82, bk_38_83, ma_a1, ma_a2, ma_a3, ma_s1, ma_s2, ma_s0, ma_m2]
  simp only [sp_pull, sp_one]
  repeat' split
  all_goals first | with_reducible rfl | (simp_all; done) | (exfalso; simp only [Int32.lt_iff_toInt_lt, Int32.le_iff_toInt_le, ← Int32.toInt_inj] at *; simp at *; omega)
theorem cx_walkUp (d i r : Nat) (l : Int32) (σ : ma_S) : ma_cal (d + 1) 39 [vR 4 i r, vI l] σ = some (some (vI (sp_walk l (σ.1 4 i r 4))), σ) := by
  rw [en_39]
  simp only [bk_39_0, sp_walk]
theorem cx_onFoot (d i r : Nat) (σ : ma_S) : ma_cal (d + 1) 40 [vR 4 i r] σ = some (some (vI (10 + σ.1 4 i r 2)), σ) := by
  rw [en_40]
  simp only [bk_40_0]
-- of the model
theorem cm_one (d i r : Nat) (l : Int32) (σ : ma_S) : ma_cal (d + 1) 147 [vR 20 i r, vI l] σ = some (some (vI (sp_one l)), σ) := by
  rw [en_147]
  simp only [bk_147_0, bk_147_5, bk_147_9, bk_147_10]
  simp only [sp_one]
  repeat' split
  all_goals first | with_reducible rfl | (simp_all; done) | (exfalso; simp only [Int32.lt_iff_toInt_lt, Int32.le_iff_toInt_le, ← Int32.toInt_inj] at *; simp at *; omega)
theorem cm_down (d i j : Nat) (r : Int32) (σ : ma_S) (h : ma_in r 4) : ma_cal (d + 2) 148 [vR 20 i j, vI r] σ = some (some (vI (sp_down (σ.1 50 1 0 r.toNatClampNeg) (σ.1 20 i j 7))), σ) := by
  rw [en_148]
  simp only [bk_148_0, bk_148_17, bk_148_21, bk_148_26, bk_148_30, bk_148_35, bk_148_41, bk_148_45, bk_148_46, bk_148_50, ma_if_pos h, cm_one, ma_bd_some, ma_bd_none, ma_tl1, ma_tl0, ma_ap1, ma_ap0, b2i_0, b2i_1, b2i_01, ma_l10, ma_l01, eq_self, if_true, if_false, true_or, or_true, not_true_eq_false, not_false_eq_true, Bool.false_eq_true, ma_a1, ma_a2, ma_a3, ma_s1, ma_s2, ma_s0, ma_m2]
  simp only [sp_down]
  repeat' split
  all_goals first | with_reducible rfl | (simp_all; done) | (exfalso; simp only [Int32.lt_iff_toInt_lt, Int32.le_iff_toInt_le, ← Int32.toInt_inj] at *; simp at *; omega)
theorem cm_pull (d i j : Nat) (r : Int32) (σ : ma_S) (h : ma_in r 4) : ma_cal (d + 2) 149 [vR 20 i j, vI r] σ = some (some (vI (sp_pull (σ.1 50 1 0 r.toNatClampNeg) (σ.1 20 i j 6) (σ.1 50 4 0 r.toNatClampNeg))), σ) := by
  rw [en_149]
  simp only [bk_149_0, bk_149_28, bk_149_35, bk_149_36, bk_149_43, bk_149_47, bk_149_52, bk_149_56, bk_149_61, bk_149_66, bk_149_67, bk_149_71, ma_if_pos h, cm_one, ma_bd_some, ma_bd_none, ma_tl1, ma_tl0, ma_ap1, ma_ap0, b2i_0, b2i_1, b2i_01, ma_l10, ma_l01, eq_self, if_true, if_false, true_or, or_true, not_true_eq_false, not_false_eq_true, Bool.false_eq_true, ma_a1, ma_a2, ma_a3, ma_s1, ma_s2, ma_s0, ma_m2]
  simp only [sp_pull]
  repeat' split
  all_goals first | with_reducible rfl | (simp_all; done) | (exfalso; simp only [Int32.lt_iff_toInt_lt, Int32.le_iff_toInt_le, ← Int32.toInt_inj] at *; simp at *; omega)
theorem cm_walk (d i j : Nat) (r : Int32) (σ : ma_S) (h : ma_in r 4) : ma_cal (d + 1) 150 [vR 20 i j, vI r] σ = some (some (vI (sp_walk (σ.1 20 i j 6) (σ.1 50 4 0 r.toNatClampNeg))), σ) := by
  rw [en_150]
  simp only [bk_150_0, ma_if_pos h, sp_walk]
theorem cm_pulled (d i j : Nat) (r : Int32) (σ : ma_S) (h : ma_in r 4) : ma_cal (d + 1) 155 [vR 20 i j, vI r] σ = some (some (vI (sp_pby (σ.1 50 1 0 r.toNatClampNeg) (σ.1 50 2 0 r.toNatClampNeg))), σ) := by
  rw [en_155]
  simp only [bk_155_0, bk_155_10, bk_155_20, bk_155_24, bk_155_33, ma_if_pos h, sp_pby]
  repeat' split
  all_goals first | with_reducible rfl | (simp_all; done) | (exfalso; simp only [Int32.lt_iff_toInt_lt, Int32.le_iff_toInt_le, ← Int32.toInt_inj] at *; simp at *; omega)
