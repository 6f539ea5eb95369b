/-! PART 11: MOVES: what they are, how long they take, whether they may be. -/
def sp_ri (m : Int32) : Nat := (ma_rm (m / 10) 10).toNatClampNeg
def sp_rj (m : Int32) : Nat := (ma_rm m 10).toNatClampNeg
def sp_two (o : Int32) : Bool := decide (o = 1 ∨ o = 3)
def sp_isM (n m : Int32) : Bool := decide (m = 700 ∨ (0 ≤ m ∧ m / 100 < 7 ∧ ma_rm (m / 10) 10 < n ∧ (if sp_two (m / 100) = true then ma_rm (m / 10) 10 < ma_rm m 10 ∧ ma_rm m 10 < n else ma_rm m 10 = 0)))
def sp_last (F : Nat → Int32) (G : Nat → Nat → Int32) (m : Int32) : Int32 :=
  if m / 100 = 0 then sp_down (G (sp_ri m) 1) (F 7)
  else if m / 100 = 1 then sp_one (sp_min (sp_down (G (sp_ri m) 1) (F 7)) (sp_down (G (sp_rj m) 1) (F 7)) - 1)
  else if m / 100 = 2 then sp_pull (G (sp_ri m) 1) (F 6) (G (sp_ri m) 4)
  else if m / 100 = 3 then sp_one ((sp_pull (G (sp_ri m) 1) (F 6) (G (sp_ri m) 4) + sp_pull (G (sp_rj m) 1) (F 6) (G (sp_rj m) 4)) / 2)
  else if m / 100 = 4 then sp_walk (F 6) (G (sp_ri m) 4)
  else if m / 100 = 5 then 2
  else if m / 100 = 6 then F 7 + 1
  else 5
def sp_may (F : Nat → Int32) (G : Nat → Nat → Int32) (m : Int32) : Bool := decide (sp_isM (F 1) m = true ∧ sp_last F G m ≤ F 4 ∧
  (if m / 100 = 0 then G (sp_ri m) 3 = 1 ∧ 0 < F 3
   else if m / 100 = 1 then G (sp_ri m) 3 = 1 ∧ G (sp_rj m) 3 = 1 ∧ 0 < F 3
   else if m / 100 = 2 then ¬ G (sp_ri m) 3 = 1 ∧ 0 < F 2
   else if m / 100 = 3 then ¬ G (sp_ri m) 3 = 1 ∧ ¬ G (sp_rj m) 3 = 1 ∧ 0 < F 2
   else if m / 100 = 4 then ¬ G (sp_ri m) 3 = 1
   else if m / 100 = 5 then ¬ G (sp_ri m) 3 = 1 ∧ 0 < F 2 ∧ 0 < F 5
   else if m / 100 = 6 then G (sp_ri m) 3 = 1
   else True))
theorem sp_d100 {m : Int32} (h : 0 ≤ m.toInt) : (m / 100).toInt = m.toInt / 100 := ma_div h (by decide)
theorem sp_d10 {m : Int32} (h : 0 ≤ m.toInt) : (m / 10).toInt = m.toInt / 10 := ma_div h (by decide)
theorem sp_r1 {m : Int32} (h : 0 ≤ m.toInt) : (ma_rm m 10).toInt = m.toInt % 10 := ma_rmI h (by decide)
theorem sp_r10 {m : Int32} (h : 0 ≤ m.toInt) : (ma_rm (m / 10) 10).toInt = m.toInt / 10 % 10 := by
  have h1 := sp_d10 h
  rw [ma_rmI (by omega) (by decide), h1]; rfl
theorem sp_isM_iff {n m : Int32} : sp_isM n m = true ↔ (m.toInt = 700 ∨ (0 ≤ m.toInt ∧ m.toInt < 700 ∧ m.toInt / 10 % 10 < n.toInt ∧ (if sp_two (m / 100) = true then m.toInt / 10 % 10 < m.toInt % 10 ∧ m.toInt % 10 < n.toInt else m.toInt % 10 = 0))) := by
  unfold sp_isM
  rw [decide_eq_true_iff]
  have e0 : (0 : Int32).toInt = 0 := rfl
  have e7 : (7 : Int32).toInt = 7 := rfl
  have e700 : (700 : Int32).toInt = 700 := rfl
  by_cases h0 : 0 ≤ m.toInt
  · have z1 := sp_d100 h0
    have z2 := sp_r10 h0
    have z3 := sp_r1 h0
    rw [ma_eq, ma_le, ma_lt, ma_lt, ma_lt, ma_lt, ma_eq (a := ma_rm m 10), e0, e7, e700, z1, z2, z3]
    constructor <;> rintro (h | ⟨h1, h2, h3, h4⟩)
    · exact Or.inl h
    · exact Or.inr ⟨h1, by omega, h3, h4⟩
    · exact Or.inl h
    · exact Or.inr ⟨h1, by omega, h3, h4⟩
  · rw [ma_eq, ma_le, e0, e700]
    constructor <;> rintro (h | ⟨h1, -⟩)
    · exact Or.inl h
    · exact absurd h1 h0
    · exact Or.inl h
    · exact absurd h1 h0
/-- both places of a MOVE are in range -/
theorem sp_isM_in {n m : Int32} (hn : n.toInt ≤ 4) (h : sp_isM n m = true) : ma_in (ma_rm (m / 10) 10) 4 ∧ ma_in (ma_rm m 10) 4 := by
  have h2 := sp_isM_iff.mp h
  have h0 : 0 ≤ m.toInt := by omega
  have z2 := sp_r10 h0
  have z3 := sp_r1 h0
  refine ⟨ma_inI (by omega) ?_, ma_inI (by omega) ?_⟩
  · rw [z2]; rcases h2 with h2 | h2 <;> omega
  · rw [z3]
    rcases h2 with h2 | ⟨h3, h4, h5, h6⟩
    · omega
    · split at h6 <;> omega
theorem cx_sortOf (d : Nat) (m : Int32) (σ : ma_S) : ma_cal (d + 1) 11 [vI m] σ = some (some (vI (m / 100)), σ) := by
  rw [en_11]
  simp only [bk_11_0]
theorem cx_moveOf (d : Nat) (a b c : Int32) (σ : ma_S) : ma_cal (d + 1) 10 [vI a, vI b, vI c] σ = some (some (vI (100 * a + 10 * b + c)), σ) := by
  rw [en_10]
  simp only [bk_10_0]
theorem cx_isByTwo (d : Nat) (o : Int32) (σ : ma_S) : ma_cal (d + 1) 12 [vI o] σ = some (some (vI (b2i (sp_two o = true))), σ) := by
  rw [en_12]
  simp only [bk_12_0, bk_12_5, bk_12_10, bk_12_14, bk_12_15]
  simp only [sp_two, decide_eq_true_eq, b2i]
  repeat' split
  all_goals first | with_reducible rfl | (simp_all; done) | (exfalso; simp only [Int32.lt_iff_toInt_lt, Int32.le_iff_toInt_le, ← Int32.toInt_inj] at *; simp at *; omega)
theorem cx_runsOf (d : Nat) (m : Int32) (σ : ma_S) : ma_cal (d + 2) 13 [vI m] σ = some (some (vI (if m / 100 = 0 then 1 else if m / 100 = 1 then 2 else 0)), σ) := by
  rw [en_13]
  simp only [bk_13_0, bk_13_4, bk_13_32, bk_13_34, bk_13_36, cx_sortOf, ma_bd_some, ma_bd_none, ma_tl1, ma_tl0, ma_ap1, ma_ap0, b2i_0, b2i_1, b2i_01, ma_l10, ma_l01, eq_self, if_true, if_false, true_or, or_true, not_true_eq_false, not_false_eq_true, Bool.false_eq_true]
  repeat' split
  all_goals first | with_reducible rfl | (simp_all; done) | (exfalso; simp only [Int32.lt_iff_toInt_lt, Int32.le_iff_toInt_le, ← Int32.toInt_inj] at *; simp at *; omega)
theorem cx_isMove (d i : Nat) (m : Int32) (σ : ma_S) : ma_cal (d + 1) 14 [vR 2 i 0, vI m] σ = some (some (vI (b2i (sp_isM (σ.1 2 i 0 1) m = true))), σ) := by
  rw [en_14]
  simp only [bk_14_0, bk_14_23, bk_14_29, bk_14_36, bk_14_40, bk_14_41, bk_14_42, bk_14_47, bk_14_52, bk_14_56, bk_14_57, bk_14_67, bk_14_72, bk_14_78, bk_14_87, bk_14_90, bk_14_95, bk_14_99, bk_14_100, ma_bd_some, ma_bd_none, ma_tl1, ma_tl0, ma_ap1, ma_ap0, b2i_0, b2i_1, b2i_01, ma_l10, ma_l01, eq_self, if_true, if_false, true_or, or_true, not_true_eq_false, not_false_eq_true, Bool.false_eq_true]
  generalize σ.1 2 i 0 1 = n
  have key : ∀ b : Bool, sp_isM n m = b → some (some (vI (b2i (b = true))), σ) = some (some (vI (b2i (sp_isM n m = true))), σ) := fun b e => by rw [e]
  have hI := sp_isM_iff (n := n) (m := m)
  have e0 : (0 : Int32).toInt = 0 := rfl
  have e7 : (7 : Int32).toInt = 7 := rfl
  have e700 : (700 : Int32).toInt = 700 := rfl
  have tt : sp_isM n m = true → some (some (vI 1), σ) = some (some (vI (b2i (sp_isM n m = true))), σ) := fun e => by rw [b2i_t e]
  have ff : ¬ sp_isM n m = true → some (some (vI 0), σ) = some (some (vI (b2i (sp_isM n m = true))), σ) := fun e => by rw [b2i_f e]
  simp only [sp_two, decide_eq_true_eq] at hI
  by_cases h0 : 0 ≤ m.toInt
  · have z1 := sp_d100 h0
    have z2 := sp_r10 h0
    have z3 := sp_r1 h0
    simp only [ma_lt, ma_le, ma_eq, z1, z2, z3, e0, e7, e700] at hI ⊢
    repeat' split
    all_goals first
      | (apply tt; rw [hI]; simp_all <;> omega)
      | (apply ff; rw [hI]; simp_all <;> omega)
  · simp only [ma_lt, ma_le, ma_eq, e0, e7, e700] at hI ⊢
    repeat' split
    all_goals first
      | (apply tt; rw [hI]; simp_all <;> omega)
      | (apply ff; rw [hI]; simp_all <;> omega)
