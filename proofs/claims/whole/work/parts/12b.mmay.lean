/-! PART 12b: isRider, isMove, lasts, goesDown, mayBe of the model. -/
/-- the model's riders as a hill's -/
def ma_G (σ : ma_S) : Nat → Nat → Int32 := fun r k => σ.1 50 k 0 r
theorem ma_G_at (σ : ma_S) (r k : Nat) : ma_G σ r k = σ.1 50 k 0 r := rfl
theorem cm_isRider (d : Nat) (r : Int32) (σ : ma_S) : ma_cal (d + 1) 116 [vR 20 0 0, vI r] σ = some (some (vI (b2i (0 ≤ r ∧ r < σ.1 20 0 0 1))), σ) := by
  rw [en_116]
  simp only [bk_116_0, bk_116_4, bk_116_12, bk_116_16, bk_116_17, ma_bd_some, ma_bd_none, ma_tl1, ma_tl0, ma_ap1, ma_ap0, b2i_0, b2i_1, b2i_01, ma_l10, ma_l01, eq_self, if_true, if_false, true_or, or_true, not_true_eq_false, not_false_eq_true, Bool.false_eq_true]
  simp only [b2i]
  repeat' split
  all_goals first | with_reducible rfl | (simp_all; done) | (exfalso; simp only [Int32.lt_iff_toInt_lt, Int32.le_iff_toInt_le, ← Int32.toInt_inj] at *; simp at *; omega)
theorem cm_goesDown (d : Nat) (o : Int32) (σ : ma_S) : ma_cal (d + 1) 153 [vR 20 0 0, vI o] σ = some (some (vI (b2i (o < 2 ∨ o = 6))), σ) := by
  rw [en_153]
  simp only [bk_153_0, bk_153_5, bk_153_11, bk_153_15, bk_153_16, ma_bd_some, ma_bd_none, ma_tl1, ma_tl0, ma_ap1, ma_ap0, b2i_0, b2i_1, b2i_01, ma_l10, ma_l01, eq_self, if_true, if_false, true_or, or_true, not_true_eq_false, not_false_eq_true, Bool.false_eq_true]
  simp only [b2i]
  repeat' split
  all_goals first | with_reducible rfl | (simp_all; done) | (exfalso; simp only [Int32.lt_iff_toInt_lt, Int32.le_iff_toInt_le, ← Int32.toInt_inj] at *; simp at *; omega)
theorem cm_isMove (d : Nat) (m : Int32) (σ : ma_S) : ma_cal (d + 2) 151 [vR 20 0 0, vI m] σ = some (some (vI (b2i (sp_isM (σ.1 20 0 0 1) m = true))), σ) := by
  rw [en_151]
  simp only [bk_151_0, bk_151_7, bk_151_9, bk_151_32, bk_151_38, bk_151_43, bk_151_46, bk_151_48, bk_151_53, bk_151_58, bk_151_64, bk_151_70, bk_151_73, bk_151_77, bk_151_81, bk_151_86, bk_151_90, bk_151_91, cm_isRider, ma_bd_some, ma_bd_none, ma_tl1, ma_tl0, ma_ap1, ma_ap0, b2i_0, b2i_1, b2i_01, ma_l10, ma_l01, eq_self, if_true, if_false, true_or, or_true, not_true_eq_false, not_false_eq_true, Bool.false_eq_true]
  generalize σ.1 20 0 0 1 = n
  have hI := sp_isM_iff (n := n) (m := m)
  have e0 : (0 : Int32).toInt = 0 := rfl
  have e6 : (6 : Int32).toInt = 6 := rfl
  have e7 : (7 : Int32).toInt = 7 := rfl
  have e700 : (700 : Int32).toInt = 700 := rfl
  have tt : sp_isM n m = true → some (some (vI 1), σ) = some (some (vI (b2i (sp_isM n m = true))), σ) := fun e => by rw [b2i_t e]
  have ff : ¬ sp_isM n m = true → some (some (vI 0), σ) = some (some (vI (b2i (sp_isM n m = true))), σ) := fun e => by rw [b2i_f e]
  simp only [sp_two, decide_eq_true_eq] at hI
  by_cases h0 : 0 ≤ m.toInt
  · have z1 := sp_d100 h0
    have z2 := sp_r10 h0
    have z3 := sp_r1 h0
    simp only [ma_lt, ma_le, ma_eq, z1, z2, z3, e0, e6, e7, e700] at hI ⊢
    repeat' split
    all_goals first
      | (apply tt; rw [hI]; clear hI tt ff; simp_all <;> omega)
      | (apply ff; rw [hI]; clear hI tt ff; simp_all <;> omega)
  · simp only [ma_lt, ma_le, ma_eq, e0, e6, e7, e700] at hI ⊢
    repeat' split
    all_goals first
      | (apply tt; rw [hI]; clear hI tt ff; simp_all <;> omega)
      | (apply ff; rw [hI]; clear hI tt ff; simp_all <;> omega)
theorem cm_lasts (d : Nat) (m : Int32) (σ : ma_S) (h1 : ma_in (ma_rm (m / 10) 10) 4) (h2 : ma_in (ma_rm m 10) 4) : ma_cal (d + 3) 152 [vR 20 0 0, vI m] σ = some (some (vI (sp_last (σ.1 20 0 0) (ma_G σ) m)), σ) := by
  rw [en_152]
  simp only [bk_152_0, bk_152_64, bk_152_69, bk_152_70, bk_152_76, bk_152_82, bk_152_85, bk_152_90, bk_152_93, bk_152_99, bk_152_104, bk_152_105, bk_152_110, bk_152_111, bk_152_117, bk_152_123, bk_152_129, bk_152_130, bk_152_135, bk_152_136, bk_152_138, bk_152_145, cm_down _ _ _ _ _ h1, cm_down _ _ _ _ _ h2, cm_pull _ _ _ _ _ h1, cm_pull _ _ _ _ _ h2, cm_walk _ _ _ _ _ h1, cm_one, ma_bd_some, ma_bd_none, ma_tl1, ma_tl0, ma_ap1, ma_ap0, b2i_0, b2i_1, b2i_01, ma_l10, ma_l01, eq_self, if_true, if_false, true_or, or_true, not_true_eq_false, not_false_eq_true, Bool.false_eq_true]
  simp only [sp_last, ma_G_at, sp_ri, sp_rj]
  by_cases hlt : sp_down (σ.1 50 1 0 (ma_rm (m / 10) 10).toNatClampNeg) (σ.1 20 0 0 7) < sp_down (σ.1 50 1 0 (ma_rm m 10).toNatClampNeg) (σ.1 20 0 0 7)
  · have hle : ¬ sp_down (σ.1 50 1 0 (ma_rm m 10).toNatClampNeg) (σ.1 20 0 0 7) ≤ sp_down (σ.1 50 1 0 (ma_rm (m / 10) 10).toNatClampNeg) (σ.1 20 0 0 7) := by rw [ma_le]; rw [ma_lt] at hlt; omega
    simp only [sp_min, if_pos hlt, if_neg hle]
    repeat' split
    all_goals first | with_reducible rfl | (simp_all; done)
  · have hle : sp_down (σ.1 50 1 0 (ma_rm m 10).toNatClampNeg) (σ.1 20 0 0 7) ≤ sp_down (σ.1 50 1 0 (ma_rm (m / 10) 10).toNatClampNeg) (σ.1 20 0 0 7) := by rw [ma_le]; rw [ma_lt] at hlt; omega
    simp only [sp_min, if_neg hlt, if_pos hle]
    repeat' split
    all_goals first | with_reducible rfl | (simp_all; done)
theorem cm_mayBe (d : Nat) (m : Int32) (σ : ma_S) (hk : sp_ok (σ.1 20 0 0) (ma_G σ)) : ma_cal (d + 4) 154 [vR 20 0 0, vI m] σ = some (some (vI (b2i (sp_may (σ.1 20 0 0) (ma_G σ) m = true))), σ) := by
  rw [en_154]
  have hn := hk.2.1
  have tt : sp_may (σ.1 20 0 0) (ma_G σ) m = true → some (some (vI 1), σ) = some (some (vI (b2i (sp_may (σ.1 20 0 0) (ma_G σ) m = true))), σ) := fun e => by rw [b2i_t e]
  have ff : ¬ sp_may (σ.1 20 0 0) (ma_G σ) m = true → some (some (vI 0), σ) = some (some (vI (b2i (sp_may (σ.1 20 0 0) (ma_G σ) m = true))), σ) := fun e => by rw [b2i_f e]
  by_cases h : sp_isM (σ.1 20 0 0 1) m = true
  · have hi := sp_isM_in hn h
    simp only [bk_154_0, bk_154_5, bk_154_8, bk_154_13, bk_154_20, bk_154_22, bk_154_47, bk_154_49, bk_154_54, bk_154_57, bk_154_61, bk_154_62, bk_154_75, bk_154_80, bk_154_85, bk_154_97, bk_154_99, bk_154_104, bk_154_111, bk_154_115, bk_154_116, bk_154_117, bk_154_122, bk_154_128, bk_154_130, bk_154_137, bk_154_142, bk_154_149, bk_154_153, bk_154_154, cm_isMove, cm_goesDown, cm_lasts _ _ _ hi.1 hi.2, h, ma_if_pos hi.1, ma_if_pos hi.2, ma_bd_some, ma_bd_none, ma_tl1, ma_tl0, ma_ap1, ma_ap0, b2i_0, b2i_1, b2i_01, ma_l10, ma_l01, eq_self, if_true, if_false, true_or, or_true, not_true_eq_false, not_false_eq_true, Bool.false_eq_true]
    have hI := sp_may_iff (σ.1 20 0 0) (ma_G σ) m
    have hrl := sp_ri_lt h
    have hm0 := sp_isM_iff.mp h
    have hz := sp_d100 (m := m) (by omega)
    have hw1 : m.toInt = 700 ∨ (ma_G σ (sp_ri m) 3 = 0 ∨ ma_G σ (sp_ri m) 3 = 1) := by
      rcases hrl with z | ⟨z, -⟩
      · exact Or.inl z
      · exact Or.inr (hk.2.2.2.2.2.2.2.2 _ z).2.2.1
    have hw2 : sp_two (m / 100) = true → m.toInt = 700 ∨ (ma_G σ (sp_rj m) 3 = 0 ∨ ma_G σ (sp_rj m) 3 = 1) := fun e => by
      rcases hrl with z | ⟨-, z⟩
      · exact Or.inl z
      · exact Or.inr (hk.2.2.2.2.2.2.2.2 _ (z e)).2.2.1
    have e0 : (0 : Int32).toInt = 0 := rfl
    have hor : (m / 100).toInt = 0 ∨ (m / 100).toInt = 1 ∨ (m / 100).toInt = 2 ∨ (m / 100).toInt = 3 ∨ (m / 100).toInt = 4 ∨ (m / 100).toInt = 5 ∨ (m / 100).toInt = 6 ∨ ((m / 100).toInt = 7 ∧ m.toInt = 700) := by
      rcases hm0 with z | ⟨z1, z2, -⟩ <;> omega
    have hor2 : m / 100 = 0 ∨ m / 100 = 1 ∨ m / 100 = 2 ∨ m / 100 = 3 ∨ m / 100 = 4 ∨ m / 100 = 5 ∨ m / 100 = 6 ∨ (m / 100 = 7 ∧ m.toInt = 700) := by
      simp only [ma_eq]; exact hor
    have hn7 : ¬ m / 100 = 7 → ¬ m.toInt = 700 := fun z1 z2 => z1 (by rw [ma_eq, hz, z2]; rfl)
    simp only [h, true_and, ma_G_at, sp_ri, sp_rj] at hI hw1 hw2
    generalize sp_may (σ.1 20 0 0) (ma_G σ) m = B at *
    generalize some (some (vI (b2i (B = true))), σ) = R at tt ff ⊢
    generalize σ.1 50 3 0 (ma_rm (m / 10) 10).toNatClampNeg = w1 at *
    generalize σ.1 50 3 0 (ma_rm m 10).toNatClampNeg = w2 at *
    generalize sp_last (σ.1 20 0 0) (ma_G σ) m = la at *
    generalize σ.1 20 0 0 2 = f2 at *
    generalize σ.1 20 0 0 3 = f3 at *
    generalize σ.1 20 0 0 4 = f4 at *
    generalize σ.1 20 0 0 5 = f5 at *
    generalize m.toInt = mi at *
    generalize m / 100 = o at *
    clear hk hi hn hor hz hm0 hrl h
    by_cases c1 : la ≤ f4
    · simp only [c1, if_true, true_and] at hI ⊢
      rcases hor2 with rfl | rfl | rfl | rfl | rfl | rfl | rfl | ⟨rfl, h7⟩
      all_goals
        simp only [b2i, sp_two] at *
        simp at hI hw1 hw2 hn7 ⊢
        (repeat' split)
        all_goals first
          | (apply tt; rw [hI]; clear hI tt ff; simp_all; done)
          | (apply ff; rw [hI]; clear hI tt ff; simp_all; done)
          | (apply ff; rw [hI]; clear hI tt ff; rcases hw1 with hw1 | hw1 | hw1 <;> simp_all; done)
          | (apply tt; rw [hI]; clear hI tt ff; simp only [ma_lt, ma_le] at *; simp_all; done)
          | (apply ff; rw [hI]; clear hI tt ff; simp only [ma_lt, ma_le] at *; simp_all; done)
          | (apply ff; rw [hI]; clear hI tt ff; simp only [ma_lt, ma_le] at *; simp_all; intros; omega)
          | exact tt hI
    · simp only [c1, if_false, false_and] at hI ⊢
      exact ff (by rw [hI]; exact fun z => z)
  · have hf : ¬ sp_may (σ.1 20 0 0) (ma_G σ) m = true := fun e => h (by unfold sp_may at e; exact (of_decide_eq_true e).1)
    simp only [bk_154_0, bk_154_5, bk_154_8, bk_154_13, bk_154_20, bk_154_22, bk_154_47, bk_154_49, bk_154_54, bk_154_57, bk_154_61, bk_154_62, bk_154_75, bk_154_80, bk_154_85, bk_154_97, bk_154_99, bk_154_104, bk_154_111, bk_154_115, bk_154_116, bk_154_117, bk_154_122, bk_154_128, bk_154_130, bk_154_137, bk_154_142, bk_154_149, bk_154_153, bk_154_154, cm_isMove, h, ma_bd_some, ma_bd_none, ma_tl1, ma_tl0, ma_ap1, ma_ap0, b2i_0, b2i_1, b2i_01, ma_l10, ma_l01, eq_self, if_true, if_false, true_or, or_true, not_true_eq_false, not_false_eq_true, Bool.false_eq_true]
    exact ff hf
