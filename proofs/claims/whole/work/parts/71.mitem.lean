/-! PART 71: HILLS from texts: the model's item. -/
theorem sp_rn_b {L : Nat → Int32} {Z a : Nat} {l h : Int32} (hb : sp_lt L Z a = 32) : sp_rn L Z l h a = if (sp_dg L Z 3 (a + 1) 0).1 = a + 1 ∨ (sp_dg L Z 3 (a + 1) 0).2 < l ∨ h < (sp_dg L Z 3 (a + 1) 0).2 then .inl (a + 1) else .inr (sp_dg L Z 3 (a + 1) 0) := if_pos hb
theorem sp_rn_in {L : Nat → Int32} {Z a p : Nat} {l h v : Int32} (hr : sp_rn L Z l h a = .inr (p, v)) : sp_lt L Z a = 32 ∧ sp_dg L Z 3 (a + 1) 0 = (p, v) ∧ p ≠ a + 1 ∧ l ≤ v ∧ v ≤ h ∧ 0 ≤ v.toInt ∧ v.toInt ≤ 999 ∧ a + 1 < p ∧ p ≤ Z := by
  have hvb := sp_dg_b L Z 3 (a + 1) 0 (by omega) (by decide) (by decide)
  have hle := (sp_dg_le L Z 3 (a + 1) 0).1
  unfold sp_rn at hr
  by_cases c1 : sp_lt L Z a = 32
  · rw [if_pos c1] at hr
    have hz := sp_lt_32 c1
    have hZ := sp_dg_Z L Z 3 (a + 1) 0 (by omega)
    by_cases c2 : (sp_dg L Z 3 (a + 1) 0).1 = a + 1 ∨ (sp_dg L Z 3 (a + 1) 0).2 < l ∨ h < (sp_dg L Z 3 (a + 1) 0).2
    · rw [if_pos c2] at hr; cases hr
    · rw [if_neg c2] at hr
      have e : sp_dg L Z 3 (a + 1) 0 = (p, v) := Sum.inr.inj hr
      rw [e] at c2 hvb hle hZ
      refine ⟨c1, e, fun z => c2 (Or.inl z), ?_, ?_, hvb.1, hvb.2, ?_, hZ⟩
      · apply Decidable.of_not_not
        intro z
        exact c2 (Or.inr (Or.inl (by rw [ma_le] at z; rw [ma_lt]; show v.toInt < _; omega)))
      · apply Decidable.of_not_not
        intro z
        exact c2 (Or.inr (Or.inr (by rw [ma_le] at z; rw [ma_lt]; show _ < v.toInt; omega)))
      · have z : p ≠ a + 1 := fun z => c2 (Or.inl z)
        have : a + 1 ≤ p := hle
        omega
  · rw [if_neg c1] at hr; cases hr
theorem sp_rn_f {L : Nat → Int32} {Z a f : Nat} {l h : Int32} (hr : sp_rn L Z l h a = .inl f) : f = a ∨ f = a + 1 := by
  unfold sp_rn at hr
  by_cases c1 : sp_lt L Z a = 32
  · rw [if_pos c1] at hr
    split at hr
    · exact Or.inr (Sum.inl.inj hr).symm
    · cases hr
  · rw [if_neg c1] at hr
    exact Or.inl (Sum.inl.inj hr).symm
theorem sp_nem (p : Prop) : (¬ p ∨ p) = True := eq_true (Classical.em p).symm
section SO
variable (d : Nat) (m : ma_S) (S : Nat → Int32) (T : Nat → Nat → Int32) (v : Int32)
theorem cm_so_00 (h29 : S 29 = v) (hv : 0 ≤ v.toInt) : ma_cal (d + 5) 141 [vR 20 0 0, vI 0, vI (nI 0)] (ma_mh m S T) = some (some (vI (b2i (decide (0 ≤ v ∧ v ≤ 6) = true))), ma_mh m S T) := by
  have v0 : 0 ≤ v := by rw [ma_le]; exact hv
  have b0 : ((0 : Int32) = 0 ∨ (0 : Int32) = 1) = True := by decide
  have b1 : ((1 : Int32) = 0 ∨ (1 : Int32) = 1) = True := by decide
  rw [nI_0, en_141]
  rcases Classical.propComplete (v ≤ 6) with c | c
  all_goals simp (decide := true) only [bk_141_0, bk_141_44, bk_141_52, bk_141_57, bk_141_59, bk_141_62, bk_141_66, bk_141_67, bk_141_68, bk_141_79, bk_141_83, bk_141_84, bk_141_85, bk_141_93, bk_141_97, bk_141_111, bk_141_114, bk_141_118, bk_141_119, bk_141_120, bk_141_129, bk_141_130, bk_141_139, bk_141_140, bk_141_151, bk_141_152, bk_141_160, ma_mh_F, h29, ma_nlt 6 v, c, b2i, v0, and_true, and_false, and_self, b0, b1, decide_true, decide_false, ↓reduceIte, ma_bd_some, ma_bd_none, ma_tl1, ma_tl0, ma_ap1, ma_ap0, b2i_0, b2i_1, b2i_01, ma_l10, ma_l01, eq_self, true_or, or_true, not_true_eq_false, not_false_eq_true, Bool.false_eq_true]
theorem cm_so_01 (h29 : S 29 = v) (hv : 0 ≤ v.toInt) : ma_cal (d + 5) 141 [vR 20 0 0, vI 0, vI (nI 1)] (ma_mh m S T) = some (some (vI (b2i (decide (0 ≤ v ∧ v ≤ 9) = true))), ma_mh m S T) := by
  have v0 : 0 ≤ v := by rw [ma_le]; exact hv
  have b0 : ((0 : Int32) = 0 ∨ (0 : Int32) = 1) = True := by decide
  have b1 : ((1 : Int32) = 0 ∨ (1 : Int32) = 1) = True := by decide
  have z1 : nI 1 = 1 := rfl
  rw [z1, en_141]
  rcases Classical.propComplete (v ≤ 9) with c | c
  all_goals simp (decide := true) only [bk_141_0, bk_141_44, bk_141_52, bk_141_57, bk_141_59, bk_141_62, bk_141_66, bk_141_67, bk_141_68, bk_141_79, bk_141_83, bk_141_84, bk_141_85, bk_141_93, bk_141_97, bk_141_111, bk_141_114, bk_141_118, bk_141_119, bk_141_120, bk_141_129, bk_141_130, bk_141_139, bk_141_140, bk_141_151, bk_141_152, bk_141_160, ma_mh_F, h29, ma_nlt 9 v, c, b2i, v0, and_true, and_false, and_self, b0, b1, decide_true, decide_false, ↓reduceIte, ma_bd_some, ma_bd_none, ma_tl1, ma_tl0, ma_ap1, ma_ap0, b2i_0, b2i_1, b2i_01, ma_l10, ma_l01, eq_self, true_or, or_true, not_true_eq_false, not_false_eq_true, Bool.false_eq_true]
theorem cm_so_12 (w n : Nat) (hw : w = 1 ∨ w = 2) (hn : n ≤ 4) (h1 : S 1 = nI n) (h29 : S 29 = v) (hv : 0 ≤ v.toInt) : ma_cal (d + 5) 141 [vR 20 0 0, vI (nI w), vI (nI 0)] (ma_mh m S T) = some (some (vI (b2i (decide (0 ≤ v ∧ v ≤ nI n - 1) = true))), ma_mh m S T) := by
  have v0 : 0 ≤ v := by rw [ma_le]; exact hv
  have hni := nI_toInt (n := n) (by omega)
  have e1 : (1 : Int32).toInt = 1 := rfl
  have b0 : ((0 : Int32) = 0 ∨ (0 : Int32) = 1) = True := by decide
  have b1 : ((1 : Int32) = 0 ∨ (1 : Int32) = 1) = True := by decide
  have ec : (nI n ≤ v) = ¬ (v ≤ nI n - 1) := by
    apply propext
    rw [ma_le, ma_le, ma_sub (by omega) (by omega)]
    omega
  rw [nI_0, en_141]
  rcases hw with rfl | rfl
  · have z1 : nI 1 = 1 := rfl
    rcases Classical.propComplete (v ≤ nI n - 1) with c | c
    all_goals simp (decide := true) only [bk_141_0, bk_141_44, bk_141_52, bk_141_57, bk_141_59, bk_141_62, bk_141_66, bk_141_67, bk_141_68, bk_141_79, bk_141_83, bk_141_84, bk_141_85, bk_141_93, bk_141_97, bk_141_111, bk_141_114, bk_141_118, bk_141_119, bk_141_120, bk_141_129, bk_141_130, bk_141_139, bk_141_140, bk_141_151, bk_141_152, bk_141_160, z1, ma_mh_F, h1, h29, ec, c, b2i, v0, and_true, and_false, and_self, b0, b1, decide_true, decide_false, ↓reduceIte, ma_bd_some, ma_bd_none, ma_tl1, ma_tl0, ma_ap1, ma_ap0, b2i_0, b2i_1, b2i_01, ma_l10, ma_l01, eq_self, true_or, or_true, not_true_eq_false, not_false_eq_true, Bool.false_eq_true]
  · have z2 : nI 2 = 2 := rfl
    rcases Classical.propComplete (v ≤ nI n - 1) with c | c
    all_goals simp (decide := true) only [bk_141_0, bk_141_44, bk_141_52, bk_141_57, bk_141_59, bk_141_62, bk_141_66, bk_141_67, bk_141_68, bk_141_79, bk_141_83, bk_141_84, bk_141_85, bk_141_93, bk_141_97, bk_141_111, bk_141_114, bk_141_118, bk_141_119, bk_141_120, bk_141_129, bk_141_130, bk_141_139, bk_141_140, bk_141_151, bk_141_152, bk_141_160, z2, ma_mh_F, h1, h29, ec, c, b2i, v0, and_true, and_false, and_self, b0, b1, decide_true, decide_false, ↓reduceIte, ma_bd_some, ma_bd_none, ma_tl1, ma_tl0, ma_ap1, ma_ap0, b2i_0, b2i_1, b2i_01, ma_l10, ma_l01, eq_self, true_or, or_true, not_true_eq_false, not_false_eq_true, Bool.false_eq_true]
theorem cm_so_30 (h29 : S 29 = v) (hv : 0 ≤ v.toInt) : ma_cal (d + 5) 141 [vR 20 0 0, vI 3, vI (nI 0)] (ma_mh m S T) = some (some (vI (b2i (decide (0 ≤ v ∧ v ≤ 3) = true))), ma_mh m S T) := by
  have v0 : 0 ≤ v := by rw [ma_le]; exact hv
  have b0 : ((0 : Int32) = 0 ∨ (0 : Int32) = 1) = True := by decide
  have b1 : ((1 : Int32) = 0 ∨ (1 : Int32) = 1) = True := by decide
  rw [nI_0, en_141]
  rcases Classical.propComplete (v ≤ 3) with c | c
  all_goals simp (decide := true) only [bk_141_0, bk_141_44, bk_141_52, bk_141_57, bk_141_59, bk_141_62, bk_141_66, bk_141_67, bk_141_68, bk_141_79, bk_141_83, bk_141_84, bk_141_85, bk_141_93, bk_141_97, bk_141_111, bk_141_114, bk_141_118, bk_141_119, bk_141_120, bk_141_129, bk_141_130, bk_141_139, bk_141_140, bk_141_151, bk_141_152, bk_141_160, ma_mh_F, h29, ma_nlt 3 v, c, b2i, v0, and_true, and_false, and_self, b0, b1, decide_true, decide_false, ↓reduceIte, ma_bd_some, ma_bd_none, ma_tl1, ma_tl0, ma_ap1, ma_ap0, b2i_0, b2i_1, b2i_01, ma_l10, ma_l01, eq_self, true_or, or_true, not_true_eq_false, not_false_eq_true, Bool.false_eq_true]
theorem cm_so_31 (f : Int32) (hf : 0 ≤ f.toInt ∧ f.toInt ≤ 3) (ht : T 0 14 = f) (h29 : S 29 = v) (hv : 0 ≤ v.toInt) (hv9 : v.toInt ≤ 999) : ma_cal (d + 5) 141 [vR 20 0 0, vI 3, vI (nI 1)] (ma_mh m S T) = some (some (vI (b2i (decide (0 ≤ v ∧ v ≤ 3 - f) = true))), ma_mh m S T) := by
  have v0 : 0 ≤ v := by rw [ma_le]; exact hv
  have b0 : ((0 : Int32) = 0 ∨ (0 : Int32) = 1) = True := by decide
  have b1 : ((1 : Int32) = 0 ∨ (1 : Int32) = 1) = True := by decide
  have z1 : nI 1 = 1 := rfl
  have e3 : (3 : Int32).toInt = 3 := rfl
  have e0 : (0 : Int32).toInt = 0 := rfl
  have hin : ma_in (0 : Int32) 2 := ⟨by decide, by decide⟩
  have c0 : Int32.toNatClampNeg 0 = 0 := by decide
  have hs := ma_sub (a := 3) (b := f) (by omega) (by omega)
  have ha := ma_add (a := f) (b := v) (by omega) (by omega)
  have ec : (0 ≤ f ∧ 0 ≤ v ∧ f ≤ 3 ∧ v ≤ 3 ∧ f + v ≤ 3) = (v ≤ 3 - f) := by
    apply propext
    simp only [ma_le]
    omega
  have har := cm_areSledges (d + 3) f v (ma_mh m S T)
  simp only [ec] at har
  rw [z1, en_141]
  rcases Classical.propComplete (v ≤ 3 - f) with c | c
  · have c3 : (3 < v) = False := eq_false (by
      have := ma_le.mp (of_eq_true c)
      rw [ma_lt]; omega)
    simp (decide := true) only [bk_141_0, bk_141_44, bk_141_52, bk_141_57, bk_141_59, bk_141_62, bk_141_66, bk_141_67, bk_141_68, bk_141_79, bk_141_83, bk_141_84, bk_141_85, bk_141_93, bk_141_97, bk_141_111, bk_141_114, bk_141_118, bk_141_119, bk_141_120, bk_141_129, bk_141_130, bk_141_139, bk_141_140, bk_141_151, bk_141_152, bk_141_160, ma_mh_F, ma_mh_A, h29, c3, c0, ht, ma_if_pos hin, har, c, b2i, v0, and_true, and_false, and_self, b0, b1, decide_true, decide_false, ↓reduceIte, ma_bd_some, ma_bd_none, ma_tl1, ma_tl0, ma_ap1, ma_ap0, b2i_0, b2i_1, b2i_01, ma_l10, ma_l01, eq_self, true_or, or_true, not_true_eq_false, not_false_eq_true, Bool.false_eq_true]
  · rcases Classical.propComplete (3 < v) with c3 | c3
    all_goals simp (decide := true) only [bk_141_0, bk_141_44, bk_141_52, bk_141_57, bk_141_59, bk_141_62, bk_141_66, bk_141_67, bk_141_68, bk_141_79, bk_141_83, bk_141_84, bk_141_85, bk_141_93, bk_141_97, bk_141_111, bk_141_114, bk_141_118, bk_141_119, bk_141_120, bk_141_129, bk_141_130, bk_141_139, bk_141_140, bk_141_151, bk_141_152, bk_141_160, ma_mh_F, ma_mh_A, h29, c3, c0, ht, ma_if_pos hin, har, c, b2i, v0, and_true, and_false, and_self, b0, b1, decide_true, decide_false, ↓reduceIte, ma_bd_some, ma_bd_none, ma_tl1, ma_tl0, ma_ap1, ma_ap0, b2i_0, b2i_1, b2i_01, ma_l10, ma_l01, eq_self, true_or, or_true, not_true_eq_false, not_false_eq_true, Bool.false_eq_true]
theorem cm_so_4 (h29 : S 29 = v) : ma_cal (d + 5) 141 [vR 20 0 0, vI 4, vI (nI 0)] (ma_mh m S T) = some (some (vI (b2i (decide (0 ≤ v ∧ v ≤ 999) = true))), ma_mh m S T) := by
  have e : b2i (decide (0 ≤ v ∧ v ≤ 999) = true) = b2i (0 ≤ v ∧ v ≤ 999) := by unfold b2i; simp only [decide_eq_true_eq]
  rw [nI_0, e, en_141]
  simp (decide := true) only [bk_141_0, bk_141_44, bk_141_52, bk_141_57, bk_141_59, bk_141_62, bk_141_66, bk_141_67, bk_141_68, bk_141_79, bk_141_83, bk_141_84, bk_141_85, bk_141_93, bk_141_97, bk_141_111, bk_141_114, bk_141_118, bk_141_119, bk_141_120, bk_141_129, bk_141_130, bk_141_139, bk_141_140, bk_141_151, bk_141_152, bk_141_160, ma_mh_F, h29, cm_isAsked0, sp_nem, ↓reduceIte, ma_bd_some, ma_bd_none, ma_tl1, ma_tl0, ma_ap1, ma_ap0, b2i_0, b2i_1, b2i_01, ma_l10, ma_l01, eq_self, true_or, or_true, not_true_eq_false, not_false_eq_true, Bool.false_eq_true]
theorem cm_so_5 (h29 : S 29 = v) : ma_cal (d + 5) 141 [vR 20 0 0, vI 5, vI (nI 0)] (ma_mh m S T) = some (some (vI (b2i (decide (0 ≤ v ∧ v ≤ 99) = true))), ma_mh m S T) := by
  have e : b2i (decide (0 ≤ v ∧ v ≤ 99) = true) = b2i (0 ≤ v ∧ v ≤ 99) := by unfold b2i; simp only [decide_eq_true_eq]
  rw [nI_0, e, en_141]
  simp (decide := true) only [bk_141_0, bk_141_44, bk_141_52, bk_141_57, bk_141_59, bk_141_62, bk_141_66, bk_141_67, bk_141_68, bk_141_79, bk_141_83, bk_141_84, bk_141_85, bk_141_93, bk_141_97, bk_141_111, bk_141_114, bk_141_118, bk_141_119, bk_141_120, bk_141_129, bk_141_130, bk_141_139, bk_141_140, bk_141_151, bk_141_152, bk_141_160, ma_mh_F, h29, cm_isAsked1, sp_nem, ↓reduceIte, ma_bd_some, ma_bd_none, ma_tl1, ma_tl0, ma_ap1, ma_ap0, b2i_0, b2i_1, b2i_01, ma_l10, ma_l01, eq_self, true_or, or_true, not_true_eq_false, not_false_eq_true, Bool.false_eq_true]
theorem cm_so_6 (i : Nat) (hi : i = 0 ∨ i = 1) (h29 : S 29 = v) : ma_cal (d + 5) 141 [vR 20 0 0, vI 6, vI (nI i)] (ma_mh m S T) = some (some (vI (b2i (decide (1 ≤ v ∧ v ≤ 9) = true))), ma_mh m S T) := by
  have e : b2i (decide (1 ≤ v ∧ v ≤ 9) = true) = b2i (1 ≤ v ∧ v ≤ 9) := by unfold b2i; simp only [decide_eq_true_eq]
  rw [e, en_141]
  rcases hi with rfl | rfl
  · have z0 : (2 : Int32) + nI 0 = 2 := by decide
    simp (decide := true) only [bk_141_0, bk_141_44, bk_141_52, bk_141_57, bk_141_59, bk_141_62, bk_141_66, bk_141_67, bk_141_68, bk_141_79, bk_141_83, bk_141_84, bk_141_85, bk_141_93, bk_141_97, bk_141_111, bk_141_114, bk_141_118, bk_141_119, bk_141_120, bk_141_129, bk_141_130, bk_141_139, bk_141_140, bk_141_151, bk_141_152, bk_141_160, ma_mh_F, h29, z0, cm_isAsked2, sp_nem, ↓reduceIte, ma_bd_some, ma_bd_none, ma_tl1, ma_tl0, ma_ap1, ma_ap0, b2i_0, b2i_1, b2i_01, ma_l10, ma_l01, eq_self, true_or, or_true, not_true_eq_false, not_false_eq_true, Bool.false_eq_true]
  · have z0 : (2 : Int32) + nI 1 = 3 := by decide
    simp (decide := true) only [bk_141_0, bk_141_44, bk_141_52, bk_141_57, bk_141_59, bk_141_62, bk_141_66, bk_141_67, bk_141_68, bk_141_79, bk_141_83, bk_141_84, bk_141_85, bk_141_93, bk_141_97, bk_141_111, bk_141_114, bk_141_118, bk_141_119, bk_141_120, bk_141_129, bk_141_130, bk_141_139, bk_141_140, bk_141_151, bk_141_152, bk_141_160, ma_mh_F, h29, z0, cm_isAsked3, sp_nem, ↓reduceIte, ma_bd_some, ma_bd_none, ma_tl1, ma_tl0, ma_ap1, ma_ap0, b2i_0, b2i_1, b2i_01, ma_l10, ma_l01, eq_self, true_or, or_true, not_true_eq_false, not_false_eq_true, Bool.false_eq_true]
theorem cm_so_7 (h29 : S 29 = v) (hk : sp_ok S T) : ma_cal (d + 5) 141 [vR 20 0 0, vI 7, vI (nI 0)] (ma_mh m S T) = some (some (vI (b2i (sp_may S T v = true))), ma_mh m S T) := by
  rw [nI_0, en_141]
  simp (decide := true) only [bk_141_0, bk_141_44, bk_141_52, bk_141_57, bk_141_59, bk_141_62, bk_141_66, bk_141_67, bk_141_68, bk_141_79, bk_141_83, bk_141_84, bk_141_85, bk_141_93, bk_141_97, bk_141_111, bk_141_114, bk_141_118, bk_141_119, bk_141_120, bk_141_129, bk_141_130, bk_141_139, bk_141_140, bk_141_151, bk_141_152, bk_141_160, ma_mh_F, h29, cm_mhMay _ _ _ _ _ hk, sp_nem, ↓reduceIte, ma_bd_some, ma_bd_none, ma_tl1, ma_tl0, ma_ap1, ma_ap0, b2i_0, b2i_1, b2i_01, ma_l10, ma_l01, eq_self, true_or, or_true, not_true_eq_false, not_false_eq_true, Bool.false_eq_true]
end SO
section MI
variable (d Z s : Nat) (m : ma_S) (L : Nat → Int32)
theorem sp_MT_n {m : ma_S} {L : Nat → Int32} {Z s : Nat} {S : Nat → Int32} {T : Nat → Nat → Int32} (h : sp_MT m L Z s S T) (w : Nat) (hw : w < 8) : ma_in (nI w) 8 ∧ (nI w).toNatClampNeg = w ∧ T w 13 = sp_NT.getD w 0 := by
  have hi := nI_toInt (n := w) (by omega)
  exact ⟨ma_inI (by omega) (by omega), nI_clamp (by omega), h.2.2.2.2.1.2 w hw⟩
theorem sp_MT_T {S : Nat → Int32} {T T' : Nat → Nat → Int32} (h : sp_MT m L Z s S T) (h' : ∀ r q, q = 12 ∨ q = 13 → T' r q = T r q) : sp_MT m L Z s S T' := by
  obtain ⟨a, b, c, e, ⟨f1, f2⟩, g⟩ := h
  exact ⟨a, b, c, e, ⟨fun k hk => by show T' k 12 = _; rw [h' k 12 (Or.inl rfl)]; exact f1 k hk, fun k hk => by show T' k 13 = _; rw [h' k 13 (Or.inr rfl)]; exact f2 k hk⟩, g⟩
theorem sp_uE14 (T : Nat → Nat → Int32) (i r q : Nat) (v : Int32) (h : q ≠ 14) : ma_uE T i 14 v r q = T r q := by
  unfold ma_uE
  rw [if_neg (fun z => h z.2)]
/-- so is being in a range -/
def sp_soR (so : Int32 → Bool) (l h : Int32) : Prop := ∀ v : Int32, so v = true ↔ (l ≤ v ∧ v ≤ h)
theorem sp_rn_so {a : Nat} {l h : Int32} {so : Int32 → Bool} (hb : sp_lt L Z a = 32) (hs : sp_soR so l h) : ((sp_dg L Z 3 (a + 1) 0).1 = a + 1 ∨ so (sp_dg L Z 3 (a + 1) 0).2 = false) ↔ ∃ f, sp_rn L Z l h a = .inl f := by
  rw [sp_rn_b hb]
  have hz := hs (sp_dg L Z 3 (a + 1) 0).2
  have e1 : so (sp_dg L Z 3 (a + 1) 0).2 = false ↔ ((sp_dg L Z 3 (a + 1) 0).2 < l ∨ h < (sp_dg L Z 3 (a + 1) 0).2) := by
    rw [ma_lt, ma_lt]
    rw [ma_le, ma_le] at hz
    constructor
    · intro z
      apply Decidable.of_not_not
      intro z2
      have : so (sp_dg L Z 3 (a + 1) 0).2 = true := hz.mpr (by omega)
      rw [z] at this
      exact Bool.false_ne_true this
    · intro z
      apply Bool.eq_false_iff.mpr
      intro z2
      have := hz.mp z2
      omega
  rw [e1]
  constructor
  · intro z
    exact ⟨a + 1, if_pos z⟩
  · rintro ⟨f, z⟩
    apply Decidable.of_not_not
    intro z2
    rw [if_neg z2] at z
    cases z
/-- one number, its blank being there -/
theorem cm_num2 (S : Nat → Int32) (T : Nat → Nat → Int32) (a i : Nat) (w : Int32) (u3 : Option ma_V) (so : Int32 → Bool) (l h : Int32) (hb : a < 700) (hi : i < 2) (hM : sp_MT m L Z s S T) (h27 : S 27 = nI (a + 1)) (hbl : sp_lt L Z a = 32) (hs : sp_soR so l h) (hso : ∀ (S' : Nat → Int32) (v : Int32), S' 29 = v → 0 ≤ v.toInt → v.toInt ≤ 999 → sp_f3 S S' → ma_cal (d + 5) 141 [vR 20 0 0, vI w, vI (nI i)] (ma_mh m S' T) = some (some (vI (b2i (so v = true))), ma_mh m S' T)) : (∀ f, sp_rn L Z l h a = .inl f → ∃ S', ma_ex (d + 5) 142 103 [some (vR 20 0 0), some (vI w), some (vI (nI i)), u3] [] (ma_mh m S T) = some (some (vI 0), ma_mh m S' T) ∧ S' 30 = nI f ∧ sp_f3 S S') ∧ (∀ p v, sp_rn L Z l h a = .inr (p, v) → ∃ S', ma_ex (d + 5) 142 103 [some (vR 20 0 0), some (vI w), some (vI (nI i)), u3] [] (ma_mh m S T) = ma_ex (d + 5) 142 39 [some (vR 20 0 0), some (vI w), some (vI (nI (i + 1))), some (vI (nI (a + 1)))] [] (ma_mh m S' (ma_uE T i 14 v)) ∧ S' 27 = nI p ∧ sp_f3 S S') := by
  obtain ⟨r1, r2⟩ := cm_num d Z s m L S T (a + 1) i w u3 so (by omega) hi hM h27 hso
  have hiff := sp_rn_so Z L (a := a) hbl hs
  refine ⟨fun f e => ?_, fun p v e => ?_⟩
  · have hf : f = a + 1 := by
      have z := e
      rw [sp_rn_b hbl] at z
      split at z
      · exact (Sum.inl.inj z).symm
      · cases z
    rw [hf]
    exact r1 (hiff.mpr ⟨f, e⟩)
  · have hn : ¬ ((sp_dg L Z 3 (a + 1) 0).1 = a + 1 ∨ so (sp_dg L Z 3 (a + 1) 0).2 = false) := fun z => by
      obtain ⟨f, z⟩ := hiff.mp z
      rw [e] at z
      cases z
    have h2 := r2 hn
    rw [(sp_rn_in e).2.1] at h2
    exact h2
theorem cm_item39 (S : Nat → Int32) (T : Nat → Nat → Int32) (w i : Nat) (u3 : Option ma_V) (hw : w < 8) (hi : i ≤ 2) (hM : sp_MT m L Z s S T) : ma_ex (d + 5) 142 39 [some (vR 20 0 0), some (vI (nI w)), some (vI (nI i)), u3] [] (ma_mh m S T) = if sp_NT.getD w 0 ≤ nI i then ma_ex (d + 5) 142 148 [some (vR 20 0 0), some (vI (nI w)), some (vI (nI i)), u3] [] (ma_mh m S T) else if i = 0 then ma_ex (d + 5) 142 103 [some (vR 20 0 0), some (vI (nI w)), some (vI (nI i)), u3] [] (ma_mh m S T) else ma_ex (d + 5) 142 53 [some (vR 20 0 0), some (vI (nI w)), some (vI (nI i)), u3] [] (ma_mh m S T) := by
  obtain ⟨n1, n2, n3⟩ := sp_MT_n hM w hw
  rw [bk_142_39, ma_if_pos n1, n2, ma_mh_A, n3, bk_142_49]
  by_cases c : i = 0
  · subst c
    have z : (nI 0 ≤ 0) := by decide
    rw [if_pos z, if_pos rfl]
  · have z : ¬ (nI i ≤ 0) := nI_nle (by omega) (by omega)
    rw [if_neg z, if_neg c]
theorem cm_item53 (S : Nat → Int32) (T : Nat → Nat → Int32) (w i : Int32) (u3 : Option ma_V) (p : Nat) (hp : p < 800) (hM : sp_MT m L Z s S T) (h27 : S 27 = nI p) : (sp_lt L Z p = 32 → ma_ex (d + 5) 142 53 [some (vR 20 0 0), some (vI w), some (vI i), u3] [] (ma_mh m S T) = ma_ex (d + 5) 142 103 [some (vR 20 0 0), some (vI w), some (vI i), u3] [] (ma_mh m (upd S 27 (nI (p + 1))) T)) ∧ (sp_lt L Z p ≠ 32 → ma_ex (d + 5) 142 53 [some (vR 20 0 0), some (vI w), some (vI i), u3] [] (ma_mh m S T) = some (some (vI 0), ma_mh m (upd S 30 (nI p)) T)) := by
  obtain ⟨g1, g2, g3, g4, g5, g6⟩ := id hM
  have b00 : ((0 : Int32) = 0 ∨ (0 : Int32) = 1) = True := by decide
  by_cases hz : p < Z
  · obtain ⟨c1, c2⟩ := sp_MTc hM p hz
    have cz : (nI Z ≤ nI p) = False := eq_false (nI_ge hz (by omega))
    refine ⟨fun e => ?_, fun e => ?_⟩
    · have e' := eq_true e
      simp only [bk_142_53, bk_142_64, bk_142_93, ma_mh_F, ma_mh_J, g1, g2, h27, cz, nI_add, ma_if_pos c1, c2, e', ma_mh_uF, nI_1, ↓reduceIte, ma_bd_some, ma_bd_none, ma_tl1, ma_tl0, ma_ap1, ma_ap0, b2i_0, b2i_1, b2i_01, ma_l10, ma_l01, eq_self, true_or, or_true, not_true_eq_false, not_false_eq_true, Bool.false_eq_true]
    · have e' := eq_false e
      simp only [bk_142_53, bk_142_64, bk_142_84, bk_142_92, ma_mh_F, ma_mh_J, g1, g2, h27, cz, nI_add, ma_if_pos c1, c2, e', cm_wrong, b00, ↓reduceIte, ma_bd_some, ma_bd_none, ma_tl1, ma_tl0, ma_ap1, ma_ap0, b2i_0, b2i_1, b2i_01, ma_l10, ma_l01, eq_self, true_or, or_true, not_true_eq_false, not_false_eq_true, Bool.false_eq_true]
  · have cz : (nI Z ≤ nI p) = True := eq_true (nI_le (by omega) (by omega))
    have el : sp_lt L Z p = -1 := if_neg hz
    refine ⟨fun e => ?_, fun e => ?_⟩
    · rw [el] at e; exact absurd e (by decide)
    · simp only [bk_142_53, bk_142_84, bk_142_92, ma_mh_F, g2, h27, cz, cm_wrong, b00, ↓reduceIte, ma_bd_some, ma_bd_none, ma_tl1, ma_tl0, ma_ap1, ma_ap0, b2i_0, b2i_1, b2i_01, ma_l10, ma_l01, eq_self, true_or, or_true, not_true_eq_false, not_false_eq_true, Bool.false_eq_true]
end MI
