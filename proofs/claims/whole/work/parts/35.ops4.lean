/-! PART 35: calls: rider, trace, image. -/
theorem cm_adds (d n : Nat) (kind a : Int32) (σ : ma_S) (F : Nat → Int32) (G : Nat → Nat → Int32) (hF : F 1 = nI n) (hn : n < 4) : ma_cal (d + 1) 127 [vR 20 0 0, vI kind, vI a] (ma_mh σ F G) = some (some (vI (nI n)), ma_mh σ (upd F 1 (nI (n + 1))) (ma_uG G n (sp_newR kind a (G n)))) := by
  rw [en_127]
  have hin : ma_in (nI n) 4 := sp_nIin hn (Nat.le_refl _)
  have hcl : (nI n).toNatClampNeg = n := nI_clamp (by omega)
  simp only [bk_127_0, ma_mh_F, ma_mh_uA, ma_mh_uF, hF, hcl, ma_if_pos hin, ma_uG_at, ma_uG_uG]
  rw [nI_succ]
  congr 4
  funext q
  simp only [upd, sp_newR]
  by_cases k1 : q = 1
  · subst k1; simp
  by_cases k2 : q = 2
  · subst k2; simp
  by_cases k3 : q = 3
  · subst k3; simp
  by_cases k4 : q = 4
  · subst k4; simp
  by_cases k5 : q = 5
  · subst k5; simp
  by_cases k6 : q = 6
  · subst k6; simp
  · simp [k1, k2, k3, k4, k5, k6]
theorem sp_newR_congr (kind a : Int32) (R S : Nat → Int32) (k : Nat) (h1 : 1 ≤ k) (h6 : k ≤ 6) : sp_newR kind a R k = sp_newR kind a S k := by
  unfold sp_newR
  by_cases k1 : k = 1
  · rw [if_pos k1, if_pos k1]
  by_cases k2 : k = 2
  · rw [if_neg k1, if_neg k1, if_pos k2, if_pos k2]
  · rw [if_neg k1, if_neg k1, if_neg k2, if_neg k2, if_pos (by omega), if_pos (by omega)]
theorem ma_IvH_add {t n : Nat} {kind a : Int32} {F S : Nat → Int32} {G T : Nat → Nat → Int32} (hi : ma_IvH t F G S T) (hF : F 1 = nI n) (hn : n < 4) (hk : 0 ≤ kind.toInt ∧ kind.toInt ≤ 6) (ha : 0 ≤ a.toInt ∧ a.toInt ≤ 9) : ma_IvH t (upd F 1 (nI (n + 1))) (ma_uG G n (sp_newR kind a (G n))) (upd S 1 (nI (n + 1))) (ma_uG T n (sp_newR kind a (T n))) := by
  have hni : (nI n).toInt = n := nI_toInt (by omega)
  have hni1 : (nI (n + 1)).toInt = ((n + 1 : Nat) : Int) := nI_toInt (by omega)
  have u1 : upd F 1 (nI (n + 1)) 1 = nI (n + 1) := if_pos rfl
  have uk : ∀ (F : Nat → Int32) k, k ≠ 1 → upd F 1 (nI (n + 1)) k = F k := fun F k h => if_neg h
  obtain ⟨⟨hFF, hG⟩, ⟨a1, a2, a3, a4, a5, a6, a7, a8, hr⟩, hrb, hnum⟩ := hi
  refine ⟨⟨fun k b c => ?_, fun r hlt k b c => ?_⟩, ⟨?_, ?_, a3, a4, a5, a6, a7, a8, fun r hlt => ?_⟩, fun r hlt => ?_, fun r hlt => ?_⟩
  · unfold upd
    split
    · rfl
    · exact hFF k b c
  · rw [u1, hni1] at hlt
    unfold ma_uG
    split
    · exact sp_newR_congr _ _ _ _ k b c
    · exact hG r (by rw [hF, hni]; omega) k b c
  · rw [u1, hni1]; omega
  · rw [u1, hni1]; omega
  · rw [u1, hni1] at hlt
    unfold ma_uG
    split
    · refine ⟨hk, ha, Or.inl rfl, ?_⟩
      show (0 : Int) ≤ (0 : Int32).toInt ∧ (0 : Int32).toInt ≤ 99
      decide
    · exact hr r (by rw [hF, hni]; omega)
  · rw [u1, hni1] at hlt
    unfold ma_uG
    split
    · constructor
      · show (0 : Int) ≤ (0 : Int32).toInt
        decide
      · show (0 : Int32).toInt ≤ _
        have : (0 : Int32).toInt = 0 := rfl
        omega
    · exact hrb r (by rw [hF, hni]; omega)
  · unfold ma_uG
    split
    · rename_i e; subst e; exact hnum r hlt
    · exact hnum r hlt
theorem op_rider (d t : Nat) (x m : ma_S) (k a : Int32) (hi : ma_Iv t x m) : ma_Op (d + 4) 67 128 [vI k, vI a] t x m := by
  unfold ma_Op
  rw [en_67, en_128]
  have e0 : (0 : Int32).toInt = 0 := rfl
  have e4 : (4 : Int32).toInt = 4 := rfl
  have e6 : (6 : Int32).toInt = 6 := rfl
  have e7 : (7 : Int32).toInt = 7 := rfl
  have e9 : (9 : Int32).toInt = 9 := rfl
  obtain ⟨n, hn, hF, hFm⟩ := ma_Iv_n hi
  have hni : (nI n).toInt = n := nI_toInt (by omega)
  by_cases c1 : 0 ≤ k ∧ k < 7
  · have p1 := ma_le.mp c1.1
    have p2 := ma_lt.mp c1.2
    have b1 : (k < 0) = False := eq_false (fun z => by have := ma_lt.mp z; omega)
    have b2 : (k ≤ 6) = True := eq_true (by rw [ma_le]; omega)
    by_cases c2 : 0 ≤ a ∧ a ≤ 9
    · have p3 := ma_le.mp c2.1
      have p4 := ma_le.mp c2.2
      have b3 : (a < 0) = False := eq_false (fun z => by have := ma_lt.mp z; omega)
      have b4 : (a ≤ 9) = True := eq_true c2.2
      by_cases c3 : n < 4
      · have b5 : (nI n < 4) = True := eq_true (by rw [ma_lt]; omega)
        have b6 : (nI n = 4) = False := eq_false (fun z => by rw [ma_eq] at z; omega)
        have hA := cm_adds (d + 2) n k a m (m.1 20 0 0) (ma_G m) hFm c3
        rw [ma_mh_id] at hA
        have hH := ma_IvH_add (kind := k) (a := a) (ma_Iv_s hi).1 hF c3 (by omega) (by omega)
        have u1 : upd (x.1 2 0 0) 1 (nI (n + 1)) 1 = nI (n + 1) := if_pos rfl
        refine ⟨some (vI (nI n)), _, _, ?_, ?_, ma_Iv_hill (Nat.le_succ t) hi hH (by rw [u1, hF, hni, nI_toInt (by omega)]; omega) (fun q hq => if_neg (by omega)) (fun r q hq => ?_)⟩
        · simp only [bk_67_0, bk_67_4, bk_67_7, bk_67_12, bk_67_13, bk_67_20, bk_67_23, bk_67_29, bk_67_30, bk_67_37, bk_67_40, bk_67_46, bk_67_47, bk_67_56, cx_isKind, cx_isIn, cx_hasRoom, eq_true c1, eq_true c2, hF, b5, cx_addRider _ _ _ _ _ _ hF c3, ↓reduceIte, ma_bd_some, ma_bd_none, ma_tl1, ma_tl0, ma_ap1, ma_ap0, b2i_0, b2i_1, b2i_01, ma_l10, ma_l01, eq_self, true_or, or_true, not_true_eq_false, not_false_eq_true, Bool.false_eq_true]
        · simp only [bk_128_0, bk_128_4, bk_128_10, bk_128_15, bk_128_16, bk_128_20, bk_128_26, bk_128_32, bk_128_33, bk_128_41, bk_128_47, bk_128_50, bk_128_56, b1, b2, b3, b4, hFm, b6, hA, ↓reduceIte, ma_bd_some, ma_bd_none, ma_tl1, ma_tl0, ma_ap1, ma_ap0, b2i_0, b2i_1, b2i_01, ma_l10, ma_l01, eq_self, true_or, or_true, not_true_eq_false, not_false_eq_true, Bool.false_eq_true]
        · unfold ma_uG
          split
          · rename_i e; subst e
            unfold sp_newR
            rw [if_neg (by omega), if_neg (by omega), if_neg (by omega)]
          · rfl
      · have b5 : (nI n < 4) = False := eq_false (by rw [ma_lt]; omega)
        have b6 : (nI n = 4) = True := eq_true (by rw [ma_eq]; omega)
        refine ⟨some (vI (-7)), sp_rx x (-7), sp_rm m (-7), ?_, ?_, ma_Iv_no sp_isb7 (ma_Iv_s hi)⟩
        · simp only [bk_67_0, bk_67_4, bk_67_7, bk_67_12, bk_67_13, bk_67_20, bk_67_23, bk_67_29, bk_67_30, bk_67_37, bk_67_40, bk_67_46, bk_67_47, bk_67_56, cx_isKind, cx_isIn, cx_hasRoom, eq_true c1, eq_true c2, hF, b5, cx_refuse _ _ _ sp_isb7, ↓reduceIte, ma_bd_some, ma_bd_none, ma_tl1, ma_tl0, ma_ap1, ma_ap0, b2i_0, b2i_1, b2i_01, ma_l10, ma_l01, eq_self, true_or, or_true, not_true_eq_false, not_false_eq_true, Bool.false_eq_true]
        · simp only [bk_128_0, bk_128_4, bk_128_10, bk_128_15, bk_128_16, bk_128_20, bk_128_26, bk_128_32, bk_128_33, bk_128_41, bk_128_47, bk_128_50, bk_128_56, b1, b2, b3, b4, hFm, b6, cm_no _ _ _ sp_isb7, ↓reduceIte, ma_bd_some, ma_bd_none, ma_tl1, ma_tl0, ma_ap1, ma_ap0, b2i_0, b2i_1, b2i_01, ma_l10, ma_l01, eq_self, true_or, or_true, not_true_eq_false, not_false_eq_true, Bool.false_eq_true]
    · refine ⟨some (vI (-6)), sp_rx x (-6), sp_rm m (-6), ?_, ?_, ma_Iv_no sp_isb6 (ma_Iv_s hi)⟩
      · simp only [bk_67_0, bk_67_4, bk_67_7, bk_67_12, bk_67_13, bk_67_20, bk_67_23, bk_67_29, bk_67_30, bk_67_37, bk_67_40, bk_67_46, bk_67_47, bk_67_56, cx_isKind, cx_isIn, eq_true c1, eq_false c2, cx_refuse _ _ _ sp_isb6, ↓reduceIte, ma_bd_some, ma_bd_none, ma_tl1, ma_tl0, ma_ap1, ma_ap0, b2i_0, b2i_1, b2i_01, ma_l10, ma_l01, eq_self, true_or, or_true, not_true_eq_false, not_false_eq_true, Bool.false_eq_true]
      · by_cases b3 : a < 0
        · simp only [bk_128_0, bk_128_4, bk_128_10, bk_128_15, bk_128_16, bk_128_20, bk_128_26, bk_128_32, bk_128_33, bk_128_41, bk_128_47, bk_128_50, bk_128_56, b1, b2, b3, cm_no _ _ _ sp_isb6, ↓reduceIte, ma_bd_some, ma_bd_none, ma_tl1, ma_tl0, ma_ap1, ma_ap0, b2i_0, b2i_1, b2i_01, ma_l10, ma_l01, eq_self, true_or, or_true, not_true_eq_false, not_false_eq_true, Bool.false_eq_true]
        · have b4 : (a ≤ 9) = False := eq_false (fun z => c2 ⟨by rw [ma_lt] at b3; rw [ma_le]; omega, z⟩)
          simp only [bk_128_0, bk_128_4, bk_128_10, bk_128_15, bk_128_16, bk_128_20, bk_128_26, bk_128_32, bk_128_33, bk_128_41, bk_128_47, bk_128_50, bk_128_56, b1, b2, b3, b4, cm_no _ _ _ sp_isb6, ↓reduceIte, ma_bd_some, ma_bd_none, ma_tl1, ma_tl0, ma_ap1, ma_ap0, b2i_0, b2i_1, b2i_01, ma_l10, ma_l01, eq_self, true_or, or_true, not_true_eq_false, not_false_eq_true, Bool.false_eq_true]
  · refine ⟨some (vI (-1)), sp_rx x (-1), sp_rm m (-1), ?_, ?_, ma_Iv_no sp_isb1 (ma_Iv_s hi)⟩
    · simp only [bk_67_0, bk_67_4, bk_67_7, bk_67_12, bk_67_13, bk_67_20, bk_67_23, bk_67_29, bk_67_30, bk_67_37, bk_67_40, bk_67_46, bk_67_47, bk_67_56, cx_isKind, eq_false c1, cx_refuse _ _ _ sp_isb1, ↓reduceIte, ma_bd_some, ma_bd_none, ma_tl1, ma_tl0, ma_ap1, ma_ap0, b2i_0, b2i_1, b2i_01, ma_l10, ma_l01, eq_self, true_or, or_true, not_true_eq_false, not_false_eq_true, Bool.false_eq_true]
    · by_cases b3 : k < 0
      · simp only [bk_128_0, bk_128_4, bk_128_10, bk_128_15, bk_128_16, bk_128_20, bk_128_26, bk_128_32, bk_128_33, bk_128_41, bk_128_47, bk_128_50, bk_128_56, b3, cm_no _ _ _ sp_isb1, ↓reduceIte, ma_bd_some, ma_bd_none, ma_tl1, ma_tl0, ma_ap1, ma_ap0, b2i_0, b2i_1, b2i_01, ma_l10, ma_l01, eq_self, true_or, or_true, not_true_eq_false, not_false_eq_true, Bool.false_eq_true]
      · have b4 : (k ≤ 6) = False := eq_false (fun z => c1 ⟨by rw [ma_lt] at b3; rw [ma_le]; omega, by rw [ma_le] at z; rw [ma_lt]; omega⟩)
        simp only [bk_128_0, bk_128_4, bk_128_10, bk_128_15, bk_128_16, bk_128_20, bk_128_26, bk_128_32, bk_128_33, bk_128_41, bk_128_47, bk_128_50, bk_128_56, b3, b4, cm_no _ _ _ sp_isb1, ↓reduceIte, ma_bd_some, ma_bd_none, ma_tl1, ma_tl0, ma_ap1, ma_ap0, b2i_0, b2i_1, b2i_01, ma_l10, ma_l01, eq_self, true_or, or_true, not_true_eq_false, not_false_eq_true, Bool.false_eq_true]
theorem op_trace (d t : Nat) (x m : ma_S) (i : Int32) (hi : ma_Iv t x m) : ma_Op (d + 2) 94 199 [vI i] t x m := by
  unfold ma_Op
  rw [en_94, en_199]
  have e0 : (0 : Int32).toInt = 0 := rfl
  have e20 : (20 : Int32).toInt = 20 := rfl
  obtain ⟨h1, h2, h3, h4⟩ := hi.2.2.2.1
  rcases Classical.propComplete (i < 0) with c1 | c1
  · refine ⟨some (vI (-1)), x, m, ?_, ?_, ma_Iv_s hi⟩
    · simp only [bk_94_0, bk_94_8, en_59, bk_59_0, bk_59_4, bk_59_12, bk_59_18, bk_59_27, bk_59_28, c1, ↓reduceIte, ma_bd_some, ma_bd_none, ma_tl1, ma_tl0, ma_ap1, ma_ap0, b2i_0, b2i_1, b2i_01, ma_l10, ma_l01, eq_self, true_or, or_true, not_true_eq_false, not_false_eq_true, Bool.false_eq_true]
    · simp only [bk_199_0, bk_199_4, bk_199_10, bk_199_18, bk_199_27, bk_199_28, c1, ↓reduceIte, ma_bd_some, ma_bd_none, ma_tl1, ma_tl0, ma_ap1, ma_ap0, b2i_0, b2i_1, b2i_01, ma_l10, ma_l01, eq_self, true_or, or_true, not_true_eq_false, not_false_eq_true, Bool.false_eq_true]
  · rcases Classical.propComplete (m.1 20 0 0 45 ≤ i) with c2 | c2
    · refine ⟨some (vI (-1)), x, m, ?_, ?_, ma_Iv_s hi⟩
      · simp only [bk_94_0, bk_94_8, en_59, bk_59_0, bk_59_4, bk_59_12, bk_59_18, bk_59_27, bk_59_28, c1, h1, c2, ↓reduceIte, ma_bd_some, ma_bd_none, ma_tl1, ma_tl0, ma_ap1, ma_ap0, b2i_0, b2i_1, b2i_01, ma_l10, ma_l01, eq_self, true_or, or_true, not_true_eq_false, not_false_eq_true, Bool.false_eq_true]
      · rcases Classical.propComplete (20 ≤ i) with c3 | c3
        · simp only [bk_199_0, bk_199_4, bk_199_10, bk_199_18, bk_199_27, bk_199_28, c1, c3, ↓reduceIte, ma_bd_some, ma_bd_none, ma_tl1, ma_tl0, ma_ap1, ma_ap0, b2i_0, b2i_1, b2i_01, ma_l10, ma_l01, eq_self, true_or, or_true, not_true_eq_false, not_false_eq_true, Bool.false_eq_true]
        · simp only [bk_199_0, bk_199_4, bk_199_10, bk_199_18, bk_199_27, bk_199_28, c1, c2, c3, ↓reduceIte, ma_bd_some, ma_bd_none, ma_tl1, ma_tl0, ma_ap1, ma_ap0, b2i_0, b2i_1, b2i_01, ma_l10, ma_l01, eq_self, true_or, or_true, not_true_eq_false, not_false_eq_true, Bool.false_eq_true]
    · rcases Classical.propComplete (20 ≤ i) with c3 | c3
      · refine ⟨some (vI (-1)), x, m, ?_, ?_, ma_Iv_s hi⟩
        · simp only [bk_94_0, bk_94_8, en_59, bk_59_0, bk_59_4, bk_59_12, bk_59_18, bk_59_27, bk_59_28, c1, h1, c2, c3, ↓reduceIte, ma_bd_some, ma_bd_none, ma_tl1, ma_tl0, ma_ap1, ma_ap0, b2i_0, b2i_1, b2i_01, ma_l10, ma_l01, eq_self, true_or, or_true, not_true_eq_false, not_false_eq_true, Bool.false_eq_true]
        · simp only [bk_199_0, bk_199_4, bk_199_10, bk_199_18, bk_199_27, bk_199_28, c1, c3, ↓reduceIte, ma_bd_some, ma_bd_none, ma_tl1, ma_tl0, ma_ap1, ma_ap0, b2i_0, b2i_1, b2i_01, ma_l10, ma_l01, eq_self, true_or, or_true, not_true_eq_false, not_false_eq_true, Bool.false_eq_true]
      · have l1 : ¬ i.toInt < (0 : Int32).toInt := fun z => (c1.mp (ma_lt.mpr z)).elim
        have l2 : ¬ (m.1 20 0 0 45).toInt ≤ i.toInt := fun z => (c2.mp (ma_le.mpr z)).elim
        have l3 : ¬ (20 : Int32).toInt ≤ i.toInt := fun z => (c3.mp (ma_le.mpr z)).elim
        have hin : ma_in i 20 := ma_inI (by omega) (by omega)
        have hc := ma_clN (x := i)
        refine ⟨some (vI (m.1 50 21 0 i.toNatClampNeg)), x, m, ?_, ?_, ma_Iv_s hi⟩
        · simp only [bk_94_0, bk_94_8, en_59, bk_59_0, bk_59_4, bk_59_12, bk_59_18, bk_59_27, bk_59_28, c1, h1, c2, c3, ma_if_pos hin, ↓reduceIte, ma_bd_some, ma_bd_none, ma_tl1, ma_tl0, ma_ap1, ma_ap0, b2i_0, b2i_1, b2i_01, ma_l10, ma_l01, eq_self, true_or, or_true, not_true_eq_false, not_false_eq_true, Bool.false_eq_true]
          rw [h4 i.toNatClampNeg (by omega) (by rw [h1]; omega)]
        · simp only [bk_199_0, bk_199_4, bk_199_10, bk_199_18, bk_199_27, bk_199_28, c1, c2, c3, ma_if_pos hin, ↓reduceIte, ma_bd_some, ma_bd_none, ma_tl1, ma_tl0, ma_ap1, ma_ap0, b2i_0, b2i_1, b2i_01, ma_l10, ma_l01, eq_self, true_or, or_true, not_true_eq_false, not_false_eq_true, Bool.false_eq_true]
