/-! PART 36: calls: set, image. -/
theorem ma_Iv_ref {t : Nat} {x m : ma_S} {s : Int32} (hi : ma_Iv t x m) (h : 0 ≤ s ∧ s < 8) : (if 0 ≤ x.1 16 s.toNatClampNeg 0 1 ∧ x.1 16 s.toNatClampNeg 0 1 < 100 then (-2 : Int32) else if 100 ≤ x.1 16 s.toNatClampNeg 0 1 then 0 else -3) = (if m.1 50 8 0 s.toNatClampNeg = 2 then -2 else if m.1 50 8 0 s.toNatClampNeg = 0 then -3 else 0) := by
  obtain ⟨hin, hs, hz⟩ := sp_in8 h
  have e0 : (0 : Int32).toInt = 0 := rfl
  have e100 : (100 : Int32).toInt = 100 := rfl
  have h4 := (ma_Iv_ok hi).2.1
  rcases hi.2.1 s.toNatClampNeg hs with ⟨a, b, c⟩ | ⟨a, b, c, d1, d2⟩ | ⟨a, b, c1, c2, c3⟩
  · rw [a, b]; decide
  · rw [a, if_pos ⟨by rw [b, ma_le]; omega, by rw [b, ma_lt]; omega⟩, if_pos rfl]
  · have := ma_add (a := 100) (b := m.1 50 9 0 s.toNatClampNeg) (by omega) (by omega)
    rw [a, b, if_neg (fun z => by have := ma_lt.mp z.2; omega), if_pos (by rw [ma_le]; omega), if_neg (by decide), if_neg (by decide)]
theorem ma_Iv_uJ {t s i : Nat} {x m : ma_S} {v : Int64} (hi : ma_Iv t x m) (hs : s < 8) (h1 : m.1 50 8 0 s = 1) (h160 : i < 160) : ma_Iv t (ma_uJ x s i v) (ma_uJ m 10 (160 * s + i) v) := by
  have ex : ma_uJ x s i v = ma_xs x s (x.1 16 s 0 1) (x.1 16 s 0 2) (fun k => if k = i then v else x.2 s k) := by
    refine ma_S_ext (fun g i' j k => ?_) (fun i' k => ?_)
    · simp only [ma_uJ, ma_xs]
      by_cases e : g = 16 ∧ i' = s ∧ j = 0
      · obtain ⟨rfl, rfl, rfl⟩ := e
        by_cases k1 : k = 1
        · subst k1; simp
        by_cases k2 : k = 2
        · subst k2; simp
        · simp [k1, k2]
      · rw [if_neg e]
    · simp only [ma_uJ, ma_xs]
      by_cases e : i' = s
      · subst e; simp
      · simp [e]
  have em : ma_uJ m 10 (160 * s + i) v = ma_ms m s (m.1 50 8 0 s) (m.1 50 9 0 s) (m.1 50 10 0 s) (m.1 50 11 0 s) (fun k => if k = 160 * s + i then v else m.2 10 k) := by
    refine ma_S_ext (fun g i' j k => ?_) (fun i' k => ?_)
    · simp only [ma_uJ, ma_ms]
      by_cases e : g = 50 ∧ j = 0 ∧ k = s
      · obtain ⟨rfl, rfl, rfl⟩ := e
        by_cases k1 : i' = 8
        · subst k1; simp
        by_cases k2 : i' = 11
        · subst k2; simp
        by_cases k3 : i' = 9
        · subst k3; simp
        by_cases k4 : i' = 10
        · subst k4; simp
        · simp [k1, k2, k3, k4]
      · rw [if_neg e]
    · simp only [ma_uJ, ma_ms]
      by_cases e : i' = 10
      · subst e; simp
      · simp [e]
  rw [ex, em]
  refine ma_Iv_shelf hi hs (fun k hk => if_neg (by omega)) ?_
  rcases hi.2.1 s hs with ⟨a, _⟩ | ⟨a, _⟩ | ⟨a, b, c1, c2, c3, c4, c5, c6⟩
  · rw [a] at h1; exact absurd h1 (by decide)
  · rw [a] at h1; exact absurd h1 (by decide)
  · refine Or.inr (Or.inr ⟨a, b, c1, c2, c3, c4, c5, fun k hk => ?_⟩)
    by_cases e : k = i
    · subst e; rw [if_pos rfl, if_pos rfl]
    · rw [if_neg e, if_neg (by omega)]; exact c6 k hk
theorem sp_cut (O : Int32) : 100 + O - 100 = O := by rw [Int32.add_comm]; exact Int32.add_sub_cancel _ _
theorem op_set (d t : Nat) (x m : ma_S) (s i : Int32) (v : Int64) (hi : ma_Iv t x m) : ma_Op (d + 3) 61 118 [vI s, vI i, vL v] t x m := by
  unfold ma_Op
  rw [en_61, en_118]
  have e0 : (0 : Int32).toInt = 0 := rfl
  have n01 : ((0 : Int32) = 2) = False := by decide
  have n12 : ((1 : Int32) = 2) = False := by decide
  have n10 : ((1 : Int32) = 0) = False := by decide
  have m3 : ((-3 : Int32) = 0) = False := by decide
  have m2 : ((-2 : Int32) = 0) = False := by decide
  have m1 : ((-1 : Int32) = 0) = False := by decide
  by_cases h : 0 ≤ s ∧ s < 8
  · obtain ⟨hin, hs, hz⟩ := sp_in8 h
    have hl := ma_lj8 hs
    have hr := cx_rowRefusal d s x
    rw [if_neg (fun z => z h), ma_Iv_ref hi h] at hr
    rcases hi.2.1 s.toNatClampNeg hs with ⟨a, b, c⟩ | ⟨a, b, c, _⟩ | ⟨a, b, c', c'', c2, c3, c4, c5⟩
    · rw [a, if_neg (by decide), if_pos rfl] at hr
      refine ⟨some (vI (-3)), sp_rx x (-3), sp_rm m (-3), ?_, ?_, ma_Iv_no sp_isb3 (ma_Iv_s hi)⟩
      · simp only [bk_61_0, bk_61_5, bk_61_12, bk_61_18, bk_61_19, bk_61_29, bk_61_32, bk_61_38, bk_61_39, bk_61_50, hr, m3, cx_refuse _ _ _ sp_isb3, ↓reduceIte, ma_bd_some, ma_bd_none, ma_tl1, ma_tl0, ma_ap1, ma_ap0, b2i_0, b2i_1, b2i_01, ma_l10, ma_l01, eq_self, true_or, or_true, not_true_eq_false, not_false_eq_true, Bool.false_eq_true]
      · simp only [bk_118_0, bk_118_5, bk_118_8, bk_118_13, bk_118_14, bk_118_24, bk_118_30, bk_118_31, bk_118_40, bk_118_46, bk_118_47, bk_118_51, bk_118_61, bk_118_67, bk_118_68, bk_118_88, bk_118_95, bk_118_105, bk_118_112, bk_118_122, bk_118_128, bk_118_129, cm_isShelf, eq_true h, ma_if_pos hin, a, n01, cm_no _ _ _ sp_isb3, ↓reduceIte, ma_bd_some, ma_bd_none, ma_tl1, ma_tl0, ma_ap1, ma_ap0, b2i_0, b2i_1, b2i_01, ma_l10, ma_l01, eq_self, true_or, or_true, not_true_eq_false, not_false_eq_true, Bool.false_eq_true]
    · rw [a, if_pos rfl] at hr
      refine ⟨some (vI (-2)), sp_rx x (-2), sp_rm m (-2), ?_, ?_, ma_Iv_no sp_isb2 (ma_Iv_s hi)⟩
      · simp only [bk_61_0, bk_61_5, bk_61_12, bk_61_18, bk_61_19, bk_61_29, bk_61_32, bk_61_38, bk_61_39, bk_61_50, hr, m2, cx_refuse _ _ _ sp_isb2, ↓reduceIte, ma_bd_some, ma_bd_none, ma_tl1, ma_tl0, ma_ap1, ma_ap0, b2i_0, b2i_1, b2i_01, ma_l10, ma_l01, eq_self, true_or, or_true, not_true_eq_false, not_false_eq_true, Bool.false_eq_true]
      · simp only [bk_118_0, bk_118_5, bk_118_8, bk_118_13, bk_118_14, bk_118_24, bk_118_30, bk_118_31, bk_118_40, bk_118_46, bk_118_47, bk_118_51, bk_118_61, bk_118_67, bk_118_68, bk_118_88, bk_118_95, bk_118_105, bk_118_112, bk_118_122, bk_118_128, bk_118_129, cm_isShelf, eq_true h, ma_if_pos hin, a, cm_no _ _ _ sp_isb2, ↓reduceIte, ma_bd_some, ma_bd_none, ma_tl1, ma_tl0, ma_ap1, ma_ap0, b2i_0, b2i_1, b2i_01, ma_l10, ma_l01, eq_self, true_or, or_true, not_true_eq_false, not_false_eq_true, Bool.false_eq_true]
    · rw [a, if_neg (by decide), if_neg (by decide)] at hr
      by_cases hq : 0 ≤ i ∧ i < x.1 16 s.toNatClampNeg 0 2
      · have h1 := ma_le.mp hq.1
        have h2 := ma_lt.mp hq.2
        rw [c2] at h2
        have hi160 : ma_in i 160 := ma_inI (by omega) (by omega)
        have hcc := ma_clN (x := i)
        obtain ⟨q1, q2⟩ := sp_cell (s := s) (i := i) (by omega) (by omega)
        have b1 : (i < 0) = False := eq_false (fun z => by have := ma_lt.mp z; omega)
        have b2 : (i < m.1 50 10 0 s.toNatClampNeg) = True := eq_true (ma_lt.mpr h2)
        have l10 : ma_lj 10 = 1280 := rfl
        have fin : ∀ w : Int64, (∃ v_1 x' m', some (some (vI 1), ma_uJ x s.toNatClampNeg i.toNatClampNeg w) = some (v_1, x') ∧ some (some (vI 1), ma_uJ m 10 (160 * s.toNatClampNeg + i.toNatClampNeg) w) = some (v_1, m') ∧ ma_Iv (t + 1) x' m') := fun w => ⟨_, _, _, rfl, rfl, ma_Iv_uJ (ma_Iv_s hi) hs a (by omega)⟩
        rcases Classical.propComplete (m.1 50 9 0 s.toNatClampNeg = 0) with d0 | d0
        · simp only [bk_61_0, bk_61_5, bk_61_12, bk_61_18, bk_61_19, bk_61_29, bk_61_32, bk_61_38, bk_61_39, bk_61_50, bk_118_0, bk_118_5, bk_118_8, bk_118_13, bk_118_14, bk_118_24, bk_118_30, bk_118_31, bk_118_40, bk_118_46, bk_118_47, bk_118_51, bk_118_61, bk_118_67, bk_118_68, bk_118_88, bk_118_95, bk_118_105, bk_118_112, bk_118_122, bk_118_128, bk_118_129, hr, cx_hasElement, en_55, bk_55_0, bk_55_5, bk_55_8, bk_55_9, bk_55_44, bk_55_57, bk_55_70, bk_55_82, bk_55_89, eq_true hq, b, sp_cut, d0, ma_if_pos hin, hl, ma_if_pos hi160, cm_isShelf, eq_true h, a, b1, b2, n12, n10, l10, ma_if_pos q1, q2, ↓reduceIte, ma_bd_some, ma_bd_none, ma_tl1, ma_tl0, ma_ap1, ma_ap0, b2i_0, b2i_1, b2i_01, ma_l10, ma_l01, eq_self, true_or, or_true, not_true_eq_false, not_false_eq_true, Bool.false_eq_true]
          exact fin _
        rcases Classical.propComplete (m.1 50 9 0 s.toNatClampNeg = 1) with d1 | d1
        · simp only [bk_61_0, bk_61_5, bk_61_12, bk_61_18, bk_61_19, bk_61_29, bk_61_32, bk_61_38, bk_61_39, bk_61_50, bk_118_0, bk_118_5, bk_118_8, bk_118_13, bk_118_14, bk_118_24, bk_118_30, bk_118_31, bk_118_40, bk_118_46, bk_118_47, bk_118_51, bk_118_61, bk_118_67, bk_118_68, bk_118_88, bk_118_95, bk_118_105, bk_118_112, bk_118_122, bk_118_128, bk_118_129, hr, cx_hasElement, en_55, bk_55_0, bk_55_5, bk_55_8, bk_55_9, bk_55_44, bk_55_57, bk_55_70, bk_55_82, bk_55_89, eq_true hq, b, sp_cut, d0, d1, ma_if_pos hin, hl, ma_if_pos hi160, cm_isShelf, eq_true h, a, b1, b2, n12, n10, l10, ma_if_pos q1, q2, ↓reduceIte, ma_bd_some, ma_bd_none, ma_tl1, ma_tl0, ma_ap1, ma_ap0, b2i_0, b2i_1, b2i_01, ma_l10, ma_l01, eq_self, true_or, or_true, not_true_eq_false, not_false_eq_true, Bool.false_eq_true]
          exact fin _
        rcases Classical.propComplete (m.1 50 9 0 s.toNatClampNeg = 2) with d2 | d2
        all_goals
          simp only [bk_61_0, bk_61_5, bk_61_12, bk_61_18, bk_61_19, bk_61_29, bk_61_32, bk_61_38, bk_61_39, bk_61_50, bk_118_0, bk_118_5, bk_118_8, bk_118_13, bk_118_14, bk_118_24, bk_118_30, bk_118_31, bk_118_40, bk_118_46, bk_118_47, bk_118_51, bk_118_61, bk_118_67, bk_118_68, bk_118_88, bk_118_95, bk_118_105, bk_118_112, bk_118_122, bk_118_128, bk_118_129, hr, cx_hasElement, en_55, bk_55_0, bk_55_5, bk_55_8, bk_55_9, bk_55_44, bk_55_57, bk_55_70, bk_55_82, bk_55_89, eq_true hq, b, sp_cut, d0, d1, d2, ma_if_pos hin, hl, ma_if_pos hi160, cm_isShelf, eq_true h, a, b1, b2, n12, n10, l10, ma_if_pos q1, q2, ↓reduceIte, ma_bd_some, ma_bd_none, ma_tl1, ma_tl0, ma_ap1, ma_ap0, b2i_0, b2i_1, b2i_01, ma_l10, ma_l01, eq_self, true_or, or_true, not_true_eq_false, not_false_eq_true, Bool.false_eq_true]
          exact fin _
      · refine ⟨some (vI (-5)), sp_rx x (-5), sp_rm m (-5), ?_, ?_, ma_Iv_no sp_isb5 (ma_Iv_s hi)⟩
        · simp only [bk_61_0, bk_61_5, bk_61_12, bk_61_18, bk_61_19, bk_61_29, bk_61_32, bk_61_38, bk_61_39, bk_61_50, hr, cx_hasElement, eq_false hq, ma_if_pos hin, cx_refuse _ _ _ sp_isb5, ↓reduceIte, ma_bd_some, ma_bd_none, ma_tl1, ma_tl0, ma_ap1, ma_ap0, b2i_0, b2i_1, b2i_01, ma_l10, ma_l01, eq_self, true_or, or_true, not_true_eq_false, not_false_eq_true, Bool.false_eq_true]
        · by_cases b1 : i < 0
          · simp only [bk_118_0, bk_118_5, bk_118_8, bk_118_13, bk_118_14, bk_118_24, bk_118_30, bk_118_31, bk_118_40, bk_118_46, bk_118_47, bk_118_51, bk_118_61, bk_118_67, bk_118_68, bk_118_88, bk_118_95, bk_118_105, bk_118_112, bk_118_122, bk_118_128, bk_118_129, cm_isShelf, eq_true h, ma_if_pos hin, a, n12, n10, b1, cm_no _ _ _ sp_isb5, ↓reduceIte, ma_bd_some, ma_bd_none, ma_tl1, ma_tl0, ma_ap1, ma_ap0, b2i_0, b2i_1, b2i_01, ma_l10, ma_l01, eq_self, true_or, or_true, not_true_eq_false, not_false_eq_true, Bool.false_eq_true]
          · have b2 : (i < m.1 50 10 0 s.toNatClampNeg) = False := eq_false (fun z => hq ⟨by rw [ma_lt] at b1; rw [ma_le]; omega, by rw [c2]; exact z⟩)
            simp only [bk_118_0, bk_118_5, bk_118_8, bk_118_13, bk_118_14, bk_118_24, bk_118_30, bk_118_31, bk_118_40, bk_118_46, bk_118_47, bk_118_51, bk_118_61, bk_118_67, bk_118_68, bk_118_88, bk_118_95, bk_118_105, bk_118_112, bk_118_122, bk_118_128, bk_118_129, cm_isShelf, eq_true h, ma_if_pos hin, a, n12, n10, b1, b2, cm_no _ _ _ sp_isb5, ↓reduceIte, ma_bd_some, ma_bd_none, ma_tl1, ma_tl0, ma_ap1, ma_ap0, b2i_0, b2i_1, b2i_01, ma_l10, ma_l01, eq_self, true_or, or_true, not_true_eq_false, not_false_eq_true, Bool.false_eq_true]
  · have hr := cx_rowRefusal d s x
    rw [if_pos h] at hr
    refine ⟨some (vI (-1)), sp_rx x (-1), sp_rm m (-1), ?_, ?_, ma_Iv_no sp_isb1 (ma_Iv_s hi)⟩
    · simp only [bk_61_0, bk_61_5, bk_61_12, bk_61_18, bk_61_19, bk_61_29, bk_61_32, bk_61_38, bk_61_39, bk_61_50, hr, m1, cx_refuse _ _ _ sp_isb1, ↓reduceIte, ma_bd_some, ma_bd_none, ma_tl1, ma_tl0, ma_ap1, ma_ap0, b2i_0, b2i_1, b2i_01, ma_l10, ma_l01, eq_self, true_or, or_true, not_true_eq_false, not_false_eq_true, Bool.false_eq_true]
    · simp only [bk_118_0, bk_118_5, bk_118_8, bk_118_13, bk_118_14, bk_118_24, bk_118_30, bk_118_31, bk_118_40, bk_118_46, bk_118_47, bk_118_51, bk_118_61, bk_118_67, bk_118_68, bk_118_88, bk_118_95, bk_118_105, bk_118_112, bk_118_122, bk_118_128, bk_118_129, cm_isShelf, eq_false h, cm_no _ _ _ sp_isb1, ↓reduceIte, ma_bd_some, ma_bd_none, ma_tl1, ma_tl0, ma_ap1, ma_ap0, b2i_0, b2i_1, b2i_01, ma_l10, ma_l01, eq_self, true_or, or_true, not_true_eq_false, not_false_eq_true, Bool.false_eq_true]
theorem ma_Iv_keep {t : Nat} {x m : ma_S} (hi : ma_Iv t x m) : ma_Iv t (ma_u (ma_sh x 2 (sp_bF (x.1 2 2 0) (x.1 2 0 0)) (sp_bG (x.1 2 0 0 1) (x.1 4 2) (x.1 4 0))) 1 0 0 3 1) (ma_mh m (upd (m.1 20 0 0) 46 1) (sp_put (upd (m.1 20 0 0) 46 1) (ma_G m) 16 0)) := by
  obtain ⟨h1, h2, h3, h4, h5, h6⟩ := hi
  have e : ∀ g, g ≠ 1 → g ≠ 2 → g ≠ 4 → (ma_u (ma_sh x 2 (sp_bF (x.1 2 2 0) (x.1 2 0 0)) (sp_bG (x.1 2 0 0 1) (x.1 4 2) (x.1 4 0))) 1 0 0 3 1).1 g = x.1 g := fun g a b c => by
    rw [ma_u_g a]; funext i j k; simp [ma_sh, b, c]
  have e1 : ∀ k, (ma_u (ma_sh x 2 (sp_bF (x.1 2 2 0) (x.1 2 0 0)) (sp_bG (x.1 2 0 0 1) (x.1 4 2) (x.1 4 0))) 1 0 0 3 1).1 1 0 0 k = if k = 3 then 1 else x.1 1 0 0 k := fun k => by rw [ma_u_k]; simp [ma_sh]
  have eb : ∀ k, k ≠ 16 → ∀ r, sp_put (upd (m.1 20 0 0) 46 1) (ma_G m) 16 0 r k = ma_G m r k := fun k hk r => by unfold sp_put; rw [if_neg (by omega)]
  have em : ∀ k, k ≠ 16 → (ma_mh m (upd (m.1 20 0 0) 46 1) (sp_put (upd (m.1 20 0 0) 46 1) (ma_G m) 16 0)).1 50 k 0 = m.1 50 k 0 := fun k hk => by
    funext r
    rw [ma_mh_A, eb k hk]; rfl
  unfold ma_Iv
  rw [e 16 (by decide) (by decide) (by decide), e 50 (by decide) (by decide) (by decide), e 13 (by decide) (by decide) (by decide), e1, e1, ma_u_g (by decide), ma_u_g (by decide), ma_sh_neF _ _ _ _ _ (by decide), ma_sh_neG _ _ _ _ _ (by decide), ma_sh_F, ma_sh_G, em 7 (by decide), em 8 (by decide), em 9 (by decide), em 10 (by decide), em 11 (by decide), em 12 (by decide), em 13 (by decide), em 21 (by decide), ma_mh_F1, ma_mh_G]
  refine ⟨ma_IvH_S h1 (fun k a b => if_neg (by omega)) (fun r k a b => eb k (by omega) r), h2, h3, h4, ⟨rfl, Or.inr ⟨rfl, ⟨fun k a b => ?_, fun r hr k a b => ?_⟩, ?_, fun r hr => ?_⟩⟩, h6⟩
  · have q : (ma_mh m (upd (m.1 20 0 0) 46 1) (sp_put (upd (m.1 20 0 0) 46 1) (ma_G m) 16 0)).1 50 16 0 (23 + k) = m.1 20 0 0 k := by
      rw [ma_mh_A]
      unfold sp_put
      rw [if_pos (by omega), if_neg (by omega), show 23 + k - 0 - 23 = k by omega]
      exact if_neg (by omega)
    unfold sp_dcF
    rw [q]
    unfold sp_bF
    rw [if_pos ⟨a, b⟩]
    exact h1.1.1 k a b
  · have f1 : sp_bF (x.1 2 2 0) (x.1 2 0 0) 1 = x.1 2 0 0 1 := if_pos (by omega)
    rw [f1] at hr
    have h4' := h1.2.1.2.1
    have q : (ma_mh m (upd (m.1 20 0 0) 46 1) (sp_put (upd (m.1 20 0 0) 46 1) (ma_G m) 16 0)).1 50 16 0 (4 * (k - 1) + r) = m.1 50 k 0 r := by
      rw [ma_mh_A]
      unfold sp_put
      rw [if_pos (by omega), if_pos (by omega), show (4 * (k - 1) + r - 0) % 4 = r by omega, show (4 * (k - 1) + r - 0) / 4 + 1 = k by omega]
      rfl
    unfold sp_dcG
    rw [q]
    unfold sp_bG
    rw [if_pos hr]
    unfold sp_rb
    rw [if_pos ⟨a, b⟩]
    exact h1.1.2 r hr k a b
  · have hRe : ma_Re (x.1 2 0 0) (sp_bF (x.1 2 2 0) (x.1 2 0 0)) (x.1 4 0) (sp_bG (x.1 2 0 0 1) (x.1 4 2) (x.1 4 0)) := ⟨fun k a b => (if_pos ⟨a, b⟩).symm, fun r hr k a b => by
      unfold sp_bG
      rw [if_pos hr]
      exact (if_pos ⟨a, b⟩).symm⟩
    exact sp_Re_ok hRe h1.2.1
  · have f1 : sp_bF (x.1 2 2 0) (x.1 2 0 0) 1 = x.1 2 0 0 1 := if_pos (by omega)
    rw [f1] at hr
    have : sp_bG (x.1 2 0 0 1) (x.1 4 2) (x.1 4 0) r 5 = x.1 4 0 r 5 := by
      unfold sp_bG
      rw [if_pos hr]
      exact if_pos (by omega)
    rw [this]
    exact h1.2.2.1 r hr
theorem op_image (d t : Nat) (x m : ma_S) (hi : ma_Iv t x m) : ma_Op (d + 3) 95 200 [] t x m := by
  unfold ma_Op
  rw [en_95, en_200]
  have hk := ma_Iv_ok hi
  have hp := cm_all_put d 16 0 m (upd (m.1 20 0 0) 46 1) (ma_G m) (by omega) (by decide) (by decide)
  rw [nI_0, ← ma_mh_u] at hp
  have f1 : upd (m.1 20 0 0) 46 1 1 = m.1 20 0 0 1 := rfl
  refine ⟨some (vI (x.1 2 0 0 1)), _, _, ?_, ?_, ma_Iv_keep (ma_Iv_s hi)⟩
  · simp only [bk_95_0, bk_95_11, cx_become _ 2 0 _ (by decide) hk.1 hk.2.1, ma_u_g (show (2 : Nat) ≠ 1 by decide), ma_sh_neF _ 2 0 _ _ (by decide), ↓reduceIte, ma_bd_some, ma_bd_none, ma_tl1, ma_tl0, ma_ap1, ma_ap0, b2i_0, b2i_1, b2i_01, ma_l10, ma_l01, eq_self, true_or, or_true, not_true_eq_false, not_false_eq_true, Bool.false_eq_true]
  · simp only [bk_200_0, bk_200_15, hp, ma_mh_F, f1, ma_Iv_F hi 1 (by omega) (by omega), ↓reduceIte, ma_bd_some, ma_bd_none, ma_tl1, ma_tl0, ma_ap1, ma_ap0, b2i_0, b2i_1, b2i_01, ma_l10, ma_l01, eq_self, true_or, or_true, not_true_eq_false, not_false_eq_true, Bool.false_eq_true]
