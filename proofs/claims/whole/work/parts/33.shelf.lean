/-! PART 33: SHELVES: row, show, holds, element. -/
def ma_xs (x : ma_S) (s : Nat) (c z : Int32) (f : Nat → Int64) : ma_S := (fun g i j k => if g = 16 ∧ i = s ∧ j = 0 then (if k = 1 then c else if k = 2 then z else x.1 g i j k) else x.1 g i j k, fun i k => if i = s then f k else x.2 i k)
def ma_ms (m : ma_S) (s : Nat) (h o z w : Int32) (e : Nat → Int64) : ma_S := (fun g i j k => if g = 50 ∧ j = 0 ∧ k = s then (if i = 8 then h else if i = 9 then o else if i = 10 then z else if i = 11 then w else m.1 g i j k) else m.1 g i j k, fun i k => if i = 10 then e k else m.2 i k)
theorem ma_Iv_shelf {t s : Nat} {x m : ma_S} {c z h o z' w : Int32} {f e : Nat → Int64} (hi : ma_Iv t x m) (hs : s < 8) (he : ∀ i, ¬ (160 * s ≤ i ∧ i < 160 * s + 160) → e i = m.2 10 i) (hr : (h = 0 ∧ c = -1 ∧ z = 0) ∨ (h = 2 ∧ c = w ∧ z = 0 ∧ 0 ≤ w.toInt ∧ w.toInt < (x.1 2 0 0 1).toInt) ∨ (h = 1 ∧ c = 100 + o ∧ 0 ≤ o.toInt ∧ o.toInt ≤ 3 ∧ z = z' ∧ 0 ≤ z'.toInt ∧ z'.toInt ≤ 160 ∧ ∀ i, i < 160 → f i = e (160 * s + i))) : ma_Iv t (ma_xs x s c z f) (ma_ms m s h o z' w e) := by
  obtain ⟨h1, h2, h3, h4, h5, h6⟩ := hi
  have g2 : ∀ i, (ma_xs x s c z f).1 2 i = x.1 2 i := fun i => by funext j k; simp [ma_xs]
  have g4 : ∀ i, (ma_xs x s c z f).1 4 i = x.1 4 i := fun i => by funext j k; simp [ma_xs]
  have g1 : (ma_xs x s c z f).1 1 = x.1 1 := by funext i j k; simp [ma_xs]
  have g13 : (ma_xs x s c z f).1 13 = x.1 13 := by funext i j k; simp [ma_xs]
  have g50 : (ma_xs x s c z f).1 50 = x.1 50 := by funext i j k; simp [ma_xs]
  have m20 : (ma_ms m s h o z' w e).1 20 = m.1 20 := by funext i j k; simp [ma_ms]
  have mk : ∀ k, ¬ (8 ≤ k ∧ k ≤ 11) → (ma_ms m s h o z' w e).1 50 k = m.1 50 k := fun k hk => by
    funext j q
    simp only [ma_ms]
    split
    · rw [if_neg (by omega), if_neg (by omega), if_neg (by omega), if_neg (by omega)]
    · rfl
  unfold ma_Iv
  rw [g2, g4, g1, g13, g50, g2, g4, m20, mk 7 (by omega), mk 12 (by omega), mk 13 (by omega), mk 16 (by omega), mk 21 (by omega)]
  refine ⟨ma_IvH_S h1 (fun _ _ _ => rfl) (fun r k a b => by unfold ma_G; rw [mk k (by omega)]), ?_, h3, h4, h5, h6⟩
  intro q hq
  by_cases e1 : q = s
  · subst e1
    have s1 : (ma_xs x q c z f).1 16 q 0 1 = c := by simp [ma_xs]
    have s2 : (ma_xs x q c z f).1 16 q 0 2 = z := by simp [ma_xs]
    have s3 : ∀ i, (ma_xs x q c z f).2 q i = f i := fun i => by simp [ma_xs]
    have k8 : (ma_ms m q h o z' w e).1 50 8 0 q = h := by simp [ma_ms]
    have k9 : (ma_ms m q h o z' w e).1 50 9 0 q = o := by simp [ma_ms]
    have k10 : (ma_ms m q h o z' w e).1 50 10 0 q = z' := by simp [ma_ms]
    have k11 : (ma_ms m q h o z' w e).1 50 11 0 q = w := by simp [ma_ms]
    have ke : ∀ i, (ma_ms m q h o z' w e).2 10 i = e i := fun i => by simp [ma_ms]
    simp only [s1, s2, s3, k8, k9, k10, k11, ke]
    exact hr
  · have s1 : ∀ k, (ma_xs x s c z f).1 16 q 0 k = x.1 16 q 0 k := fun k => by simp [ma_xs, e1]
    have s3 : ∀ i, (ma_xs x s c z f).2 q i = x.2 q i := fun i => by simp [ma_xs, e1]
    have k8 : ∀ k, (ma_ms m s h o z' w e).1 50 k 0 q = m.1 50 k 0 q := fun k => by simp [ma_ms, e1]
    have ke : ∀ i, i < 160 → (ma_ms m s h o z' w e).2 10 (160 * q + i) = m.2 10 (160 * q + i) := fun i hi => by
      have : (ma_ms m s h o z' w e).2 10 (160 * q + i) = e (160 * q + i) := by simp [ma_ms]
      rw [this, he _ (by omega)]
    simp only [s1, s3, k8]
    rcases h2 q hq with a | a | ⟨a1, a2, a3, a4, a5, a6, a7, a8⟩
    · exact Or.inl a
    · exact Or.inr (Or.inl a)
    · exact Or.inr (Or.inr ⟨a1, a2, a3, a4, a5, a6, a7, fun i hi => by rw [ke i hi]; exact a8 i hi⟩)
theorem sp_in8 {s : Int32} (h : 0 ≤ s ∧ s < 8) : ma_in s 8 ∧ s.toNatClampNeg < 8 ∧ s.toInt = (s.toNatClampNeg : Int) := by
  have h1 := ma_le.mp h.1
  have h2 := ma_lt.mp h.2
  have e0 : (0 : Int32).toInt = 0 := rfl
  have e8 : (8 : Int32).toInt = 8 := rfl
  have hc := ma_clN (x := s)
  exact ⟨ma_inI (by omega) (by omega), by omega, by omega⟩
theorem op_holds (d t : Nat) (x m : ma_S) (s : Int32) (hi : ma_Iv t x m) : ma_Op (d + 2) 65 122 [vI s] t x m := by
  unfold ma_Op
  rw [en_65, en_122]
  have n10 : ((1 : Int32) = 0) = False := by decide
  have n20 : ((2 : Int32) = 0) = False := by decide
  have n21 : ((2 : Int32) = 1) = False := by decide
  by_cases h : 0 ≤ s ∧ s < 8
  · obtain ⟨hin, hs, hz⟩ := sp_in8 h
    refine ⟨some (vI (x.1 16 s.toNatClampNeg 0 1)), x, m, ?_, ?_, ma_Iv_s hi⟩
    · simp only [bk_65_0, bk_65_4, bk_65_7, bk_65_19, bk_65_20, cx_isShelf, eq_true h, ma_if_pos hin, ↓reduceIte, ma_bd_some, ma_bd_none, ma_tl1, ma_tl0, ma_ap1, ma_ap0, b2i_0, b2i_1, b2i_01, ma_l10, ma_l01, eq_self, true_or, or_true, not_true_eq_false, not_false_eq_true, Bool.false_eq_true]
    · rcases hi.2.1 s.toNatClampNeg hs with ⟨a, b, c⟩ | ⟨a, b, c⟩ | ⟨a, b, c⟩
      · simp only [bk_122_0, bk_122_5, bk_122_8, bk_122_17, bk_122_19, bk_122_29, bk_122_41, bk_122_47, cm_isShelf, eq_true h, ma_if_pos hin, a, b, ↓reduceIte, ma_bd_some, ma_bd_none, ma_tl1, ma_tl0, ma_ap1, ma_ap0, b2i_0, b2i_1, b2i_01, ma_l10, ma_l01, eq_self, true_or, or_true, not_true_eq_false, not_false_eq_true, Bool.false_eq_true]
      · simp only [bk_122_0, bk_122_5, bk_122_8, bk_122_17, bk_122_19, bk_122_29, bk_122_41, bk_122_47, cm_isShelf, eq_true h, ma_if_pos hin, a, b, n20, n21, ↓reduceIte, ma_bd_some, ma_bd_none, ma_tl1, ma_tl0, ma_ap1, ma_ap0, b2i_0, b2i_1, b2i_01, ma_l10, ma_l01, eq_self, true_or, or_true, not_true_eq_false, not_false_eq_true, Bool.false_eq_true]
      · simp only [bk_122_0, bk_122_5, bk_122_8, bk_122_17, bk_122_19, bk_122_29, bk_122_41, bk_122_47, cm_isShelf, eq_true h, ma_if_pos hin, a, b, n10, ↓reduceIte, ma_bd_some, ma_bd_none, ma_tl1, ma_tl0, ma_ap1, ma_ap0, b2i_0, b2i_1, b2i_01, ma_l10, ma_l01, eq_self, true_or, or_true, not_true_eq_false, not_false_eq_true, Bool.false_eq_true]
  · refine ⟨some (vI (-1)), x, m, ?_, ?_, ma_Iv_s hi⟩
    · simp only [bk_65_0, bk_65_4, bk_65_7, bk_65_19, bk_65_20, cx_isShelf, eq_false h, ↓reduceIte, ma_bd_some, ma_bd_none, ma_tl1, ma_tl0, ma_ap1, ma_ap0, b2i_0, b2i_1, b2i_01, ma_l10, ma_l01, eq_self, true_or, or_true, not_true_eq_false, not_false_eq_true, Bool.false_eq_true]
    · simp only [bk_122_0, bk_122_5, bk_122_8, bk_122_17, bk_122_19, bk_122_29, bk_122_41, bk_122_47, cm_isShelf, eq_false h, ↓reduceIte, ma_bd_some, ma_bd_none, ma_tl1, ma_tl0, ma_ap1, ma_ap0, b2i_0, b2i_1, b2i_01, ma_l10, ma_l01, eq_self, true_or, or_true, not_true_eq_false, not_false_eq_true, Bool.false_eq_true]
theorem op_show (d t : Nat) (x m : ma_S) (s r : Int32) (hi : ma_Iv t x m) : ma_Op (d + 2) 64 121 [vI s, vI r] t x m := by
  have e1 := ma_Iv_F hi 1 (by omega) (by omega)
  unfold ma_Op
  rw [en_64, en_121]
  have l8 : ma_la 8 = 8 := rfl
  by_cases h : 0 ≤ s ∧ s < 8
  · obtain ⟨hin, hs, hz⟩ := sp_in8 h
    have ex : ∀ v, ma_u (ma_u x 16 s.toNatClampNeg 0 1 v) 16 s.toNatClampNeg 0 2 0 = ma_xs x s.toNatClampNeg v 0 (x.2 s.toNatClampNeg) := fun v => by
      refine ma_S_ext (fun g i j k => ?_) (fun i k => ?_)
      · simp only [ma_u, ma_xs]
        by_cases e : g = 16 ∧ i = s.toNatClampNeg ∧ j = 0
        · obtain ⟨rfl, rfl, rfl⟩ := e
          by_cases k1 : k = 1
          · subst k1; simp
          by_cases k2 : k = 2
          · subst k2; simp
          · simp [k1, k2]
        · rw [if_neg (fun z => e ⟨z.1, z.2.1, z.2.2.1⟩), if_neg (fun z => e ⟨z.1, z.2.1, z.2.2.1⟩), if_neg e]
      · simp only [ma_u, ma_xs]
        split
        · rename_i e; subst e; rfl
        · rfl
    have em : ∀ v w, ma_u (ma_u m 50 8 0 s.toNatClampNeg v) 50 11 0 s.toNatClampNeg w = ma_ms m s.toNatClampNeg v (m.1 50 9 0 s.toNatClampNeg) (m.1 50 10 0 s.toNatClampNeg) w (m.2 10) := fun v w => by
      refine ma_S_ext (fun g i j k => ?_) (fun i k => ?_)
      · simp only [ma_u, ma_ms]
        by_cases e : g = 50 ∧ j = 0 ∧ k = s.toNatClampNeg
        · obtain ⟨rfl, rfl, rfl⟩ := e
          by_cases k1 : i = 8
          · subst k1; simp
          by_cases k2 : i = 11
          · subst k2; simp
          by_cases k3 : i = 9
          · subst k3; simp
          by_cases k4 : i = 10
          · subst k4; simp
          · simp [k1, k2, k3, k4]
        · rw [if_neg (fun z => e ⟨z.1, z.2.2.1, z.2.2.2⟩), if_neg (fun z => e ⟨z.1, z.2.2.1, z.2.2.2⟩), if_neg e]
      · simp only [ma_u, ma_ms]
        split
        · rename_i e; subst e; rfl
        · rfl
    rcases Classical.propComplete (r = -1) with c | c
    · have hr : r = -1 := of_eq_true c
      refine ⟨some (vI 0), _, _, ?_, ?_, ma_Iv_shelf (s := s.toNatClampNeg) (c := r) (z := 0) (f := x.2 s.toNatClampNeg) (h := 0) (o := m.1 50 9 0 s.toNatClampNeg) (z' := m.1 50 10 0 s.toNatClampNeg) (w := r) (e := m.2 10) (ma_Iv_s hi) hs (fun _ _ => rfl) (Or.inl ⟨rfl, hr, rfl⟩)⟩
      · simp only [bk_64_0, bk_64_4, bk_64_7, bk_64_12, bk_64_20, bk_64_23, bk_64_28, bk_64_29, bk_64_39, bk_64_44, bk_64_48, bk_64_49, cx_isShelf, cx_hold, eq_true h, ma_if_pos hin, c, ex, ↓reduceIte, ma_bd_some, ma_bd_none, ma_tl1, ma_tl0, ma_ap1, ma_ap0, b2i_0, b2i_1, b2i_01, ma_l10, ma_l01, eq_self, true_or, or_true, not_true_eq_false, not_false_eq_true, Bool.false_eq_true]
      · simp only [bk_121_0, bk_121_5, bk_121_8, bk_121_13, bk_121_18, bk_121_21, bk_121_26, bk_121_27, bk_121_37, bk_121_41, bk_121_42, bk_121_55, bk_121_59, bk_121_60, cm_isShelf, eq_true h, ma_if_pos hin, c, em, l8, ↓reduceIte, ma_bd_some, ma_bd_none, ma_tl1, ma_tl0, ma_ap1, ma_ap0, b2i_0, b2i_1, b2i_01, ma_l10, ma_l01, eq_self, true_or, or_true, not_true_eq_false, not_false_eq_true, Bool.false_eq_true]
    · by_cases hr : 0 ≤ r ∧ r < x.1 2 0 0 1
      · refine ⟨some (vI 1), _, _, ?_, ?_, ma_Iv_shelf (s := s.toNatClampNeg) (c := r) (z := 0) (f := x.2 s.toNatClampNeg) (h := 2) (o := m.1 50 9 0 s.toNatClampNeg) (z' := m.1 50 10 0 s.toNatClampNeg) (w := r) (e := m.2 10) (ma_Iv_s hi) hs (fun _ _ => rfl) (Or.inr (Or.inl ⟨rfl, rfl, rfl, ma_le.mp hr.1, ma_lt.mp hr.2⟩))⟩
        · simp only [bk_64_0, bk_64_4, bk_64_7, bk_64_12, bk_64_20, bk_64_23, bk_64_28, bk_64_29, bk_64_39, bk_64_44, bk_64_48, bk_64_49, cx_isShelf, cx_hold, cx_has, eq_true h, eq_true hr, ma_if_pos hin, c, ex, ↓reduceIte, ma_bd_some, ma_bd_none, ma_tl1, ma_tl0, ma_ap1, ma_ap0, b2i_0, b2i_1, b2i_01, ma_l10, ma_l01, eq_self, true_or, or_true, not_true_eq_false, not_false_eq_true, Bool.false_eq_true]
        · simp only [bk_121_0, bk_121_5, bk_121_8, bk_121_13, bk_121_18, bk_121_21, bk_121_26, bk_121_27, bk_121_37, bk_121_41, bk_121_42, bk_121_55, bk_121_59, bk_121_60, cm_isShelf, cm_isRider, e1, eq_true h, eq_true hr, ma_if_pos hin, c, em, l8, ↓reduceIte, ma_bd_some, ma_bd_none, ma_tl1, ma_tl0, ma_ap1, ma_ap0, b2i_0, b2i_1, b2i_01, ma_l10, ma_l01, eq_self, true_or, or_true, not_true_eq_false, not_false_eq_true, Bool.false_eq_true]
      · refine ⟨some (vI (-1)), sp_rx x (-1), sp_rm m (-1), ?_, ?_, ma_Iv_no sp_isb1 (ma_Iv_s hi)⟩
        · simp only [bk_64_0, bk_64_4, bk_64_7, bk_64_12, bk_64_20, bk_64_23, bk_64_28, bk_64_29, bk_64_39, bk_64_44, bk_64_48, bk_64_49, cx_isShelf, cx_has, eq_true h, eq_false hr, c, cx_refuse _ _ _ sp_isb1, ↓reduceIte, ma_bd_some, ma_bd_none, ma_tl1, ma_tl0, ma_ap1, ma_ap0, b2i_0, b2i_1, b2i_01, ma_l10, ma_l01, eq_self, true_or, or_true, not_true_eq_false, not_false_eq_true, Bool.false_eq_true]
        · simp only [bk_121_0, bk_121_5, bk_121_8, bk_121_13, bk_121_18, bk_121_21, bk_121_26, bk_121_27, bk_121_37, bk_121_41, bk_121_42, bk_121_55, bk_121_59, bk_121_60, cm_isShelf, cm_isRider, e1, eq_true h, eq_false hr, c, cm_no _ _ _ sp_isb1, ↓reduceIte, ma_bd_some, ma_bd_none, ma_tl1, ma_tl0, ma_ap1, ma_ap0, b2i_0, b2i_1, b2i_01, ma_l10, ma_l01, eq_self, true_or, or_true, not_true_eq_false, not_false_eq_true, Bool.false_eq_true]
  · refine ⟨some (vI (-1)), sp_rx x (-1), sp_rm m (-1), ?_, ?_, ma_Iv_no sp_isb1 (ma_Iv_s hi)⟩
    · simp only [bk_64_0, bk_64_4, bk_64_7, bk_64_12, bk_64_20, bk_64_23, bk_64_28, bk_64_29, bk_64_39, bk_64_44, bk_64_48, bk_64_49, cx_isShelf, eq_false h, cx_refuse _ _ _ sp_isb1, ↓reduceIte, ma_bd_some, ma_bd_none, ma_tl1, ma_tl0, ma_ap1, ma_ap0, b2i_0, b2i_1, b2i_01, ma_l10, ma_l01, eq_self, true_or, or_true, not_true_eq_false, not_false_eq_true, Bool.false_eq_true]
    · simp only [bk_121_0, bk_121_5, bk_121_8, bk_121_13, bk_121_18, bk_121_21, bk_121_26, bk_121_27, bk_121_37, bk_121_41, bk_121_42, bk_121_55, bk_121_59, bk_121_60, cm_isShelf, eq_false h, cm_no _ _ _ sp_isb1, ↓reduceIte, ma_bd_some, ma_bd_none, ma_tl1, ma_tl0, ma_ap1, ma_ap0, b2i_0, b2i_1, b2i_01, ma_l10, ma_l01, eq_self, true_or, or_true, not_true_eq_false, not_false_eq_true, Bool.false_eq_true]
