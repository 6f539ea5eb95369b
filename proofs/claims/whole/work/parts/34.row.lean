/-! PART 34: SHELVES: element, row, set. -/
theorem sp_cell {s i : Int32} (hs : 0 ≤ s.toInt ∧ s.toInt < 8) (hi : 0 ≤ i.toInt ∧ i.toInt < 160) : ma_in (160 * s + i) 1280 ∧ (160 * s + i).toNatClampNeg = 160 * s.toNatClampNeg + i.toNatClampNeg := by
  have e160 : (160 : Int32).toInt = 160 := rfl
  have m1 : (160 * s).toInt = 160 * s.toInt := by rw [ma_mul (by rw [e160]; omega) (by rw [e160]; omega), e160]
  have a1 : (160 * s + i).toInt = 160 * s.toInt + i.toInt := by rw [ma_add (by omega) (by omega), m1]
  have c0 := ma_clN (x := 160 * s + i)
  have c1 := ma_clN (x := s)
  have c2 := ma_clN (x := i)
  exact ⟨ma_inI (by omega) (by omega), by omega⟩
theorem ma_lj8 {s : Nat} (h : s < 8) : ma_lj s = 160 := by
  rcases s with _|_|_|_|_|_|_|_|s <;> first | rfl | omega
theorem op_element (d t : Nat) (x m : ma_S) (s i : Int32) (hi : ma_Iv t x m) : ma_Op (d + 2) 63 120 [vI s, vI i] t x m := by
  unfold ma_Op
  rw [en_63, en_120]
  have e0 : (0 : Int32).toInt = 0 := rfl
  have n01 : ((0 : Int32) = 1) = False := by decide
  have n21 : ((2 : Int32) = 1) = False := by decide
  by_cases h : 0 ≤ s ∧ s < 8
  · obtain ⟨hin, hs, hz⟩ := sp_in8 h
    have hl := ma_lj8 hs
    have hno : ∀ z : Int32, z = 0 → ¬ (0 ≤ i ∧ i < z) := fun z e w => by
      rw [e] at w
      have h1 := ma_le.mp w.1
      have h2 := ma_lt.mp w.2
      omega
    rcases hi.2.1 s.toNatClampNeg hs with ⟨a, b, c⟩ | ⟨a, b, c, _⟩ | ⟨a, b, c, c', c2, c3, c4, c5⟩
    · refine ⟨some (vL 0), x, m, ?_, ?_, ma_Iv_s hi⟩
      · simp only [bk_63_0, bk_63_4, bk_63_7, bk_63_17, bk_63_20, bk_63_34, bk_63_35, cx_isShelf, cx_hasElement, eq_true h, eq_false (hno _ c), ma_if_pos hin, ↓reduceIte, ma_bd_some, ma_bd_none, ma_tl1, ma_tl0, ma_ap1, ma_ap0, b2i_0, b2i_1, b2i_01, ma_l10, ma_l01, eq_self, true_or, or_true, not_true_eq_false, not_false_eq_true, Bool.false_eq_true]
      · simp only [bk_120_0, bk_120_5, bk_120_8, bk_120_18, bk_120_22, bk_120_32, bk_120_47, bk_120_48, cm_isShelf, eq_true h, ma_if_pos hin, a, n01, ↓reduceIte, ma_bd_some, ma_bd_none, ma_tl1, ma_tl0, ma_ap1, ma_ap0, b2i_0, b2i_1, b2i_01, ma_l10, ma_l01, eq_self, true_or, or_true, not_true_eq_false, not_false_eq_true, Bool.false_eq_true]
    · refine ⟨some (vL 0), x, m, ?_, ?_, ma_Iv_s hi⟩
      · simp only [bk_63_0, bk_63_4, bk_63_7, bk_63_17, bk_63_20, bk_63_34, bk_63_35, cx_isShelf, cx_hasElement, eq_true h, eq_false (hno _ c), ma_if_pos hin, ↓reduceIte, ma_bd_some, ma_bd_none, ma_tl1, ma_tl0, ma_ap1, ma_ap0, b2i_0, b2i_1, b2i_01, ma_l10, ma_l01, eq_self, true_or, or_true, not_true_eq_false, not_false_eq_true, Bool.false_eq_true]
      · simp only [bk_120_0, bk_120_5, bk_120_8, bk_120_18, bk_120_22, bk_120_32, bk_120_47, bk_120_48, cm_isShelf, eq_true h, ma_if_pos hin, a, n21, ↓reduceIte, ma_bd_some, ma_bd_none, ma_tl1, ma_tl0, ma_ap1, ma_ap0, b2i_0, b2i_1, b2i_01, ma_l10, ma_l01, eq_self, true_or, or_true, not_true_eq_false, not_false_eq_true, Bool.false_eq_true]
    · by_cases hr : 0 ≤ i ∧ i < x.1 16 s.toNatClampNeg 0 2
      · have h1 := ma_le.mp hr.1
        have h2 := ma_lt.mp hr.2
        rw [c2] at h2
        have hi160 : ma_in i 160 := ma_inI (by omega) (by omega)
        have hcc := ma_clN (x := i)
        obtain ⟨q1, q2⟩ := sp_cell (s := s) (i := i) (by omega) (by omega)
        have b1 : (i < 0) = False := eq_false (fun z => by have := ma_lt.mp z; omega)
        have b2 : (m.1 50 10 0 s.toNatClampNeg ≤ i) = False := eq_false (fun z => by have := ma_le.mp z; omega)
        refine ⟨some (vL (x.2 s.toNatClampNeg i.toNatClampNeg)), x, m, ?_, ?_, ma_Iv_s hi⟩
        · simp only [bk_63_0, bk_63_4, bk_63_7, bk_63_17, bk_63_20, bk_63_34, bk_63_35, cx_isShelf, cx_hasElement, eq_true h, eq_true hr, ma_if_pos hin, hl, ma_if_pos hi160, ↓reduceIte, ma_bd_some, ma_bd_none, ma_tl1, ma_tl0, ma_ap1, ma_ap0, b2i_0, b2i_1, b2i_01, ma_l10, ma_l01, eq_self, true_or, or_true, not_true_eq_false, not_false_eq_true, Bool.false_eq_true]
        · simp only [bk_120_0, bk_120_5, bk_120_8, bk_120_18, bk_120_22, bk_120_32, bk_120_47, bk_120_48, cm_isShelf, eq_true h, ma_if_pos hin, a, b1, b2, ma_if_pos q1, q2, ↓reduceIte, ma_bd_some, ma_bd_none, ma_tl1, ma_tl0, ma_ap1, ma_ap0, b2i_0, b2i_1, b2i_01, ma_l10, ma_l01, eq_self, true_or, or_true, not_true_eq_false, not_false_eq_true, Bool.false_eq_true]
          rw [c5 i.toNatClampNeg (by omega)]
      · refine ⟨some (vL 0), x, m, ?_, ?_, ma_Iv_s hi⟩
        · simp only [bk_63_0, bk_63_4, bk_63_7, bk_63_17, bk_63_20, bk_63_34, bk_63_35, cx_isShelf, cx_hasElement, eq_true h, eq_false hr, ma_if_pos hin, ↓reduceIte, ma_bd_some, ma_bd_none, ma_tl1, ma_tl0, ma_ap1, ma_ap0, b2i_0, b2i_1, b2i_01, ma_l10, ma_l01, eq_self, true_or, or_true, not_true_eq_false, not_false_eq_true, Bool.false_eq_true]
        · by_cases b1 : i < 0
          · simp only [bk_120_0, bk_120_5, bk_120_8, bk_120_18, bk_120_22, bk_120_32, bk_120_47, bk_120_48, cm_isShelf, eq_true h, ma_if_pos hin, a, b1, ↓reduceIte, ma_bd_some, ma_bd_none, ma_tl1, ma_tl0, ma_ap1, ma_ap0, b2i_0, b2i_1, b2i_01, ma_l10, ma_l01, eq_self, true_or, or_true, not_true_eq_false, not_false_eq_true, Bool.false_eq_true]
          · have b2 : (m.1 50 10 0 s.toNatClampNeg ≤ i) = True := eq_true (by
              rw [c2] at hr
              rw [ma_lt] at b1
              rw [ma_le]
              rw [ma_le, ma_lt] at hr
              omega)
            simp only [bk_120_0, bk_120_5, bk_120_8, bk_120_18, bk_120_22, bk_120_32, bk_120_47, bk_120_48, cm_isShelf, eq_true h, ma_if_pos hin, a, b1, b2, ↓reduceIte, ma_bd_some, ma_bd_none, ma_tl1, ma_tl0, ma_ap1, ma_ap0, b2i_0, b2i_1, b2i_01, ma_l10, ma_l01, eq_self, true_or, or_true, not_true_eq_false, not_false_eq_true, Bool.false_eq_true]
  · refine ⟨some (vL 0), x, m, ?_, ?_, ma_Iv_s hi⟩
    · simp only [bk_63_0, bk_63_4, bk_63_7, bk_63_17, bk_63_20, bk_63_34, bk_63_35, cx_isShelf, eq_false h, ↓reduceIte, ma_bd_some, ma_bd_none, ma_tl1, ma_tl0, ma_ap1, ma_ap0, b2i_0, b2i_1, b2i_01, ma_l10, ma_l01, eq_self, true_or, or_true, not_true_eq_false, not_false_eq_true, Bool.false_eq_true]
    · simp only [bk_120_0, bk_120_5, bk_120_8, bk_120_18, bk_120_22, bk_120_32, bk_120_47, bk_120_48, cm_isShelf, eq_false h, ↓reduceIte, ma_bd_some, ma_bd_none, ma_tl1, ma_tl0, ma_ap1, ma_ap0, b2i_0, b2i_1, b2i_01, ma_l10, ma_l01, eq_self, true_or, or_true, not_true_eq_false, not_false_eq_true, Bool.false_eq_true]
/-- a stretch of longs at 0 -/
def ma_zr (σ : ma_S) (a lo hi : Nat) : ma_S := (σ.1, fun i j => if i = a ∧ lo ≤ j ∧ j < hi then 0 else σ.2 i j)
theorem ma_zr_0 (σ : ma_S) (a lo : Nat) : ma_zr σ a lo lo = σ := by
  refine ma_S_ext (fun _ _ _ _ => rfl) (fun i j => ?_)
  show (if i = a ∧ lo ≤ j ∧ j < lo then 0 else σ.2 i j) = σ.2 i j
  rw [if_neg (by omega)]
theorem ma_zr_s (σ : ma_S) (a lo hi : Nat) (h : lo < hi) : ma_zr (ma_uJ σ a lo 0) a (lo + 1) hi = ma_zr σ a lo hi := by
  refine ma_S_ext (fun _ _ _ _ => rfl) (fun i j => ?_)
  show (if i = a ∧ lo + 1 ≤ j ∧ j < hi then 0 else if i = a ∧ j = lo then 0 else σ.2 i j) = if i = a ∧ lo ≤ j ∧ j < hi then 0 else σ.2 i j
  by_cases e : i = a
  · subst e
    simp only [true_and]
    by_cases e2 : j = lo
    · rw [if_neg (by omega), if_pos e2, if_pos (by omega)]
    · rw [if_neg e2]
      by_cases e3 : lo + 1 ≤ j ∧ j < hi
      · rw [if_pos e3, if_pos (by omega)]
      · rw [if_neg e3, if_neg (by omega)]
  · simp [e]
theorem cx_holdRow_loop (d s : Nat) (a b : Int32) (hs : s < 8) : ∀ (c k : Nat) (σ : ma_S), k + c = 160 → ma_ex d 54 15 [some (vR 16 s 0), some (vI a), some (vI b), some (vI (nI k))] [] σ = some (none, ma_zr σ s k 160) := by
  intro c
  induction c with
  | zero =>
    intro k σ h
    have e : k = 160 := by omega
    subst e
    rw [bk_54_15, if_pos (by decide), bk_54_35, ma_zr_0]
  | succ c ih =>
    intro k σ h
    have e160 : (160 : Int32).toInt = 160 := rfl
    have hk := nI_toInt (n := k) (by omega)
    have hin : ma_in (nI k) (ma_lj s) := by rw [ma_lj8 hs]; exact ma_inI (by omega) (by omega)
    rw [bk_54_15, if_neg (by rw [ma_le]; omega), bk_54_22, ma_if_pos hin, nI_clamp (by omega), ← nI_succ, ih (k + 1) _ (by omega), ma_zr_s _ _ _ _ (by omega)]
theorem cm_row_loop (d s : Nat) (x1 x2 x3 : Int32) (h1 : x1.toInt = s) (hs : s < 8) : ∀ (c k : Nat) (σ : ma_S), k + c = 160 → ma_ex d 117 79 [some (vR 20 0 0), some (vI x1), some (vI x2), some (vI x3), some (vI (nI k))] [] σ = some (some (vI 1), ma_zr σ 10 (160 * s + k) (160 * s + 160)) := by
  intro c
  induction c with
  | zero =>
    intro k σ h
    have e : k = 160 := by omega
    subst e
    rw [bk_117_79, if_pos (by decide), bk_117_107, ma_zr_0]
  | succ c ih =>
    intro k σ h
    have e160 : (160 : Int32).toInt = 160 := rfl
    have hk := nI_toInt (n := k) (by omega)
    obtain ⟨q1, q2⟩ := sp_cell (s := x1) (i := nI k) (by omega) (by omega)
    have c1 := ma_clN (x := x1)
    have c2 := nI_clamp (n := k) (by omega)
    have e : 160 * x1.toNatClampNeg + (nI k).toNatClampNeg = 160 * s + k := by omega
    rw [e] at q2
    rw [bk_117_79, if_neg (by rw [ma_le]; omega), bk_117_87, ma_if_pos q1, q2, ← nI_succ, ih (k + 1) _ (by omega)]
    have := ma_zr_s σ 10 (160 * s + k) (160 * s + 160) (by omega)
    rw [← this]
    rfl
theorem op_row (d t : Nat) (x m : ma_S) (s o n : Int32) (hi : ma_Iv t x m) : ma_Op (d + 2) 60 117 [vI s, vI o, vI n] t x m := by
  unfold ma_Op
  rw [en_60, en_117]
  have e0 : (0 : Int32).toInt = 0 := rfl
  have e3 : (3 : Int32).toInt = 3 := rfl
  have e4 : (4 : Int32).toInt = 4 := rfl
  have e160 : (160 : Int32).toInt = 160 := rfl
  have o34 : (o < 4) = (o ≤ 3) := by apply propext; rw [ma_lt, ma_le]; omega
  by_cases h : 0 ≤ s ∧ s < 8
  · obtain ⟨hin, hs, hz⟩ := sp_in8 h
    rcases Classical.propComplete (0 ≤ n) with c1 | c1
    · rcases Classical.propComplete (o < 0) with c2 | c2
      · refine ⟨some (vI (-6)), sp_rx x (-6), sp_rm m (-6), ?_, ?_, ma_Iv_no sp_isb6 (ma_Iv_s hi)⟩
        · simp only [bk_60_0, bk_60_4, bk_60_7, bk_60_12, bk_60_13, bk_60_17, bk_60_23, bk_60_24, bk_60_28, bk_60_33, bk_60_39, bk_60_40, bk_60_47, bk_60_53, bk_60_54, bk_60_65, cx_isShelf, eq_true h, c1, c2, cx_refuse _ _ _ sp_isb6, ↓reduceIte, ma_bd_some, ma_bd_none, ma_tl1, ma_tl0, ma_ap1, ma_ap0, b2i_0, b2i_1, b2i_01, ma_l10, ma_l01, eq_self, true_or, or_true, not_true_eq_false, not_false_eq_true, Bool.false_eq_true]
        · simp only [bk_117_0, bk_117_5, bk_117_14, bk_117_25, bk_117_34, bk_117_40, cm_isShelf, eq_true h, c1, c2, cm_no _ _ _ sp_isb6, ↓reduceIte, ma_bd_some, ma_bd_none, ma_tl1, ma_tl0, ma_ap1, ma_ap0, b2i_0, b2i_1, b2i_01, ma_l10, ma_l01, eq_self, true_or, or_true, not_true_eq_false, not_false_eq_true, Bool.false_eq_true]
      · rcases Classical.propComplete (o ≤ 3) with c3 | c3
        · rcases Classical.propComplete (n ≤ 160) with c4 | c4
          · have l1 := ma_le.mp (of_eq_true c1)
            have l4 := ma_le.mp (of_eq_true c4)
            have l3 := ma_le.mp (of_eq_true c3)
            have l2 : ¬ o.toInt < (0 : Int32).toInt := fun z => (c2.mp (ma_lt.mpr z)).elim
            have hlx := cx_holdRow_loop d s.toNatClampNeg o n hs 160 0 (ma_u (ma_u x 16 s.toNatClampNeg 0 1 (100 + o)) 16 s.toNatClampNeg 0 2 n) (by omega)
            have hlm := cm_row_loop (d + 1) s.toNatClampNeg s o n (by omega) hs 160 0 (ma_u (ma_u (ma_u m 50 8 0 s.toNatClampNeg 1) 50 9 0 s.toNatClampNeg o) 50 10 0 s.toNatClampNeg n) (by omega)
            rw [nI_0] at hlx hlm
            have ex : ma_zr (ma_u (ma_u x 16 s.toNatClampNeg 0 1 (100 + o)) 16 s.toNatClampNeg 0 2 n) s.toNatClampNeg 0 160 = ma_xs x s.toNatClampNeg (100 + o) n (fun k => if 0 ≤ k ∧ k < 160 then 0 else x.2 s.toNatClampNeg k) := by
              refine ma_S_ext (fun g i j k => ?_) (fun i k => ?_)
              · simp only [ma_u, ma_xs, ma_zr]
                by_cases e : g = 16 ∧ i = s.toNatClampNeg ∧ j = 0
                · obtain ⟨rfl, rfl, rfl⟩ := e
                  by_cases k1 : k = 1
                  · subst k1; simp
                  by_cases k2 : k = 2
                  · subst k2; simp
                  · simp [k1, k2]
                · rw [if_neg (fun z => e ⟨z.1, z.2.1, z.2.2.1⟩), if_neg (fun z => e ⟨z.1, z.2.1, z.2.2.1⟩), if_neg e]
              · simp only [ma_u, ma_xs, ma_zr]
                by_cases e : i = s.toNatClampNeg
                · subst e; simp
                · simp [e]
            have em : ma_zr (ma_u (ma_u (ma_u m 50 8 0 s.toNatClampNeg 1) 50 9 0 s.toNatClampNeg o) 50 10 0 s.toNatClampNeg n) 10 (160 * s.toNatClampNeg + 0) (160 * s.toNatClampNeg + 160) = ma_ms m s.toNatClampNeg 1 o n (m.1 50 11 0 s.toNatClampNeg) (fun k => if 160 * s.toNatClampNeg + 0 ≤ k ∧ k < 160 * s.toNatClampNeg + 160 then 0 else m.2 10 k) := by
              refine ma_S_ext (fun g i j k => ?_) (fun i k => ?_)
              · simp only [ma_u, ma_ms, ma_zr]
                by_cases e : g = 50 ∧ j = 0 ∧ k = s.toNatClampNeg
                · obtain ⟨rfl, rfl, rfl⟩ := e
                  by_cases k1 : i = 8
                  · subst k1; simp
                  by_cases k2 : i = 11
                  · subst k2; simp
                  by_cases k3 : i = 9
                  · subst k3; simp
                  by_cases k4 : i = 10
                  · subst k4; simp
                  · simp [k1, k2, k3, k4]
                · rw [if_neg (fun z => e ⟨z.1, z.2.2.1, z.2.2.2⟩), if_neg (fun z => e ⟨z.1, z.2.2.1, z.2.2.2⟩), if_neg (fun z => e ⟨z.1, z.2.2.1, z.2.2.2⟩), if_neg e]
              · simp only [ma_u, ma_ms, ma_zr]
                by_cases e : i = 10
                · subst e; simp
                · simp [e]
            rw [ex] at hlx
            rw [em] at hlm
            refine ⟨some (vI 1), _, _, ?_, ?_, ma_Iv_shelf (s := s.toNatClampNeg) (c := 100 + o) (z := n) (f := fun k => if 0 ≤ k ∧ k < 160 then 0 else x.2 s.toNatClampNeg k) (h := 1) (o := o) (z' := n) (w := m.1 50 11 0 s.toNatClampNeg) (e := fun k => if 160 * s.toNatClampNeg + 0 ≤ k ∧ k < 160 * s.toNatClampNeg + 160 then 0 else m.2 10 k) (ma_Iv_s hi) hs (fun k hk => if_neg (by omega)) (Or.inr (Or.inr ⟨rfl, rfl, by omega, by omega, rfl, by omega, by omega, fun k hk => by rw [if_pos (by omega), if_pos (by omega)]⟩))⟩
            · have hcal : ma_cal (d + 1) 54 [vR 16 s.toNatClampNeg 0, vI o, vI n] x = some (none, ma_xs x s.toNatClampNeg (100 + o) n (fun k => if 0 ≤ k ∧ k < 160 then 0 else x.2 s.toNatClampNeg k)) := by
                rw [en_54, bk_54_0]; exact hlx
              simp only [bk_60_0, bk_60_4, bk_60_7, bk_60_12, bk_60_13, bk_60_17, bk_60_23, bk_60_24, bk_60_28, bk_60_33, bk_60_39, bk_60_40, bk_60_47, bk_60_53, bk_60_54, bk_60_65, cx_isShelf, eq_true h, o34, c1, c2, c3, c4, ma_if_pos hin, hcal, ↓reduceIte, ma_bd_some, ma_bd_none, ma_tl1, ma_tl0, ma_ap1, ma_ap0, b2i_0, b2i_1, b2i_01, ma_l10, ma_l01, eq_self, true_or, or_true, not_true_eq_false, not_false_eq_true, Bool.false_eq_true]
            · simp only [bk_117_0, bk_117_5, bk_117_14, bk_117_25, bk_117_29, bk_117_41, bk_117_55, cm_isShelf, eq_true h, c1, c2, c3, c4, ma_if_pos hin, hlm, ↓reduceIte, ma_bd_some, ma_bd_none, ma_tl1, ma_tl0, ma_ap1, ma_ap0, b2i_0, b2i_1, b2i_01, ma_l10, ma_l01, eq_self, true_or, or_true, not_true_eq_false, not_false_eq_true, Bool.false_eq_true]
          · refine ⟨some (vI (-7)), sp_rx x (-7), sp_rm m (-7), ?_, ?_, ma_Iv_no sp_isb7 (ma_Iv_s hi)⟩
            · simp only [bk_60_0, bk_60_4, bk_60_7, bk_60_12, bk_60_13, bk_60_17, bk_60_23, bk_60_24, bk_60_28, bk_60_33, bk_60_39, bk_60_40, bk_60_47, bk_60_53, bk_60_54, bk_60_65, cx_isShelf, eq_true h, o34, c1, c2, c3, c4, cx_refuse _ _ _ sp_isb7, ↓reduceIte, ma_bd_some, ma_bd_none, ma_tl1, ma_tl0, ma_ap1, ma_ap0, b2i_0, b2i_1, b2i_01, ma_l10, ma_l01, eq_self, true_or, or_true, not_true_eq_false, not_false_eq_true, Bool.false_eq_true]
            · simp only [bk_117_0, bk_117_5, bk_117_14, bk_117_25, bk_117_29, bk_117_41, bk_117_48, bk_117_54, cm_isShelf, eq_true h, c1, c2, c3, c4, cm_no _ _ _ sp_isb7, ↓reduceIte, ma_bd_some, ma_bd_none, ma_tl1, ma_tl0, ma_ap1, ma_ap0, b2i_0, b2i_1, b2i_01, ma_l10, ma_l01, eq_self, true_or, or_true, not_true_eq_false, not_false_eq_true, Bool.false_eq_true]
        · refine ⟨some (vI (-6)), sp_rx x (-6), sp_rm m (-6), ?_, ?_, ma_Iv_no sp_isb6 (ma_Iv_s hi)⟩
          · simp only [bk_60_0, bk_60_4, bk_60_7, bk_60_12, bk_60_13, bk_60_17, bk_60_23, bk_60_24, bk_60_28, bk_60_33, bk_60_39, bk_60_40, bk_60_47, bk_60_53, bk_60_54, bk_60_65, cx_isShelf, eq_true h, o34, c1, c2, c3, cx_refuse _ _ _ sp_isb6, ↓reduceIte, ma_bd_some, ma_bd_none, ma_tl1, ma_tl0, ma_ap1, ma_ap0, b2i_0, b2i_1, b2i_01, ma_l10, ma_l01, eq_self, true_or, or_true, not_true_eq_false, not_false_eq_true, Bool.false_eq_true]
          · simp only [bk_117_0, bk_117_5, bk_117_14, bk_117_25, bk_117_29, bk_117_34, bk_117_40, cm_isShelf, eq_true h, c1, c2, c3, cm_no _ _ _ sp_isb6, ↓reduceIte, ma_bd_some, ma_bd_none, ma_tl1, ma_tl0, ma_ap1, ma_ap0, b2i_0, b2i_1, b2i_01, ma_l10, ma_l01, eq_self, true_or, or_true, not_true_eq_false, not_false_eq_true, Bool.false_eq_true]
    · refine ⟨some (vI (-4)), sp_rx x (-4), sp_rm m (-4), ?_, ?_, ma_Iv_no sp_isb4 (ma_Iv_s hi)⟩
      · simp only [bk_60_0, bk_60_4, bk_60_7, bk_60_12, bk_60_13, bk_60_17, bk_60_23, bk_60_24, bk_60_28, bk_60_33, bk_60_39, bk_60_40, bk_60_47, bk_60_53, bk_60_54, bk_60_65, cx_isShelf, eq_true h, c1, cx_refuse _ _ _ sp_isb4, ↓reduceIte, ma_bd_some, ma_bd_none, ma_tl1, ma_tl0, ma_ap1, ma_ap0, b2i_0, b2i_1, b2i_01, ma_l10, ma_l01, eq_self, true_or, or_true, not_true_eq_false, not_false_eq_true, Bool.false_eq_true]
      · simp only [bk_117_0, bk_117_5, bk_117_14, bk_117_18, bk_117_24, cm_isShelf, eq_true h, c1, cm_no _ _ _ sp_isb4, ↓reduceIte, ma_bd_some, ma_bd_none, ma_tl1, ma_tl0, ma_ap1, ma_ap0, b2i_0, b2i_1, b2i_01, ma_l10, ma_l01, eq_self, true_or, or_true, not_true_eq_false, not_false_eq_true, Bool.false_eq_true]
  · refine ⟨some (vI (-1)), sp_rx x (-1), sp_rm m (-1), ?_, ?_, ma_Iv_no sp_isb1 (ma_Iv_s hi)⟩
    · simp only [bk_60_0, bk_60_4, bk_60_7, bk_60_12, bk_60_13, bk_60_17, bk_60_23, bk_60_24, bk_60_28, bk_60_33, bk_60_39, bk_60_40, bk_60_47, bk_60_53, bk_60_54, bk_60_65, cx_isShelf, eq_false h, cx_refuse _ _ _ sp_isb1, ↓reduceIte, ma_bd_some, ma_bd_none, ma_tl1, ma_tl0, ma_ap1, ma_ap0, b2i_0, b2i_1, b2i_01, ma_l10, ma_l01, eq_self, true_or, or_true, not_true_eq_false, not_false_eq_true, Bool.false_eq_true]
    · simp only [bk_117_0, bk_117_5, bk_117_8, bk_117_13, cm_isShelf, eq_false h, cm_no _ _ _ sp_isb1, ↓reduceIte, ma_bd_some, ma_bd_none, ma_tl1, ma_tl0, ma_ap1, ma_ap0, b2i_0, b2i_1, b2i_01, ma_l10, ma_l01, eq_self, true_or, or_true, not_true_eq_false, not_false_eq_true, Bool.false_eq_true]
