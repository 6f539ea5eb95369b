/-! PART 38: calls: says. -/
def sp_is (k K : Int32) : Prop := k = 0 ∨ k = K ∨ (k = 1 ∧ K = 3) ∨ (k = 2 ∧ K = 5) ∨ (k = 4 ∧ K = 6)
theorem sp_seven {k : Int32} (h1 : 0 ≤ k.toInt) (h2 : k.toInt ≤ 6) : k = 0 ∨ k = 1 ∨ k = 2 ∨ k = 3 ∨ k = 4 ∨ k = 5 ∨ k = 6 := by
  have e0 : (0 : Int32).toInt = 0 := rfl
  have e1 : (1 : Int32).toInt = 1 := rfl
  have e2 : (2 : Int32).toInt = 2 := rfl
  have e3 : (3 : Int32).toInt = 3 := rfl
  have e4 : (4 : Int32).toInt = 4 := rfl
  have e5 : (5 : Int32).toInt = 5 := rfl
  have e6 : (6 : Int32).toInt = 6 := rfl
  simp only [ma_eq]
  omega
def sp_isk (k K : Int32) : Bool := decide (k = 0 ∨ k = K ∨ (k = 1 ∧ K = 3) ∨ (k = 2 ∧ K = 5) ∨ (k = 4 ∧ K = 6))
theorem cx_isOf (d i r : Nat) (k : Int32) (σ : ma_S) (hk1 : 0 ≤ k.toInt) (hk2 : k.toInt ≤ 6) (h1 : 0 ≤ (σ.1 4 i r 1).toInt) (h2 : (σ.1 4 i r 1).toInt ≤ 6) : ma_cal (d + 2) 36 [vR 4 i r, vI k] σ = some (some (vI (b2i (sp_isk k (σ.1 4 i r 1) = true))), σ) := by
  rw [en_36]
  have hK := sp_seven h1 h2
  have hin : ma_in (σ.1 4 i r 1) 7 := ma_inI h1 (by omega)
  generalize hq : σ.1 4 i r 1 = K at hK hin
  rcases sp_seven hk1 hk2 with rfl | rfl | rfl | rfl | rfl | rfl | rfl <;> rcases hK with rfl | rfl | rfl | rfl | rfl | rfl | rfl
  all_goals
    simp (decide := true) only [bk_36_0, bk_36_4, bk_36_12, bk_36_19, bk_36_22, bk_36_34, bk_36_38, bk_36_39, cx_isKind, hq, ma_if_pos hin, ↓reduceIte, ma_bd_some, ma_tl1, ma_ap1, b2i, ma_sv]
def sp_say (k : Int32) (F R : Nat → Int32) : Int32 := if k = 0 then R 5 else if k = 1 ∨ k = 3 then sp_down (R 1) (F 7) else if k = 2 ∨ k = 5 then sp_pull (R 1) (F 6) (R 4) else sp_walk (F 6) (R 4)
theorem cx_saying (d i r : Nat) (k : Int32) (σ : ma_S) (hk1 : 0 ≤ k.toInt) (hk2 : k.toInt ≤ 6) : ma_cal (d + 2) 106 [vR 1 0 0, vR 4 i r, vI k] σ = some (some (vI (sp_say k (σ.1 2 0 0) (σ.1 4 i r))), σ) := by
  rw [en_106]
  rcases sp_seven hk1 hk2 with rfl | rfl | rfl | rfl | rfl | rfl | rfl
  all_goals
    simp (decide := true) only [bk_106_0, bk_106_40, bk_106_45, bk_106_56, bk_106_57, bk_106_68, bk_106_69, bk_106_80, cx_downAlone, cx_pullAlone, cx_walkUp, ↓reduceIte, ma_bd_some, ma_tl1, ma_ap1, sp_say]
theorem cm_says_end (d : Nat) (s k r K u : Int32) (σ : ma_S) (hk1 : 0 ≤ k.toInt) (hk2 : k.toInt ≤ 6) (hr : ma_in r 4) : ma_ex (d + 2) 123 135 [some (vR 20 0 0), some (vI s), some (vI k), some (vI r), some (vI K), some (vI u)] [] σ = some (some (vI (sp_say k (σ.1 20 0 0) (fun q => σ.1 50 q 0 r.toNatClampNeg))), σ) := by
  rcases sp_seven hk1 hk2 with rfl | rfl | rfl | rfl | rfl | rfl | rfl
  all_goals
    simp (decide := true) only [bk_123_135, bk_123_176, bk_123_183, bk_123_188, bk_123_189, bk_123_194, bk_123_195, bk_123_200, cm_down _ _ _ _ _ hr, cm_pull _ _ _ _ _ hr, cm_walk _ _ _ _ _ hr, ma_if_pos hr, ↓reduceIte, ma_bd_some, ma_tl1, ma_ap1, sp_say]
theorem cm_says_mid (d : Nat) (s k r K : Int32) (σ : ma_S) (hk1 : 0 ≤ k.toInt) (hk2 : k.toInt ≤ 6) (hK1 : 0 ≤ K.toInt) (hK2 : K.toInt ≤ 6) (b : Bool) (hb : b = (decide (k = 1 ∧ K = 3) || decide (k = 2 ∧ K = 5) || decide (k = 4 ∧ K = 6))) : (if k = 1 then ma_ex (d + 2) 123 77 [some (vR 20 0 0), some (vI s), some (vI k), some (vI r), some (vI K), none] [] σ else ma_ex (d + 2) 123 83 [some (vR 20 0 0), some (vI s), some (vI k), some (vI r), some (vI K), none] [] σ) = ma_ex (d + 2) 123 111 [some (vR 20 0 0), some (vI s), some (vI k), some (vI r), some (vI K), none] [vI (b2i (b = true))] σ := by
  subst hb
  rcases sp_seven hk1 hk2 with rfl | rfl | rfl | rfl | rfl | rfl | rfl <;> rcases sp_seven hK1 hK2 with rfl | rfl | rfl | rfl | rfl | rfl | rfl
  all_goals
    simp (decide := true) only [bk_123_77, bk_123_83, bk_123_88, bk_123_94, bk_123_99, bk_123_106, bk_123_110, ↓reduceIte, b2i]
theorem op_says (d t : Nat) (x m : ma_S) (s k : Int32) (hi : ma_Iv t x m) : ma_Op (d + 3) 66 123 [vI s, vI k] t x m := by
  unfold ma_Op
  rw [en_66, en_123]
  have e0 : (0 : Int32).toInt = 0 := rfl
  have e6 : (6 : Int32).toInt = 6 := rfl
  have e7 : (7 : Int32).toInt = 7 := rfl
  have e100 : (100 : Int32).toInt = 100 := rfl
  have em1 : (-1 : Int32).toInt = -1 := rfl
  have n01 : ((0 : Int32) = 1) = False := by decide
  have n21 : ((2 : Int32) = 1) = False := by decide
  have n20 : ((2 : Int32) = 0) = False := by decide
  have hok := ma_Iv_ok hi
  have f6 := ma_Iv_F hi 6 (by omega) (by omega)
  have f7 := ma_Iv_F hi 7 (by omega) (by omega)
  by_cases h : 0 ≤ s ∧ s < 8
  · obtain ⟨hin, hs, hz⟩ := sp_in8 h
    by_cases c1 : 0 ≤ k ∧ k < 7
    · have k1 := ma_le.mp c1.1
      have k2 := ma_lt.mp c1.2
      have hk1 : 0 ≤ k.toInt := by omega
      have hk2 : k.toInt ≤ 6 := by omega
      have b1 : (k < 0) = False := eq_false (fun z => by have := ma_lt.mp z; omega)
      have b2 : (k ≤ 6) = True := eq_true (by rw [ma_le]; omega)
      rcases hi.2.1 s.toNatClampNeg hs with ⟨a, b, c⟩ | ⟨a, b, c, c2, c3⟩ | ⟨a, b, c2, c3, c4⟩
      · have q : (x.1 16 s.toNatClampNeg 0 1 = -1) = True := eq_true b
        refine ⟨some (vI (-3)), sp_rx x (-3), sp_rm m (-3), ?_, ?_, ma_Iv_no sp_isb3 (ma_Iv_s hi)⟩
        · simp only [bk_66_0, bk_66_4, bk_66_7, bk_66_11, bk_66_14, bk_66_19, bk_66_20, bk_66_33, bk_66_39, bk_66_40, bk_66_58, bk_66_61, bk_66_74, bk_66_77, bk_66_83, bk_66_84, bk_66_98, cx_isShelf, cx_isKind, eq_true h, eq_true c1, ma_if_pos hin, q, cx_refuse _ _ _ sp_isb3, ↓reduceIte, ma_bd_some, ma_bd_none, ma_tl1, ma_tl0, ma_ap1, ma_ap0, b2i_0, b2i_1, b2i_01, ma_l10, ma_l01, eq_self, true_or, or_true, not_true_eq_false, not_false_eq_true, Bool.false_eq_true]
        · simp only [bk_123_0, bk_123_5, bk_123_8, bk_123_12, bk_123_24, bk_123_41, bk_123_50, bk_123_56, cm_isShelf, eq_true h, b1, b2, ma_if_pos hin, a, n01, cm_no _ _ _ sp_isb3, ↓reduceIte, ma_bd_some, ma_bd_none, ma_tl1, ma_tl0, ma_ap1, ma_ap0, b2i_0, b2i_1, b2i_01, ma_l10, ma_l01, eq_self, true_or, or_true, not_true_eq_false, not_false_eq_true, Bool.false_eq_true]
      · obtain ⟨r, hr⟩ : ∃ r, m.1 50 11 0 s.toNatClampNeg = r := ⟨_, rfl⟩
        rw [hr] at b c2 c3
        have h4 := hok.2.1
        have hr4 : ma_in r 4 := ma_inI c2 (by omega)
        have hcc := ma_clN (x := r)
        have hrk := hok.2.2.2.2.2.2.2.2 r.toNatClampNeg (by omega)
        have q : (r = -1) = False := eq_false (fun z => by rw [z] at c2; omega)
        have hhas : (0 ≤ r ∧ r < x.1 2 0 0 1) = True := eq_true ⟨ma_le.mpr (by omega), ma_lt.mpr c3⟩
        have hG := ma_Iv_G hi r.toNatClampNeg (by omega)
        have g1 := hG 1 (by omega) (by omega)
        have hisof := cx_isOf (d + 0) 0 r.toNatClampNeg k x hk1 hk2 hrk.1.1 hrk.1.2
        have hsay := cx_saying d 0 r.toNatClampNeg k x hk1 hk2
        have hmid := cm_says_mid d s k r (x.1 4 0 r.toNatClampNeg 1) m hk1 hk2 hrk.1.1 hrk.1.2 _ rfl
        have hsay2 : sp_say k (m.1 20 0 0) (fun q => m.1 50 q 0 r.toNatClampNeg) = sp_say k (x.1 2 0 0) (x.1 4 0 r.toNatClampNeg) := by
          unfold sp_say
          simp only [f6, f7, hG 1 (by omega) (by omega), hG 4 (by omega) (by omega), hG 5 (by omega) (by omega)]
        by_cases hq : sp_isk k (x.1 4 0 r.toNatClampNeg 1) = true
        · refine ⟨some (vI (sp_say k (x.1 2 0 0) (x.1 4 0 r.toNatClampNeg))), x, m, ?_, ?_, ma_Iv_s hi⟩
          · simp only [bk_66_0, bk_66_4, bk_66_7, bk_66_11, bk_66_14, bk_66_19, bk_66_20, bk_66_33, bk_66_39, bk_66_40, bk_66_58, bk_66_61, bk_66_74, bk_66_77, bk_66_83, bk_66_84, bk_66_98, cx_isShelf, cx_isKind, cx_has, eq_true h, eq_true c1, ma_if_pos hin, b, q, hhas, ma_if_pos hr4, hisof, hq, hsay, ↓reduceIte, ma_bd_some, ma_bd_none, ma_tl1, ma_tl0, ma_ap1, ma_ap0, b2i_0, b2i_1, b2i_01, ma_l10, ma_l01, eq_self, true_or, or_true, not_true_eq_false, not_false_eq_true, Bool.false_eq_true]
          · simp only [bk_123_0, bk_123_5, bk_123_8, bk_123_12, bk_123_24, bk_123_41, bk_123_57, cm_isShelf, eq_true h, b1, b2, ma_if_pos hin, a, n21, n20, hr, g1, ma_if_pos hr4, hmid, ↓reduceIte, ma_bd_some, ma_bd_none, ma_tl1, ma_tl0, ma_ap1, ma_ap0, b2i_0, b2i_1, b2i_01, ma_l10, ma_l01, eq_self, true_or, or_true, not_true_eq_false, not_false_eq_true, Bool.false_eq_true]
            rw [bk_123_111]
            have hend := fun u => cm_says_end d s k r (x.1 4 0 r.toNatClampNeg 1) u m hk1 hk2 hr4
            unfold sp_isk at hq
            rw [decide_eq_true_iff] at hq
            by_cases w0 : k = 0
            · rw [if_pos w0, hend, hsay2]
            · rw [if_neg w0, bk_123_117]
              by_cases w1 : k = x.1 4 0 r.toNatClampNeg 1
              · rw [if_pos w1, hend, hsay2]
              · have w2 := (hq.resolve_left w0).resolve_left w1
                have w3 : (decide (k = 1 ∧ x.1 4 0 r.toNatClampNeg 1 = 3) || decide (k = 2 ∧ x.1 4 0 r.toNatClampNeg 1 = 5) || decide (k = 4 ∧ x.1 4 0 r.toNatClampNeg 1 = 6)) = true := by
                  rw [Bool.or_eq_true, Bool.or_eq_true, decide_eq_true_iff, decide_eq_true_iff, decide_eq_true_iff]
                  rcases w2 with w | w | w
                  · exact Or.inl (Or.inl w)
                  · exact Or.inl (Or.inr w)
                  · exact Or.inr w
                rw [if_neg w1, bk_123_123, b2i_t w3, if_neg (by decide), hend, hsay2]
        · refine ⟨some (vI (-2)), sp_rx x (-2), sp_rm m (-2), ?_, ?_, ma_Iv_no sp_isb2 (ma_Iv_s hi)⟩
          · simp only [bk_66_0, bk_66_4, bk_66_7, bk_66_11, bk_66_14, bk_66_19, bk_66_20, bk_66_33, bk_66_39, bk_66_40, bk_66_58, bk_66_61, bk_66_74, bk_66_77, bk_66_83, bk_66_84, bk_66_98, cx_isShelf, cx_isKind, cx_has, eq_true h, eq_true c1, ma_if_pos hin, b, q, hhas, ma_if_pos hr4, hisof, hq, cx_refuse _ _ _ sp_isb2, ↓reduceIte, ma_bd_some, ma_bd_none, ma_tl1, ma_tl0, ma_ap1, ma_ap0, b2i_0, b2i_1, b2i_01, ma_l10, ma_l01, eq_self, true_or, or_true, not_true_eq_false, not_false_eq_true, Bool.false_eq_true]
          · simp only [bk_123_0, bk_123_5, bk_123_8, bk_123_12, bk_123_24, bk_123_41, bk_123_57, cm_isShelf, eq_true h, b1, b2, ma_if_pos hin, a, n21, n20, hr, g1, ma_if_pos hr4, hmid, ↓reduceIte, ma_bd_some, ma_bd_none, ma_tl1, ma_tl0, ma_ap1, ma_ap0, b2i_0, b2i_1, b2i_01, ma_l10, ma_l01, eq_self, true_or, or_true, not_true_eq_false, not_false_eq_true, Bool.false_eq_true]
            unfold sp_isk at hq
            rw [decide_eq_true_iff] at hq
            have w3 : ¬ (decide (k = 1 ∧ x.1 4 0 r.toNatClampNeg 1 = 3) || decide (k = 2 ∧ x.1 4 0 r.toNatClampNeg 1 = 5) || decide (k = 4 ∧ x.1 4 0 r.toNatClampNeg 1 = 6)) = true := by
              rw [Bool.or_eq_true, Bool.or_eq_true, decide_eq_true_iff, decide_eq_true_iff, decide_eq_true_iff]
              exact fun w => hq (Or.inr (Or.inr (by
                rcases w with (w | w) | w
                · exact Or.inl w
                · exact Or.inr (Or.inl w)
                · exact Or.inr (Or.inr w))))
            rw [bk_123_111, if_neg (fun z => hq (Or.inl z)), bk_123_117, if_neg (fun z => hq (Or.inr (Or.inl z))), bk_123_123, b2i_f w3, if_pos rfl]
            simp only [bk_123_128, bk_123_134, cm_no _ _ _ sp_isb2, ↓reduceIte, ma_bd_some, ma_bd_none, ma_tl1, ma_tl0, ma_ap1, ma_ap0, b2i_0, b2i_1, b2i_01, ma_l10, ma_l01, eq_self, true_or, or_true, not_true_eq_false, not_false_eq_true, Bool.false_eq_true]
      · have hadd := ma_add (a := 100) (b := m.1 50 9 0 s.toNatClampNeg) (by omega) (by omega)
        have h4 := hok.2.1
        have q : (100 + m.1 50 9 0 s.toNatClampNeg = -1) = False := eq_false (fun z => by rw [z] at hadd; omega)
        have hhas : (0 ≤ 100 + m.1 50 9 0 s.toNatClampNeg ∧ 100 + m.1 50 9 0 s.toNatClampNeg < x.1 2 0 0 1) = False := eq_false (fun z => by have := ma_lt.mp z.2; omega)
        refine ⟨some (vI (-2)), sp_rx x (-2), sp_rm m (-2), ?_, ?_, ma_Iv_no sp_isb2 (ma_Iv_s hi)⟩
        · simp only [bk_66_0, bk_66_4, bk_66_7, bk_66_11, bk_66_14, bk_66_19, bk_66_20, bk_66_33, bk_66_39, bk_66_40, bk_66_58, bk_66_61, bk_66_74, bk_66_77, bk_66_83, bk_66_84, bk_66_98, cx_isShelf, cx_isKind, cx_has, eq_true h, eq_true c1, ma_if_pos hin, b, q, hhas, cx_refuse _ _ _ sp_isb2, ↓reduceIte, ma_bd_some, ma_bd_none, ma_tl1, ma_tl0, ma_ap1, ma_ap0, b2i_0, b2i_1, b2i_01, ma_l10, ma_l01, eq_self, true_or, or_true, not_true_eq_false, not_false_eq_true, Bool.false_eq_true]
        · simp only [bk_123_0, bk_123_5, bk_123_8, bk_123_12, bk_123_24, bk_123_34, bk_123_40, cm_isShelf, eq_true h, b1, b2, ma_if_pos hin, a, cm_no _ _ _ sp_isb2, ↓reduceIte, ma_bd_some, ma_bd_none, ma_tl1, ma_tl0, ma_ap1, ma_ap0, b2i_0, b2i_1, b2i_01, ma_l10, ma_l01, eq_self, true_or, or_true, not_true_eq_false, not_false_eq_true, Bool.false_eq_true]
    · refine ⟨some (vI (-1)), sp_rx x (-1), sp_rm m (-1), ?_, ?_, ma_Iv_no sp_isb1 (ma_Iv_s hi)⟩
      · simp only [bk_66_0, bk_66_4, bk_66_7, bk_66_11, bk_66_14, bk_66_19, bk_66_20, bk_66_33, bk_66_39, bk_66_40, bk_66_58, bk_66_61, bk_66_74, bk_66_77, bk_66_83, bk_66_84, bk_66_98, cx_isShelf, cx_isKind, eq_true h, eq_false c1, cx_refuse _ _ _ sp_isb1, ↓reduceIte, ma_bd_some, ma_bd_none, ma_tl1, ma_tl0, ma_ap1, ma_ap0, b2i_0, b2i_1, b2i_01, ma_l10, ma_l01, eq_self, true_or, or_true, not_true_eq_false, not_false_eq_true, Bool.false_eq_true]
      · by_cases b1 : k < 0
        · simp only [bk_123_0, bk_123_5, bk_123_8, bk_123_18, bk_123_23, cm_isShelf, eq_true h, b1, cm_no _ _ _ sp_isb1, ↓reduceIte, ma_bd_some, ma_bd_none, ma_tl1, ma_tl0, ma_ap1, ma_ap0, b2i_0, b2i_1, b2i_01, ma_l10, ma_l01, eq_self, true_or, or_true, not_true_eq_false, not_false_eq_true, Bool.false_eq_true]
        · have b2 : (k ≤ 6) = False := eq_false (fun z => c1 ⟨by rw [ma_lt] at b1; rw [ma_le]; omega, by rw [ma_le] at z; rw [ma_lt]; omega⟩)
          simp only [bk_123_0, bk_123_5, bk_123_8, bk_123_12, bk_123_18, bk_123_23, cm_isShelf, eq_true h, b1, b2, cm_no _ _ _ sp_isb1, ↓reduceIte, ma_bd_some, ma_bd_none, ma_tl1, ma_tl0, ma_ap1, ma_ap0, b2i_0, b2i_1, b2i_01, ma_l10, ma_l01, eq_self, true_or, or_true, not_true_eq_false, not_false_eq_true, Bool.false_eq_true]
  · refine ⟨some (vI (-1)), sp_rx x (-1), sp_rm m (-1), ?_, ?_, ma_Iv_no sp_isb1 (ma_Iv_s hi)⟩
    · simp only [bk_66_0, bk_66_4, bk_66_7, bk_66_11, bk_66_14, bk_66_19, bk_66_20, bk_66_33, bk_66_39, bk_66_40, bk_66_58, bk_66_61, bk_66_74, bk_66_77, bk_66_83, bk_66_84, bk_66_98, cx_isShelf, eq_false h, cx_refuse _ _ _ sp_isb1, ↓reduceIte, ma_bd_some, ma_bd_none, ma_tl1, ma_tl0, ma_ap1, ma_ap0, b2i_0, b2i_1, b2i_01, ma_l10, ma_l01, eq_self, true_or, or_true, not_true_eq_false, not_false_eq_true, Bool.false_eq_true]
    · simp only [bk_123_0, bk_123_5, bk_123_18, bk_123_23, cm_isShelf, eq_false h, cm_no _ _ _ sp_isb1, ↓reduceIte, ma_bd_some, ma_bd_none, ma_tl1, ma_tl0, ma_ap1, ma_ap0, b2i_0, b2i_1, b2i_01, ma_l10, ma_l01, eq_self, true_or, or_true, not_true_eq_false, not_false_eq_true, Bool.false_eq_true]
