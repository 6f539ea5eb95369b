/-! PART 49b: call: road. -/
theorem ma_nlt (a b : Int32) : (a < b) = ¬ (b ≤ a) := by apply propext; rw [ma_lt, ma_le]; omega
theorem sp_in4 {t : Nat} {x m : ma_S} {r : Int32} (hi : ma_Iv t x m) (h : 0 ≤ r ∧ r < x.1 2 0 0 1) : ma_in r 4 ∧ (r.toNatClampNeg : Int) < (x.1 2 0 0 1).toInt := by
  have h1 := ma_le.mp h.1
  have h2 := ma_lt.mp h.2
  have e0 : (0 : Int32).toInt = 0 := rfl
  have h4 := (ma_Iv_ok hi).2.1
  have hc := ma_clN (x := r)
  exact ⟨ma_inI (by omega) (by omega), by omega⟩
theorem op_road (d t : Nat) (x m : ma_S) (r q n w o : Int32) (hi : ma_Iv t x m) : ma_Op (d + 2) 87 185 [vI r, vI q, vI n, vI w, vI o] t x m := by
  have e1 := ma_Iv_F hi 1 (by omega) (by omega)
  unfold ma_Op
  rw [en_87, en_185]
  rcases Classical.propComplete (0 ≤ r ∧ r < x.1 2 0 0 1) with c1 | c1
  case inr =>
    refine ⟨some (vI (-1)), sp_rx x (-1), sp_rm m (-1), ?_, ?_, ma_Iv_no sp_isb1 (ma_Iv_s hi)⟩
    · simp only [bk_87_0, bk_87_8, bk_87_11, bk_87_19, bk_87_22, bk_87_27, bk_87_28, bk_87_35, bk_87_38, bk_87_44, bk_87_45, bk_87_53, bk_87_56, bk_87_64, bk_87_67, bk_87_72, bk_87_78, bk_87_79, bk_87_94, bk_87_106, bk_87_118, bk_87_126, bk_87_133, bk_87_140, bk_87_148, bk_87_154, bk_87_159, bk_87_164, bk_87_166, cx_has, c1, cx_refuse _ _ _ sp_isb1, ↓reduceIte, ma_bd_some, ma_bd_none, ma_tl1, ma_tl0, ma_ap1, ma_ap0, b2i_0, b2i_1, b2i_01, ma_l10, ma_l01, eq_self, true_or, or_true, not_true_eq_false, not_false_eq_true, Bool.false_eq_true]
    · simp only [bk_185_0, bk_185_5, bk_185_8, bk_185_13, bk_185_16, bk_185_21, bk_185_22, bk_185_27, bk_185_33, bk_185_39, bk_185_40, bk_185_45, bk_185_50, bk_185_57, bk_185_63, bk_185_70, bk_185_76, bk_185_77, bk_185_89, bk_185_100, bk_185_111, bk_185_114, bk_185_118, bk_185_124, bk_185_129, bk_185_134, bk_185_145, cm_isRider, e1, c1, cm_no _ _ _ sp_isb1, ↓reduceIte, ma_bd_some, ma_bd_none, ma_tl1, ma_tl0, ma_ap1, ma_ap0, b2i_0, b2i_1, b2i_01, ma_l10, ma_l01, eq_self, true_or, or_true, not_true_eq_false, not_false_eq_true, Bool.false_eq_true]
  rcases Classical.propComplete (0 ≤ q ∧ q < x.1 2 0 0 1) with c2 | c2
  case inr =>
    refine ⟨some (vI (-1)), sp_rx x (-1), sp_rm m (-1), ?_, ?_, ma_Iv_no sp_isb1 (ma_Iv_s hi)⟩
    · simp only [bk_87_0, bk_87_8, bk_87_11, bk_87_19, bk_87_22, bk_87_27, bk_87_28, bk_87_35, bk_87_38, bk_87_44, bk_87_45, bk_87_53, bk_87_56, bk_87_64, bk_87_67, bk_87_72, bk_87_78, bk_87_79, bk_87_94, bk_87_106, bk_87_118, bk_87_126, bk_87_133, bk_87_140, bk_87_148, bk_87_154, bk_87_159, bk_87_164, bk_87_166, cx_has, c1, c2, cx_refuse _ _ _ sp_isb1, ↓reduceIte, ma_bd_some, ma_bd_none, ma_tl1, ma_tl0, ma_ap1, ma_ap0, b2i_0, b2i_1, b2i_01, ma_l10, ma_l01, eq_self, true_or, or_true, not_true_eq_false, not_false_eq_true, Bool.false_eq_true]
    · simp only [bk_185_0, bk_185_5, bk_185_8, bk_185_13, bk_185_16, bk_185_21, bk_185_22, bk_185_27, bk_185_33, bk_185_39, bk_185_40, bk_185_45, bk_185_50, bk_185_57, bk_185_63, bk_185_70, bk_185_76, bk_185_77, bk_185_89, bk_185_100, bk_185_111, bk_185_114, bk_185_118, bk_185_124, bk_185_129, bk_185_134, bk_185_145, cm_isRider, e1, c1, c2, cm_no _ _ _ sp_isb1, ↓reduceIte, ma_bd_some, ma_bd_none, ma_tl1, ma_tl0, ma_ap1, ma_ap0, b2i_0, b2i_1, b2i_01, ma_l10, ma_l01, eq_self, true_or, or_true, not_true_eq_false, not_false_eq_true, Bool.false_eq_true]
  rcases Classical.propComplete (0 ≤ o) with c3 | c3 <;> rcases Classical.propComplete (o ≤ 1) with c4 | c4
  case inl.inr | inr.inl | inr.inr =>
    refine ⟨some (vI (-5)), sp_rx x (-5), sp_rm m (-5), ?_, ?_, ma_Iv_no sp_isb5 (ma_Iv_s hi)⟩
    · simp only [bk_87_0, bk_87_8, bk_87_11, bk_87_19, bk_87_22, bk_87_27, bk_87_28, bk_87_35, bk_87_38, bk_87_44, bk_87_45, bk_87_53, bk_87_56, bk_87_64, bk_87_67, bk_87_72, bk_87_78, bk_87_79, bk_87_94, bk_87_106, bk_87_118, bk_87_126, bk_87_133, bk_87_140, bk_87_148, bk_87_154, bk_87_159, bk_87_164, bk_87_166, cx_has, cx_isIn, c1, c2, c3, c4, and_true, and_false, and_self, cx_refuse _ _ _ sp_isb5, ↓reduceIte, ma_bd_some, ma_bd_none, ma_tl1, ma_tl0, ma_ap1, ma_ap0, b2i_0, b2i_1, b2i_01, ma_l10, ma_l01, eq_self, true_or, or_true, not_true_eq_false, not_false_eq_true, Bool.false_eq_true]
    · simp only [bk_185_0, bk_185_5, bk_185_8, bk_185_13, bk_185_16, bk_185_21, bk_185_22, bk_185_27, bk_185_33, bk_185_39, bk_185_40, bk_185_45, bk_185_50, bk_185_57, bk_185_63, bk_185_70, bk_185_76, bk_185_77, bk_185_89, bk_185_100, bk_185_111, bk_185_114, bk_185_118, bk_185_124, bk_185_129, bk_185_134, bk_185_145, cm_isRider, e1, c1, c2, ma_nlt o 0, c3, c4, cm_no _ _ _ sp_isb5, ↓reduceIte, ma_bd_some, ma_bd_none, ma_tl1, ma_tl0, ma_ap1, ma_ap0, b2i_0, b2i_1, b2i_01, ma_l10, ma_l01, eq_self, true_or, or_true, not_true_eq_false, not_false_eq_true, Bool.false_eq_true]
  rcases Classical.propComplete (r = q) with c5 | c5 <;> rcases Classical.propComplete (1 ≤ n) with c6 | c6 <;> rcases Classical.propComplete (n ≤ 500) with c7 | c7 <;> rcases Classical.propComplete (1 ≤ w) with c8 | c8 <;> rcases Classical.propComplete (w ≤ 20) with c9 | c9
  all_goals try
    refine ⟨some (vI (-6)), sp_rx x (-6), sp_rm m (-6), ?_, ?_, ma_Iv_no sp_isb6 (ma_Iv_s hi)⟩
    · simp only [bk_87_0, bk_87_8, bk_87_11, bk_87_19, bk_87_22, bk_87_27, bk_87_28, bk_87_35, bk_87_38, bk_87_44, bk_87_45, bk_87_53, bk_87_56, bk_87_64, bk_87_67, bk_87_72, bk_87_78, bk_87_79, bk_87_94, bk_87_106, bk_87_118, bk_87_126, bk_87_133, bk_87_140, bk_87_148, bk_87_154, bk_87_159, bk_87_164, bk_87_166, cx_has, cx_isIn, c1, c2, c3, c4, c5, c6, c7, c8, c9, and_true, and_false, and_self, cx_refuse _ _ _ sp_isb6, ↓reduceIte, ma_bd_some, ma_bd_none, ma_tl1, ma_tl0, ma_ap1, ma_ap0, b2i_0, b2i_1, b2i_01, ma_l10, ma_l01, eq_self, true_or, or_true, not_true_eq_false, not_false_eq_true, Bool.false_eq_true]
      done
    · simp only [bk_185_0, bk_185_5, bk_185_8, bk_185_13, bk_185_16, bk_185_21, bk_185_22, bk_185_27, bk_185_33, bk_185_39, bk_185_40, bk_185_45, bk_185_50, bk_185_57, bk_185_63, bk_185_70, bk_185_76, bk_185_77, bk_185_89, bk_185_100, bk_185_111, bk_185_114, bk_185_118, bk_185_124, bk_185_129, bk_185_134, bk_185_145, cm_isRider, e1, c1, c2, ma_nlt o 0, ma_nlt n 1, ma_nlt 500 n, ma_nlt w 1, c3, c4, c5, c6, c7, c8, c9, cm_no _ _ _ sp_isb6, ↓reduceIte, ma_bd_some, ma_bd_none, ma_tl1, ma_tl0, ma_ap1, ma_ap0, b2i_0, b2i_1, b2i_01, ma_l10, ma_l01, eq_self, true_or, or_true, not_true_eq_false, not_false_eq_true, Bool.false_eq_true]
      done
  have h1 := ma_le.mp (of_eq_true c6)
  have h2 := ma_le.mp (of_eq_true c7)
  have k1 : (1 : Int32).toInt = 1 := rfl
  have k500 : (500 : Int32).toInt = 500 := rfl
  have k0 : (0 : Int32).toInt = 0 := rfl
  obtain ⟨N, hN⟩ : ∃ N : Nat, n.toInt = N := ⟨n.toInt.toNat, by omega⟩
  obtain ⟨hr, hrl⟩ := sp_in4 hi (of_eq_true c1)
  obtain ⟨hq, hql⟩ := sp_in4 hi (of_eq_true c2)
  have gr := ma_Iv_G hi _ hrl 2 (by omega) (by omega)
  have gq := ma_Iv_G hi _ hql 2 (by omega) (by omega)
  obtain ⟨L, hL⟩ : ∃ L : Nat → Int32, L = fun k => sp_lat (10 + x.1 4 0 r.toNatClampNeg 2) (10 + x.1 4 0 q.toNatClampNeg 2) n w (nI k) := ⟨_, rfl⟩
  obtain ⟨z, u', hx⟩ := cx_road_loop d N r q n w o x hr hq hN (by omega) L hL N 1 0 (some (vI (L 0))) (by omega) (by omega) (by omega)
  obtain ⟨z', hm⟩ := cm_road_loop d N r q n w o m hr hq hN (by omega) N 1 0 (by omega) (by omega)
  rw [gr, gq, ← hL] at hm
  have hL0 : sp_lat (10 + x.1 4 0 r.toNatClampNeg 2) (10 + x.1 4 0 q.toNatClampNeg 2) n w 0 = L 0 := by rw [hL]; rfl
  have hLT : sp_lat (10 + x.1 4 0 r.toNatClampNeg 2) (10 + x.1 4 0 q.toNatClampNeg 2) n w (nI (sp_rd L N 1 0)) = L (sp_rd L N 1 0) := by rw [hL]
  generalize sp_rd L N 1 0 = T at hx hm hLT
  have z1 : nI 1 = 1 := rfl
  rw [nI_0, z1] at hx hm
  have q1 : (n < 0) = False := eq_false (by rw [ma_lt]; omega)
  have s1 : (0 : Int32) + 1 = 1 := by decide
  have hx0 : ma_ex (d + 1) 87 88 [some (vR 1 0 0), some (vI r), some (vI q), some (vI n), some (vI w), some (vI o), some (vI 0), some (vI 0), some (vI 0), none] [] x = ma_ex (d + 1) 87 154 [some (vR 1 0 0), some (vI r), some (vI q), some (vI n), some (vI w), some (vI o), some (vI (nI T)), some (vI (L T)), some (vI z), u'] [] x := by
    rw [← hx, bk_87_88, if_neg (of_eq_false q1)]
    simp only [bk_87_94, bk_87_106, bk_87_118, bk_87_126, bk_87_133, bk_87_140, bk_87_148, ma_if_pos hr, ma_if_pos hq, cx_onFoot, cx_later, hL0, s1, ↓reduceIte, ma_bd_some, ma_bd_none, ma_tl1, ma_tl0, ma_ap1, ma_ap0, b2i_0, b2i_1, b2i_01, ma_l10, ma_l01, eq_self, true_or, or_true, not_true_eq_false, not_false_eq_true, Bool.false_eq_true]
  have hlm := cm_later d r q n w (nI T) m hr hq
  rw [gr, gq, hLT] at hlm
  refine ⟨some (vI (if o = 0 then nI T else L T)), x, m, ?_, ?_, ma_Iv_s hi⟩
  · rcases Classical.propComplete (o = 0) with c | c
    all_goals simp only [bk_87_0, bk_87_8, bk_87_11, bk_87_19, bk_87_22, bk_87_27, bk_87_28, bk_87_35, bk_87_38, bk_87_44, bk_87_45, bk_87_53, bk_87_56, bk_87_64, bk_87_67, bk_87_72, bk_87_78, bk_87_79, bk_87_94, bk_87_106, bk_87_118, bk_87_126, bk_87_133, bk_87_140, bk_87_148, bk_87_154, bk_87_159, bk_87_164, bk_87_166, cx_has, cx_isIn, c1, c2, c3, c4, c5, c6, c7, c8, c9, and_true, and_self, hx0, c, ↓reduceIte, ma_bd_some, ma_bd_none, ma_tl1, ma_tl0, ma_ap1, ma_ap0, b2i_0, b2i_1, b2i_01, ma_l10, ma_l01, eq_self, true_or, or_true, not_true_eq_false, not_false_eq_true, Bool.false_eq_true]
  · rcases Classical.propComplete (o = 0) with c | c
    all_goals simp only [bk_185_0, bk_185_5, bk_185_8, bk_185_13, bk_185_16, bk_185_21, bk_185_22, bk_185_27, bk_185_33, bk_185_39, bk_185_40, bk_185_45, bk_185_50, bk_185_57, bk_185_63, bk_185_70, bk_185_76, bk_185_77, bk_185_89, bk_185_100, bk_185_111, bk_185_114, bk_185_118, bk_185_124, bk_185_129, bk_185_134, bk_185_145, cm_isRider, e1, c1, c2, ma_nlt o 0, ma_nlt n 1, ma_nlt 500 n, ma_nlt w 1, c3, c4, c5, c6, c7, c8, c9, hm, hlm, c, ↓reduceIte, ma_bd_some, ma_bd_none, ma_tl1, ma_tl0, ma_ap1, ma_ap0, b2i_0, b2i_1, b2i_01, ma_l10, ma_l01, eq_self, true_or, or_true, not_true_eq_false, not_false_eq_true, Bool.false_eq_true]
