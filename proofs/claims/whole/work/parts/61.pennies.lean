/-! PART 61: call: pennies. -/
def sp_PV (n : Nat) (F : Nat → Int32) (G : Nat → Nat → Int32) (p : Nat) : Int32 := sp_sum (fun r => (sp_R 1 true (nI p) n 300 F G).2.2 r 5) n
theorem nI_np {p : Nat} (h : p ≤ 9) : (nI p = -1) = (true = false) := by
  rw [nI_ne1 (by omega)]
  exact (eq_false (fun z => Bool.false_ne_true z.symm)).symm
theorem cx_pen_body (d t n k N : Nat) (w b wo : Int32) (u : Option ma_V) (x y m : ma_S) (ht : t < 1000) (hi : ma_Iv t x m) (hs : ma_sx x y) (hk : k ≤ N) (hN : N ≤ 9) (hw : w = nI N) (hn : n ≤ 4) (hF : x.1 2 0 0 1 = nI n) : ∃ z, ma_sx x z ∧ ma_ex (d + 7) 82 41 [some (vR 1 0 0), some (vI w), some (vI b), some (vI wo), some (vI (nI k)), u] [] y = ma_ex (d + 7) 82 75 [some (vR 1 0 0), some (vI w), some (vI b), some (vI wo), some (vI (nI k)), u] [vI (sp_PV n (x.1 2 0 0) (x.1 4 0) k)] z := by
  obtain ⟨z, p1, p2, p3, p4, _⟩ := xplay d t n 1 true 1 (nI k) x y m ht hi hs (by omega) rfl (nI_np (by omega)) hn hF
  have c4 : (w < nI k) = False := eq_false (by rw [hw]; exact nI_nlt hk (by omega))
  have q3 := p3 (d + 6)
  refine ⟨z, p2, ?_⟩
  unfold sp_PV
  simp only [bk_82_41, bk_82_47, bk_82_64, c4, p1, q3, ↓reduceIte, ma_bd_some, ma_bd_none, ma_tl1, ma_tl0, ma_ap1, ma_ap0, b2i_0, b2i_1, b2i_01, ma_l10, ma_l01, eq_self, true_or, or_true, not_true_eq_false, not_false_eq_true, Bool.false_eq_true]
theorem cx_pen_loop (d t n N : Nat) (w : Int32) (x m : ma_S) (ht : t < 1000) (hi : ma_Iv t x m) (hN : N ≤ 9) (hw : w = nI N) (hn : n ≤ 4) (hF : x.1 2 0 0 1 = nI n) : ∀ (c k f : Nat) (u : Option ma_V) (y : ma_S), 1 ≤ k → k + c = N + 1 → f ≤ N → ma_sx x y → ∃ z, ma_sx x z ∧ ma_ex (d + 7) 82 41 [some (vR 1 0 0), some (vI w), some (vI (nI f)), some (vI (sp_PV n (x.1 2 0 0) (x.1 4 0) f)), some (vI (nI k)), u] [] y = some (some (vI (nI (sp_wh (fun k f => decide (sp_PV n (x.1 2 0 0) (x.1 4 0) k ≤ sp_PV n (x.1 2 0 0) (x.1 4 0) f)) c k f))), z) := by
  intro c
  induction c with
  | zero =>
    intro k f u y h1 h hf hs
    refine ⟨y, hs, ?_⟩
    rw [bk_82_41, if_pos (by rw [hw]; exact nI_lt (by omega) (by omega)), bk_82_100]
    rfl
  | succ c ih =>
    intro k f u y h1 h hf hs
    obtain ⟨z, z1, z2⟩ := cx_pen_body d t n k N w (nI f) (sp_PV n (x.1 2 0 0) (x.1 4 0) f) u x y m ht hi hs (by omega) hN hw hn hF
    have k0 : (nI k = 0) = False := eq_false (nI_ne0 (by omega) (by omega))
    have hst : sp_wh (fun k f => decide (sp_PV n (x.1 2 0 0) (x.1 4 0) k ≤ sp_PV n (x.1 2 0 0) (x.1 4 0) f)) (c + 1) k f = sp_wh (fun k f => decide (sp_PV n (x.1 2 0 0) (x.1 4 0) k ≤ sp_PV n (x.1 2 0 0) (x.1 4 0) f)) c (k + 1) (if decide (sp_PV n (x.1 2 0 0) (x.1 4 0) k ≤ sp_PV n (x.1 2 0 0) (x.1 4 0) f) = true then f else k) := rfl
    rw [hst]
    rcases Classical.propComplete (sp_PV n (x.1 2 0 0) (x.1 4 0) k ≤ sp_PV n (x.1 2 0 0) (x.1 4 0) f) with c1 | c1
    · obtain ⟨z', y1, y2⟩ := ih (k + 1) f (some (vI (sp_PV n (x.1 2 0 0) (x.1 4 0) k))) z (by omega) (by omega) hf z1
      refine ⟨z', y1, ?_⟩
      rw [if_pos (decide_eq_true (of_eq_true c1)), ← y2, z2]
      simp only [bk_82_75, bk_82_82, bk_82_94, k0, c1, nI_1, ↓reduceIte, ma_bd_some, ma_bd_none, ma_tl1, ma_tl0, ma_ap1, ma_ap0, b2i_0, b2i_1, b2i_01, ma_l10, ma_l01, eq_self, true_or, or_true, not_true_eq_false, not_false_eq_true, Bool.false_eq_true]
    · obtain ⟨z', y1, y2⟩ := ih (k + 1) k (some (vI (sp_PV n (x.1 2 0 0) (x.1 4 0) k))) z (by omega) (by omega) (by omega) z1
      refine ⟨z', y1, ?_⟩
      rw [if_neg (by rw [decide_eq_true_iff]; exact of_eq_false c1), ← y2, z2]
      simp only [bk_82_75, bk_82_82, bk_82_88, bk_82_94, k0, c1, nI_1, ↓reduceIte, ma_bd_some, ma_bd_none, ma_tl1, ma_tl0, ma_ap1, ma_ap0, b2i_0, b2i_1, b2i_01, ma_l10, ma_l01, eq_self, true_or, or_true, not_true_eq_false, not_false_eq_true, Bool.false_eq_true]
theorem cm_pen_body (d t n k N : Nat) (w b wo : Int32) (u : Option ma_V) (x m y : ma_S) (ht : t < 1000) (hi : ma_Iv t x m) (hs : ma_sm m y) (hk : k ≤ N) (hN : N ≤ 9) (hw : w = nI N) (hn : n ≤ 4) (hF : x.1 2 0 0 1 = nI n) : ∃ z, ma_sm m z ∧ ma_ex (d + 7) 186 38 [some (vR 20 0 0), some (vI w), some (vI b), some (vI wo), some (vI (nI k)), u] [] y = ma_ex (d + 7) 186 88 [some (vR 20 0 0), some (vI w), some (vI b), some (vI wo), some (vI (nI k)), some (vI (sp_PV n (x.1 2 0 0) (x.1 4 0) k))] [] z := by
  have hi1 := ma_Iv_m hs hi
  obtain ⟨S', T', mB, q1, q2, q3, q4, q5, q6⟩ := mplay d t n 1 true (nI k) 4 x y ht hi1 (by omega) (fun _ => rfl) rfl hn hF
  rw [if_pos rfl] at q1
  have hni := nI_toInt (n := n) (by omega)
  have hkk := ma_Iv_ok hi
  obtain ⟨o1, o2, o3, o4⟩ := sp_R_ok (ρ := 1) (n := n) (l := true) (lf := nI k) (M := 300) (by omega) ht hkk hi.1.2.2.1
  unfold sp_PV
  generalize sp_R 1 true (nI k) n 300 (x.1 2 0 0) (x.1 4 0) = R at q2 q3 o1 o2 o3 o4 ⊢
  have hR1 : R.2.1 1 = nI n := o3.trans hF
  have hS1 : S' 1 = nI n := (q2.1 1 (by omega) (by omega)).symm.trans hR1
  have a1 := cm_allOf (d + 6) 5 n (ma_mh y S' T') (by rw [ma_mh_F]; exact hS1) hn rfl
  simp only [ma_mh_A] at a1
  have s1 : sp_sum (fun r => T' r 5) n = sp_sum (fun r => R.2.2 r 5) n := sp_sum_congr n (fun r hr => (q2.2 r (by rw [hR1, hni]; omega) 5 (by omega) (by omega)).symm)
  rw [s1] at a1
  have c4 : (w < nI k) = False := eq_false (by rw [hw]; exact nI_nlt hk (by omega))
  refine ⟨mB, ma_sm_trans hs q5, ?_⟩
  simp only [bk_186_38, bk_186_44, bk_186_54, bk_186_68, bk_186_76, c4, q6, ma_mh_uF, q1, a1, q4, ↓reduceIte, ma_bd_some, ma_bd_none, ma_tl1, ma_tl0, ma_ap1, ma_ap0, b2i_0, b2i_1, b2i_01, ma_l10, ma_l01, eq_self, true_or, or_true, not_true_eq_false, not_false_eq_true, Bool.false_eq_true]
theorem cm_pen_loop (d t n N : Nat) (w : Int32) (x m : ma_S) (ht : t < 1000) (hi : ma_Iv t x m) (hN : N ≤ 9) (hw : w = nI N) (hn : n ≤ 4) (hF : x.1 2 0 0 1 = nI n) : ∀ (c k f : Nat) (u : Option ma_V) (y : ma_S), 1 ≤ k → k + c = N + 1 → f ≤ N → ma_sm m y → ∃ z, ma_sm m z ∧ ma_ex (d + 7) 186 38 [some (vR 20 0 0), some (vI w), some (vI (nI f)), some (vI (sp_PV n (x.1 2 0 0) (x.1 4 0) f)), some (vI (nI k)), u] [] y = some (some (vI (nI (sp_wh (fun k f => decide (sp_PV n (x.1 2 0 0) (x.1 4 0) k ≤ sp_PV n (x.1 2 0 0) (x.1 4 0) f)) c k f))), z) := by
  intro c
  induction c with
  | zero =>
    intro k f u y h1 h hf hs
    refine ⟨y, hs, ?_⟩
    rw [bk_186_38, if_pos (by rw [hw]; exact nI_lt (by omega) (by omega)), bk_186_109]
    rfl
  | succ c ih =>
    intro k f u y h1 h hf hs
    obtain ⟨z, z1, z2⟩ := cm_pen_body d t n k N w (nI f) (sp_PV n (x.1 2 0 0) (x.1 4 0) f) u x m y ht hi hs (by omega) hN hw hn hF
    have hst : sp_wh (fun k f => decide (sp_PV n (x.1 2 0 0) (x.1 4 0) k ≤ sp_PV n (x.1 2 0 0) (x.1 4 0) f)) (c + 1) k f = sp_wh (fun k f => decide (sp_PV n (x.1 2 0 0) (x.1 4 0) k ≤ sp_PV n (x.1 2 0 0) (x.1 4 0) f)) c (k + 1) (if decide (sp_PV n (x.1 2 0 0) (x.1 4 0) k ≤ sp_PV n (x.1 2 0 0) (x.1 4 0) f) = true then f else k) := rfl
    rw [hst, z2]
    rcases Classical.propComplete (sp_PV n (x.1 2 0 0) (x.1 4 0) k ≤ sp_PV n (x.1 2 0 0) (x.1 4 0) f) with c1 | c1
    · obtain ⟨z', y1, y2⟩ := ih (k + 1) f (some (vI (sp_PV n (x.1 2 0 0) (x.1 4 0) k))) z (by omega) (by omega) hf z1
      refine ⟨z', y1, ?_⟩
      rw [if_pos (decide_eq_true (of_eq_true c1)), ← y2]
      simp only [bk_186_88, bk_186_94, bk_186_103, ma_nlt (sp_PV n (x.1 2 0 0) (x.1 4 0) f) (sp_PV n (x.1 2 0 0) (x.1 4 0) k), c1, nI_1, ↓reduceIte, ma_bd_some, ma_bd_none, ma_tl1, ma_tl0, ma_ap1, ma_ap0, b2i_0, b2i_1, b2i_01, ma_l10, ma_l01, eq_self, true_or, or_true, not_true_eq_false, not_false_eq_true, Bool.false_eq_true]
    · obtain ⟨z', y1, y2⟩ := ih (k + 1) k (some (vI (sp_PV n (x.1 2 0 0) (x.1 4 0) k))) z (by omega) (by omega) (by omega) z1
      refine ⟨z', y1, ?_⟩
      rw [if_neg (by rw [decide_eq_true_iff]; exact of_eq_false c1), ← y2]
      simp only [bk_186_88, bk_186_97, bk_186_103, ma_nlt (sp_PV n (x.1 2 0 0) (x.1 4 0) f) (sp_PV n (x.1 2 0 0) (x.1 4 0) k), c1, nI_1, ↓reduceIte, ma_bd_some, ma_bd_none, ma_tl1, ma_tl0, ma_ap1, ma_ap0, b2i_0, b2i_1, b2i_01, ma_l10, ma_l01, eq_self, true_or, or_true, not_true_eq_false, not_false_eq_true, Bool.false_eq_true]
theorem op_pennies (d t : Nat) (x m : ma_S) (w : Int32) (ht : t < 1000) (hi : ma_Iv t x m) : ma_Op (d + 8) 82 186 [vI w] t x m := by
  obtain ⟨n, hn, hF, hFm⟩ := ma_Iv_n hi
  have hni := nI_toInt (n := n) (by omega)
  unfold ma_Op
  rw [en_82, en_186]
  rcases Classical.propComplete (nI n = 0) with c0 | c0
  · refine ⟨some (vI (-5)), sp_rx x (-5), sp_rm m (-5), ?_, ?_, ma_Iv_no sp_isb5 (ma_Iv_s hi)⟩
    · simp only [bk_82_0, bk_82_10, bk_82_16, bk_82_17, bk_82_24, bk_82_27, bk_82_33, bk_82_34, bk_82_47, bk_82_64, bk_82_75, bk_82_82, bk_82_88, bk_82_94, bk_82_100, hF, c0, cx_refuse _ _ _ sp_isb5, ↓reduceIte, ma_bd_some, ma_bd_none, ma_tl1, ma_tl0, ma_ap1, ma_ap0, b2i_0, b2i_1, b2i_01, ma_l10, ma_l01, eq_self, true_or, or_true, not_true_eq_false, not_false_eq_true, Bool.false_eq_true]
    · simp only [bk_186_0, bk_186_7, bk_186_13, bk_186_14, bk_186_18, bk_186_24, bk_186_30, bk_186_31, bk_186_44, bk_186_54, bk_186_68, bk_186_76, bk_186_88, bk_186_94, bk_186_97, bk_186_103, bk_186_109, hFm, c0, cm_no _ _ _ sp_isb5, ↓reduceIte, ma_bd_some, ma_bd_none, ma_tl1, ma_tl0, ma_ap1, ma_ap0, b2i_0, b2i_1, b2i_01, ma_l10, ma_l01, eq_self, true_or, or_true, not_true_eq_false, not_false_eq_true, Bool.false_eq_true]
  rcases Classical.propComplete (0 ≤ w) with c2 | c2 <;> rcases Classical.propComplete (w ≤ 9) with c3 | c3
  case inl.inr | inr.inl | inr.inr =>
    refine ⟨some (vI (-6)), sp_rx x (-6), sp_rm m (-6), ?_, ?_, ma_Iv_no sp_isb6 (ma_Iv_s hi)⟩
    · simp only [bk_82_0, bk_82_10, bk_82_16, bk_82_17, bk_82_24, bk_82_27, bk_82_33, bk_82_34, bk_82_47, bk_82_64, bk_82_75, bk_82_82, bk_82_88, bk_82_94, bk_82_100, hF, c0, cx_isIn, c2, c3, and_true, and_false, and_self, cx_refuse _ _ _ sp_isb6, ↓reduceIte, ma_bd_some, ma_bd_none, ma_tl1, ma_tl0, ma_ap1, ma_ap0, b2i_0, b2i_1, b2i_01, ma_l10, ma_l01, eq_self, true_or, or_true, not_true_eq_false, not_false_eq_true, Bool.false_eq_true]
    · simp only [bk_186_0, bk_186_7, bk_186_13, bk_186_14, bk_186_18, bk_186_24, bk_186_30, bk_186_31, bk_186_44, bk_186_54, bk_186_68, bk_186_76, bk_186_88, bk_186_94, bk_186_97, bk_186_103, bk_186_109, hFm, c0, ma_nlt w 0, c2, c3, cm_no _ _ _ sp_isb6, ↓reduceIte, ma_bd_some, ma_bd_none, ma_tl1, ma_tl0, ma_ap1, ma_ap0, b2i_0, b2i_1, b2i_01, ma_l10, ma_l01, eq_self, true_or, or_true, not_true_eq_false, not_false_eq_true, Bool.false_eq_true]
  have l2 := ma_le.mp (of_eq_true c2)
  have l3 := ma_le.mp (of_eq_true c3)
  have k0 : (0 : Int32).toInt = 0 := rfl
  have k9 : (9 : Int32).toInt = 9 := rfl
  obtain ⟨N, hN⟩ : ∃ N : Nat, w.toInt = N := ⟨w.toInt.toNat, by omega⟩
  have hw : w = nI N := ma_nI hN (by omega)
  obtain ⟨z0, s0, e0⟩ := cx_pen_body d t n 0 N w 0 0 none x x m ht hi (ma_sx_refl x) (by omega) (by omega) hw hn hF
  obtain ⟨z, s1, e1⟩ := cx_pen_loop d t n N w x m ht hi (by omega) hw hn hF N 1 0 (some (vI (sp_PV n (x.1 2 0 0) (x.1 4 0) 0))) z0 (by omega) (by omega) (by omega) s0
  obtain ⟨y0, t0, f0⟩ := cm_pen_body d t n 0 N w (-1) (-1) none x m m ht hi (ma_sm_refl m) (by omega) (by omega) hw hn hF
  obtain ⟨y, t1, f1⟩ := cm_pen_loop d t n N w x m ht hi (by omega) hw hn hF N 1 0 (some (vI (sp_PV n (x.1 2 0 0) (x.1 4 0) 0))) y0 (by omega) (by omega) (by omega) t0
  have hb : 0 ≤ (sp_PV n (x.1 2 0 0) (x.1 4 0) 0).toInt := by
    refine (sp_sum_b (B := 201000) (by omega) n hn (fun r hr => ?_)).1
    obtain ⟨o1, o2, o3, o4⟩ := sp_R_ok (ρ := 1) (n := n) (l := true) (lf := nI 0) (M := 300) (by omega) ht (ma_Iv_ok hi) hi.1.2.2.1
    have := o2 r (by rw [o3, hF, hni]; omega)
    show 0 ≤ ((sp_R 1 true (nI 0) n 300 (x.1 2 0 0) (x.1 4 0)).2.2 r 5).toInt ∧ _
    omega
  have kn : (-1 : Int32).toInt = -1 := rfl
  have cm1 : ((-1 : Int32) < sp_PV n (x.1 2 0 0) (x.1 4 0) 0) = True := eq_true (by rw [ma_lt]; omega)
  have z1 : nI 1 = 1 := rfl
  have a1 : (0 : Int32) + 1 = 1 := by decide
  rw [nI_0] at e0 e1 f0 f1
  rw [z1] at e1 f1
  refine ⟨some (vI (nI (sp_wh (fun k f => decide (sp_PV n (x.1 2 0 0) (x.1 4 0) k ≤ sp_PV n (x.1 2 0 0) (x.1 4 0) f)) N 1 0))), z, y, ?_, ?_, ma_Iv_m t1 (ma_Iv_x s1 (ma_Iv_s hi))⟩
  · simp only [bk_82_0, bk_82_17, bk_82_24, bk_82_34, hF, c0, cx_isIn, c2, c3, and_self, e0, ↓reduceIte, ma_bd_some, ma_bd_none, ma_tl1, ma_tl0, ma_ap1, ma_ap0, b2i_0, b2i_1, b2i_01, ma_l10, ma_l01, eq_self, true_or, or_true, not_true_eq_false, not_false_eq_true, Bool.false_eq_true]
    simp only [bk_82_75, bk_82_88, bk_82_94, a1, e1, ↓reduceIte, ma_bd_some, ma_bd_none, ma_tl1, ma_tl0, ma_ap1, ma_ap0, b2i_0, b2i_1, b2i_01, ma_l10, ma_l01, eq_self, true_or, or_true, not_true_eq_false, not_false_eq_true, Bool.false_eq_true]
  · simp only [bk_186_0, bk_186_14, bk_186_18, bk_186_31, hFm, c0, ma_nlt w 0, c2, c3, f0, ↓reduceIte, ma_bd_some, ma_bd_none, ma_tl1, ma_tl0, ma_ap1, ma_ap0, b2i_0, b2i_1, b2i_01, ma_l10, ma_l01, eq_self, true_or, or_true, not_true_eq_false, not_false_eq_true, Bool.false_eq_true]
    simp only [bk_186_88, bk_186_97, bk_186_103, cm1, a1, f1, ↓reduceIte, ma_bd_some, ma_bd_none, ma_tl1, ma_tl0, ma_ap1, ma_ap0, b2i_0, b2i_1, b2i_01, ma_l10, ma_l01, eq_self, true_or, or_true, not_true_eq_false, not_false_eq_true, Bool.false_eq_true]
