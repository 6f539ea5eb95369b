/-! PART 54: RULES: the model's leastOf, firstOf. -/
theorem cm_mhMay (d : Nat) (m : Int32) (σ : ma_S) (S : Nat → Int32) (T : Nat → Nat → Int32) (hk : sp_ok S T) : ma_cal (d + 4) 154 [vR 20 0 0, vI m] (ma_mh σ S T) = some (some (vI (b2i (sp_may S T m = true))), ma_mh σ S T) := by
  have h := cm_mayBe d m (ma_mh σ S T) (by rw [ma_mh_F1, ma_mh_G]; exact hk)
  rw [ma_mh_F1, ma_mh_G] at h
  exact h
theorem cm_mhMoves (d : Nat) (m : Int32) (σ : ma_S) (S : Nat → Int32) (T : Nat → Nat → Int32) (hk : sp_ok S T) (hm : sp_isM (S 1) m = true) : ma_cal (d + 4) 156 [vR 20 0 0, vI m] (ma_mh σ S T) = some (none, ma_mh σ (sp_mvF S T m) (sp_mvG S T m)) := by
  have h := cm_moves d m (ma_mh σ S T) (by rw [ma_mh_F1, ma_mh_G]; exact hk) (by rw [ma_mh_F]; exact hm)
  rw [ma_mh_F1, ma_mh_G, ma_mh_mh] at h
  exact h
theorem cm_mhLasts (d : Nat) (m : Int32) (σ : ma_S) (S : Nat → Int32) (T : Nat → Nat → Int32) (h1 : ma_in (ma_rm (m / 10) 10) 4) (h2 : ma_in (ma_rm m 10) 4) : ma_cal (d + 3) 152 [vR 20 0 0, vI m] (ma_mh σ S T) = some (some (vI (sp_last S T m)), ma_mh σ S T) := by
  have h := cm_lasts d m (ma_mh σ S T) h1 h2
  rw [ma_mh_F1, ma_mh_G] at h
  exact h
theorem sp_ri_of {o r : Nat} (ho : o ≤ 7) (hr : r < 10) : sp_ri (nI (100 * o + 10 * r)) = r := by
  have h := nI_toInt (n := 100 * o + 10 * r) (by omega)
  unfold sp_ri
  rw [ma_clN, sp_r10 (by omega), h]
  omega
theorem sp_bsl {b : Int32} {P : Nat → Bool} {t : List Nat} {Q : Nat → Int32 → Bool} {v : Nat} : sp_ls Q ((v :: t).filter P) b = sp_ls Q (t.filter P) (if P v = true then (if b = -1 then nI v else if Q v b = true then nI v else b) else b) := by
  rw [List.filter_cons]
  by_cases h : P v = true
  · rw [if_pos h, if_pos h]
    rfl
  · rw [if_neg h, if_neg h]
theorem cm_leastOf_loop (d n o : Nat) (σ : ma_S) (S : Nat → Int32) (T : Nat → Nat → Int32) (hk : sp_ok S T) (hF : S 1 = nI n) (hn : n ≤ 4) (ho : o ≤ 7) : ∀ (c r : Nat) (b : Int32) (u : Option ma_V), r + c = n → (b = -1 ∨ ma_in (ma_rm (b / 10) 10) 4) → ma_ex (d + 4) 167 4 [some (vR 20 0 0), some (vI (nI o)), some (vI b), some (vI (nI r)), u] [] (ma_mh σ S T) = some (some (vI (sp_ls (sp_QT T) (((List.range' r c).map (fun r => 100 * o + 10 * r)).filter (sp_P S T)) b)), ma_mh σ S T) := by
  intro c
  induction c with
  | zero =>
    intro r b u h hb
    rw [bk_167_4, ma_mh_F, hF, if_pos (nI_le (by omega) (by omega)), bk_167_70]
    rfl
  | succ c ih =>
    intro r b u h hb
    have hin : ma_in (nI r) 4 := sp_nIin (n := n) (by omega) hn
    have hcl : (nI r).toNatClampNeg = r := nI_clamp (by omega)
    have hv := nI_mv (o := o) (r := r) (q := 0) ho (by omega) (by omega)
    rw [nI_0, Int32.add_zero, Nat.add_zero] at hv
    have hri := sp_ri_of (o := o) (r := r) ho (by omega)
    have hv4 : ma_in (ma_rm (nI (100 * o + 10 * r) / 10) 10) 4 := by
      have z := hri
      unfold sp_ri at z
      rw [ma_clN] at z
      have z2 := sp_r10 (m := nI (100 * o + 10 * r)) (by rw [nI_toInt (by omega)]; omega)
      rw [nI_toInt (by omega)] at z2
      exact ma_inI (by omega) (by omega)
    have eP : sp_P S T (100 * o + 10 * r) = sp_may S T (nI (100 * o + 10 * r)) := rfl
    rw [List.range'_succ, List.map_cons, sp_bsl, bk_167_4, ma_mh_F, hF, if_neg (nI_ge (by omega) (by omega)), eP]
    rcases Classical.propComplete (sp_may S T (nI (100 * o + 10 * r)) = true) with c1 | c1
    · rw [if_pos (of_eq_true c1)]
      have hi := ih (r + 1) (nI (100 * o + 10 * r)) (some (vI (nI (100 * o + 10 * r)))) (by omega) (Or.inr hv4)
      rw [nI_succ] at hi
      rcases Classical.propComplete (b = -1) with c2 | c2
      · rw [if_pos (of_eq_true c2), ← hi]
        simp only [bk_167_0, bk_167_12, bk_167_29, bk_167_32, bk_167_35, bk_167_40, bk_167_61, bk_167_64, hv, cm_mhMay _ _ _ _ _ hk, c1, c2, ↓reduceIte, ma_bd_some, ma_bd_none, ma_tl1, ma_tl0, ma_ap1, ma_ap0, b2i_0, b2i_1, b2i_01, ma_l10, ma_l01, eq_self, true_or, or_true, not_true_eq_false, not_false_eq_true, Bool.false_eq_true]
      · rw [if_neg (of_eq_false c2)]
        have hbin : ma_in (ma_rm (b / 10) 10) 4 := hb.resolve_left (of_eq_false c2)
        have eQ : sp_QT T (100 * o + 10 * r) b = decide (T r 4 < T (sp_ri b) 4) := by unfold sp_QT; rw [hri]
        have eri : (ma_rm (b / 10) 10).toNatClampNeg = sp_ri b := rfl
        rw [eQ]
        rcases Classical.propComplete (T (sp_ri b) 4 ≤ T r 4) with c3 | c3
        · have hi2 := ih (r + 1) b (some (vI (nI (100 * o + 10 * r)))) (by omega) hb
          rw [nI_succ] at hi2
          rw [if_neg (by rw [decide_eq_true_iff, ma_lt]; have := ma_le.mp (of_eq_true c3); omega), ← hi2]
          simp only [bk_167_0, bk_167_12, bk_167_29, bk_167_32, bk_167_35, bk_167_40, bk_167_61, bk_167_64, hv, cm_mhMay _ _ _ _ _ hk, c1, c2, ma_if_pos hin, ma_if_pos hbin, hcl, ma_mh_A, eri, c3, ↓reduceIte, ma_bd_some, ma_bd_none, ma_tl1, ma_tl0, ma_ap1, ma_ap0, b2i_0, b2i_1, b2i_01, ma_l10, ma_l01, eq_self, true_or, or_true, not_true_eq_false, not_false_eq_true, Bool.false_eq_true]
        · rw [if_pos (by rw [decide_eq_true_iff, ma_lt]; have : ¬ _ := fun z => of_eq_false c3 (ma_le.mpr z); omega), ← hi]
          simp only [bk_167_0, bk_167_12, bk_167_29, bk_167_32, bk_167_35, bk_167_40, bk_167_61, bk_167_64, hv, cm_mhMay _ _ _ _ _ hk, c1, c2, ma_if_pos hin, ma_if_pos hbin, hcl, ma_mh_A, eri, c3, ↓reduceIte, ma_bd_some, ma_bd_none, ma_tl1, ma_tl0, ma_ap1, ma_ap0, b2i_0, b2i_1, b2i_01, ma_l10, ma_l01, eq_self, true_or, or_true, not_true_eq_false, not_false_eq_true, Bool.false_eq_true]
    · rw [if_neg (of_eq_false c1)]
      have hi := ih (r + 1) b (some (vI (nI (100 * o + 10 * r)))) (by omega) hb
      rw [nI_succ] at hi
      rw [← hi]
      simp only [bk_167_0, bk_167_12, bk_167_29, bk_167_32, bk_167_35, bk_167_40, bk_167_61, bk_167_64, hv, cm_mhMay _ _ _ _ _ hk, c1, ↓reduceIte, ma_bd_some, ma_bd_none, ma_tl1, ma_tl0, ma_ap1, ma_ap0, b2i_0, b2i_1, b2i_01, ma_l10, ma_l01, eq_self, true_or, or_true, not_true_eq_false, not_false_eq_true, Bool.false_eq_true]
theorem sp_cs_map (n : Nat) (hn : n ≤ 4) : sp_cs n 0 1 = (List.range' 0 n).map (fun r => 100 * 0 + 10 * r) ∧ sp_cs n 2 1 = (List.range' 0 n).map (fun r => 100 * 2 + 10 * r) := by
  rcases n with _|_|_|_|_|n
  · decide +kernel
  · decide +kernel
  · decide +kernel
  · decide +kernel
  · decide +kernel
  · omega
theorem cm_leastOf (d n o : Nat) (σ : ma_S) (S : Nat → Int32) (T : Nat → Nat → Int32) (v : Int32) (hv : v = nI o) (hk : sp_ok S T) (hF : S 1 = nI n) (hn : n ≤ 4) (ho : o = 0 ∨ o = 2) : ma_cal (d + 5) 167 [vR 20 0 0, vI v] (ma_mh σ S T) = some (some (vI (sp_ls (sp_QT T) (sp_o S T n o) (-1))), ma_mh σ S T) := by
  subst hv
  have h := cm_leastOf_loop d n o σ S T hk hF hn (by omega) n 0 (-1) none (by omega) (Or.inl rfl)
  rw [nI_0] at h
  have e : sp_o S T n o = ((List.range' 0 n).map (fun r => 100 * o + 10 * r)).filter (sp_P S T) := by
    unfold sp_o
    rcases ho with rfl | rfl
    · rw [(sp_cs_map n hn).1]
    · rw [(sp_cs_map n hn).2]
  rw [e, ← h, en_167, bk_167_0]
theorem cm_firstOf_loop (d n o : Nat) (q : Bool) (σ : ma_S) (S : Nat → Int32) (T : Nat → Nat → Int32) (hk : sp_ok S T) (hF : S 1 = nI n) (hn : n ≤ 4) (ho : o ≤ 7) : ∀ (c k : Nat) (b : Int32), k + c = 100 * o + 40 → (b = -1 ∨ (ma_in (ma_rm (b / 10) 10) 4 ∧ ma_in (ma_rm b 10) 4)) → ma_ex (d + 4) 168 8 [some (vR 20 0 0), some (vI (nI o)), some (vI (b2i (q = true))), some (vI b), some (vI (nI k))] [] (ma_mh σ S T) = some (some (vI (sp_ls (fun v b => q && sp_QL S T v b) ((List.range' k c).filter (sp_P S T)) b)), ma_mh σ S T) := by
  have h40 : 100 * nI o + 40 = nI (100 * o + 40) := by
    rcases o with _|_|_|_|_|_|_|_|o
    all_goals first | omega | decide
  intro c
  induction c with
  | zero =>
    intro k b h hb
    rw [bk_168_8, h40, if_pos (nI_le (by omega) (by omega)), bk_168_73]
    rfl
  | succ c ih =>
    intro k b h hb
    have eP : sp_P S T k = sp_may S T (nI k) := rfl
    have hi0 := ih (k + 1) b (by omega) hb
    rw [nI_succ] at hi0
    have e67 : ∀ b', ma_ex (d + 4) 168 67 [some (vR 20 0 0), some (vI (nI o)), some (vI (b2i (q = true))), some (vI b'), some (vI (nI k))] [] (ma_mh σ S T) = ma_ex (d + 4) 168 8 [some (vR 20 0 0), some (vI (nI o)), some (vI (b2i (q = true))), some (vI b'), some (vI (nI k + 1))] [] (ma_mh σ S T) := fun b' => bk_168_67 _ _ _ _ _ _ _ _
    rw [List.range'_succ, sp_bsl, bk_168_8, h40, if_neg (nI_ge (by omega) (by omega)), bk_168_20, eP]
    by_cases c1 : sp_may S T (nI k) = true
    · rw [if_pos c1]
      obtain ⟨n1, n2⟩ := sp_P_dig hk c1
      have hM := ((sp_may_iff S T (nI k)).mp c1).1
      have hki := sp_isM_in hk.2.1 hM
      have hi := ih (k + 1) (nI k) (by omega) (Or.inr hki)
      rw [nI_succ] at hi
      have d3 : ¬ (3 : Int32) < ma_rm (nI k) 10 := by
        rw [ma_lt]
        have e4 : (4 : Int32).toInt = 4 := rfl
        have e3 : (3 : Int32).toInt = 3 := rfl
        rw [ma_le] at n1
        omega
      have c1' := eq_true c1
      rw [if_neg d3]
      rcases Classical.propComplete (b = -1) with c2 | c2
      · rw [if_pos (of_eq_true c2), ← hi]
        simp only [bk_168_0, bk_168_29, bk_168_35, bk_168_38, bk_168_41, bk_168_46, bk_168_50, bk_168_56, bk_168_61, bk_168_64, bk_168_67, cm_mhMay _ _ _ _ _ hk, c1', c2, ↓reduceIte, ma_bd_some, ma_bd_none, ma_tl1, ma_tl0, ma_ap1, ma_ap0, b2i_0, b2i_1, b2i_01, ma_l10, ma_l01, eq_self, true_or, or_true, not_true_eq_false, not_false_eq_true, Bool.false_eq_true]
      · rw [if_neg (of_eq_false c2)]
        have hbin := hb.resolve_left (of_eq_false c2)
        cases q
        · rw [if_neg (show ¬ (false && sp_QL S T k b) = true from Bool.false_ne_true), ← hi0]
          simp only [bk_168_0, bk_168_29, bk_168_35, bk_168_38, bk_168_41, bk_168_46, bk_168_50, bk_168_56, bk_168_61, bk_168_64, bk_168_67, cm_mhMay _ _ _ _ _ hk, c1', c2, ↓reduceIte, ma_bd_some, ma_bd_none, ma_tl1, ma_tl0, ma_ap1, ma_ap0, b2i_0, b2i_1, b2i_01, ma_l10, ma_l01, eq_self, true_or, or_true, not_true_eq_false, not_false_eq_true, Bool.false_eq_true]
        · have l1 := cm_mhLasts (d + 1) (nI k) σ S T hki.1 hki.2
          have l2 := cm_mhLasts (d + 1) b σ S T hbin.1 hbin.2
          have eQ : (true && sp_QL S T k b) = decide (sp_last S T (nI k) < sp_last S T b) := rfl
          rw [eQ]
          rcases Classical.propComplete (sp_last S T b ≤ sp_last S T (nI k)) with c3 | c3
          · rw [if_neg (by rw [decide_eq_true_iff, ma_lt]; have := ma_le.mp (of_eq_true c3); omega), ← hi0]
            simp only [bk_168_0, bk_168_29, bk_168_35, bk_168_38, bk_168_41, bk_168_46, bk_168_50, bk_168_56, bk_168_61, bk_168_64, bk_168_67, cm_mhMay _ _ _ _ _ hk, c1', c2, l1, l2, c3, ↓reduceIte, ma_bd_some, ma_bd_none, ma_tl1, ma_tl0, ma_ap1, ma_ap0, b2i_0, b2i_1, b2i_01, ma_l10, ma_l01, eq_self, true_or, or_true, not_true_eq_false, not_false_eq_true, Bool.false_eq_true]
          · rw [if_pos (by rw [decide_eq_true_iff, ma_lt]; have : ¬ _ := fun z => of_eq_false c3 (ma_le.mpr z); omega), ← hi]
            simp only [bk_168_0, bk_168_29, bk_168_35, bk_168_38, bk_168_41, bk_168_46, bk_168_50, bk_168_56, bk_168_61, bk_168_64, bk_168_67, cm_mhMay _ _ _ _ _ hk, c1', c2, l1, l2, c3, ↓reduceIte, ma_bd_some, ma_bd_none, ma_tl1, ma_tl0, ma_ap1, ma_ap0, b2i_0, b2i_1, b2i_01, ma_l10, ma_l01, eq_self, true_or, or_true, not_true_eq_false, not_false_eq_true, Bool.false_eq_true]
    · rw [if_neg c1, ← hi0]
      have c1' := eq_false c1
      by_cases d3 : (3 : Int32) < ma_rm (nI k) 10
      · rw [if_pos d3, e67]
      · rw [if_neg d3]
        simp only [bk_168_29, bk_168_35, bk_168_38, e67, cm_mhMay _ _ _ _ _ hk, c1', ↓reduceIte, ma_bd_some, ma_bd_none, ma_tl1, ma_tl0, ma_ap1, ma_ap0, b2i_0, b2i_1, b2i_01, ma_l10, ma_l01, eq_self, true_or, or_true, not_true_eq_false, not_false_eq_true, Bool.false_eq_true]
theorem cm_firstOf (d n o : Nat) (q : Bool) (σ : ma_S) (S : Nat → Int32) (T : Nat → Nat → Int32) (v w : Int32) (hv : v = nI o) (hw : w = b2i (q = true)) (hk : sp_ok S T) (hF : S 1 = nI n) (hn : n ≤ 4) (ho : o ≤ 4) : ma_cal (d + 5) 168 [vR 20 0 0, vI v, vI w] (ma_mh σ S T) = some (some (vI (sp_ls (fun v b => q && sp_QL S T v b) (sp_o S T n o) (-1))), ma_mh σ S T) := by
  subst hv
  subst hw
  have h := cm_firstOf_loop d n o q σ S T hk hF hn (by omega) 40 (100 * o) (-1) (by omega) (Or.inl rfl)
  rw [sp_o_eq hF hn ho, ← h, en_168, bk_168_0]
  have e : 100 * nI o = nI (100 * o) := by
    rcases o with _|_|_|_|_|o
    all_goals first | omega | decide
  rw [e]
theorem cm_quick (d n o : Nat) (σ : ma_S) (S : Nat → Int32) (T : Nat → Nat → Int32) (v : Int32) (hv : v = nI o) (hk : sp_ok S T) (hF : S 1 = nI n) (hn : n ≤ 4) (ho : o ≤ 4) : ma_cal (d + 5) 168 [vR 20 0 0, vI v, vI 1] (ma_mh σ S T) = some (some (vI (sp_ls (sp_QL S T) (sp_o S T n o) (-1))), ma_mh σ S T) := cm_firstOf d n o true σ S T v 1 hv rfl hk hF hn ho
theorem cm_first (d n o : Nat) (σ : ma_S) (S : Nat → Int32) (T : Nat → Nat → Int32) (v : Int32) (hv : v = nI o) (hk : sp_ok S T) (hF : S 1 = nI n) (hn : n ≤ 4) (ho : o ≤ 4) : ma_cal (d + 5) 168 [vR 20 0 0, vI v, vI 0] (ma_mh σ S T) = some (some (vI (sp_hd (sp_o S T n o))), ma_mh σ S T) := by
  have h := cm_firstOf d n o false σ S T v 0 hv rfl hk hF hn ho
  have e : (fun v b => false && sp_QL S T v b) = (fun _ _ => false) := rfl
  rw [e, sp_ls_f0 (fun v hv => by have := (sp_o_mem hF hn ho hv).1; omega)] at h
  exact h
