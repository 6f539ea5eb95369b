/-! PART 37: calls: next, who. -/
theorem sp_at_get : ∀ (l : List Nat) (n : Nat), sp_at l n = match l[n]? with
  | some v => nI v
  | none => -1 := by
  intro l
  induction l with
  | nil => intro n; rfl
  | cons j t ih =>
    intro n
    rcases n with _ | n
    · rfl
    · show sp_at t n = _
      rw [ih n]
      rfl
theorem sp_L_le {F : Nat → Int32} {G : Nat → Nat → Int32} {v : Nat} (h : v ∈ sp_L F G 0) : v ≤ 700 := by
  unfold sp_L at h
  have := (List.mem_filter.mp h).1
  have := (List.mem_range'_1.mp this).2
  omega
theorem sp_Re_P {F S : Nat → Int32} {G T : Nat → Nat → Int32} (h : ma_Re F S G T) : sp_P F G = sp_P S T := by
  funext k
  unfold sp_P
  exact sp_Re_may _ h
theorem sp_Re_L {F S : Nat → Int32} {G T : Nat → Nat → Int32} (h : ma_Re F S G T) (k : Nat) : sp_L F G k = sp_L S T k := by
  unfold sp_L
  rw [sp_Re_P h]
theorem ma_sx_ar (x : ma_S) (a : Nat) (f : Nat → Int32) (h1 : a ≠ 123) (h2 : a ≠ 124) : ma_sx x (ma_ar x a f) := by
  refine ⟨?_, ?_, ?_, ?_, ?_, rfl, ?_, ?_, ?_, ?_⟩
  all_goals (try funext i) <;> (try funext j) <;> (try funext k) <;> simp [ma_ar]
  · intro e; exact absurd e.symm h1
  · intro e; exact absurd e.symm h2
theorem cx_list07 (d i n : Nat) (σ : ma_S) (hk : sp_ok (σ.1 2 i 0) (σ.1 4 i)) (hl : ma_la (100 + i) = 40) (hF : σ.1 2 i 0 1 = nI n) (hn : n ≤ 4) : ma_cal (d + 5) 20 [vR 2 i 0, vI 0, vI 7] σ = some (some (vI (nI (sp_L (σ.1 2 i 0) (σ.1 4 i) 0).length)), ma_ar σ (100 + i) (sp_wr (σ.1 50 (100 + i) 0) (sp_L (σ.1 2 i 0) (σ.1 4 i) 0))) := by
  have h := cx_list d i 0 7 n σ hk hl (by omega) (by omega) hF hn (sp_cs_len n hn)
  rw [show 7 + 1 - 0 = 8 from rfl, sp_cs_L hF hn, nI_0] at h
  exact h
theorem sp_L_len {F : Nat → Int32} {G : Nat → Nat → Int32} {n : Nat} (hF : F 1 = nI n) (hn : n ≤ 4) : (sp_L F G 0).length ≤ 40 := by
  rw [← sp_cs_L hF hn]
  exact Nat.le_trans (sp_filt_le _ _) (sp_cs_len n hn)
theorem op_next (d t : Nat) (x m : ma_S) (i : Int32) (hi : ma_Iv t x m) : ma_Op (d + 7) 76 162 [vI i] t x m := by
  unfold ma_Op
  rw [en_76, en_162]
  have hk := ma_Iv_ok hi
  have hkm := ma_Iv_okm hi
  obtain ⟨n, hn, hF, hFm⟩ := ma_Iv_n hi
  have hL := cx_list07 (d + 1) 0 n x hk rfl hF hn
  have hLm := sp_Re_L hi.1.1 0
  have h40 := sp_L_len (G := x.1 4 0) hF hn
  have hsx := ma_sx_ar x 100 (sp_wr (x.1 50 100 0) (sp_L (x.1 2 0 0) (x.1 4 0) 0)) (by decide) (by decide)
  have hIv := ma_Iv_x hsx (ma_Iv_s hi)
  have e0 : (0 : Int32).toInt = 0 := rfl
  have hll : (nI (sp_L (x.1 2 0 0) (x.1 4 0) 0).length).toInt = (sp_L (x.1 2 0 0) (x.1 4 0) 0).length := nI_toInt (by omega)
  have la : ma_la 100 = 40 := rfl
  rcases Classical.propComplete (i = -1) with c1 | c1
  · refine ⟨some (vI (nI (sp_L (x.1 2 0 0) (x.1 4 0) 0).length)), _, _, ?_, ?_, hIv⟩
    · simp only [bk_76_0, bk_76_10, bk_76_16, bk_76_18, bk_76_22, bk_76_27, bk_76_39, bk_76_45, hL, c1, ↓reduceIte, ma_bd_some, ma_bd_none, ma_tl1, ma_tl0, ma_ap1, ma_ap0, b2i_0, b2i_1, b2i_01, ma_l10, ma_l01, eq_self, true_or, or_true, not_true_eq_false, not_false_eq_true, Bool.false_eq_true]
    · simp only [bk_162_0, bk_162_5, bk_162_9, bk_162_10, bk_162_14, bk_162_18, bk_162_23, bk_162_29, bk_162_35, bk_162_38, bk_162_39, cm_countMoves _ _ hkm, ← hLm, c1, ↓reduceIte, ma_bd_some, ma_bd_none, ma_tl1, ma_tl0, ma_ap1, ma_ap0, b2i_0, b2i_1, b2i_01, ma_l10, ma_l01, eq_self, true_or, or_true, not_true_eq_false, not_false_eq_true, Bool.false_eq_true]
  · rcases Classical.propComplete (0 ≤ i) with c2 | c2
    · have l2 := ma_le.mp (of_eq_true c2)
      have hc := ma_clN (x := i)
      have b1 : (i < 0) = False := eq_false (fun z => by have := ma_lt.mp z; omega)
      have hat := sp_at_get (sp_L (x.1 2 0 0) (x.1 4 0) 0) i.toNatClampNeg
      by_cases c3 : i.toNatClampNeg < (sp_L (x.1 2 0 0) (x.1 4 0) 0).length
      · have b2 : (nI (sp_L (x.1 2 0 0) (x.1 4 0) 0).length ≤ i) = False := eq_false (fun z => by have := ma_le.mp z; omega)
        have hin : ma_in i 40 := ma_inI (by omega) (by omega)
        have hg : (sp_L (x.1 2 0 0) (x.1 4 0) 0)[i.toNatClampNeg]? = some ((sp_L (x.1 2 0 0) (x.1 4 0) 0)[i.toNatClampNeg]) := List.getElem?_eq_getElem c3
        rw [hg] at hat
        have hle := sp_L_le (List.getElem_mem c3)
        have hne := nI_ne1 hle
        have hw : sp_wr (x.1 50 100 0) (sp_L (x.1 2 0 0) (x.1 4 0) 0) i.toNatClampNeg = nI ((sp_L (x.1 2 0 0) (x.1 4 0) 0)[i.toNatClampNeg]) := by
          unfold sp_wr
          rw [hg]
        refine ⟨some (vI (nI ((sp_L (x.1 2 0 0) (x.1 4 0) 0)[i.toNatClampNeg]))), _, _, ?_, ?_, hIv⟩
        · simp only [bk_76_0, bk_76_10, bk_76_16, bk_76_18, bk_76_22, bk_76_27, bk_76_39, bk_76_45, hL, c1, b1, b2, la, Nat.reduceAdd, ma_if_pos hin, ma_ar_at, hw, ↓reduceIte, ma_bd_some, ma_bd_none, ma_tl1, ma_tl0, ma_ap1, ma_ap0, b2i_0, b2i_1, b2i_01, ma_l10, ma_l01, eq_self, true_or, or_true, not_true_eq_false, not_false_eq_true, Bool.false_eq_true]
        · simp only [bk_162_0, bk_162_5, bk_162_9, bk_162_10, bk_162_14, bk_162_18, bk_162_23, bk_162_29, bk_162_35, bk_162_38, bk_162_39, cm_moveAt _ _ _ hkm (show 0 ≤ i.toInt by omega), ← hLm, hat, hne, c1, c2, ↓reduceIte, ma_bd_some, ma_bd_none, ma_tl1, ma_tl0, ma_ap1, ma_ap0, b2i_0, b2i_1, b2i_01, ma_l10, ma_l01, eq_self, true_or, or_true, not_true_eq_false, not_false_eq_true, Bool.false_eq_true]
      · have b2 : (nI (sp_L (x.1 2 0 0) (x.1 4 0) 0).length ≤ i) = True := eq_true (by rw [ma_le]; omega)
        have hg : (sp_L (x.1 2 0 0) (x.1 4 0) 0)[i.toNatClampNeg]? = none := List.getElem?_eq_none (by omega)
        rw [hg] at hat
        refine ⟨some (vI (-5)), _, _, ?_, ?_, ma_Iv_no sp_isb5 hIv⟩
        · simp only [bk_76_0, bk_76_10, bk_76_16, bk_76_18, bk_76_22, bk_76_27, bk_76_39, bk_76_45, hL, c1, b1, b2, Nat.reduceAdd, cx_refuse _ _ _ sp_isb5, ↓reduceIte, ma_bd_some, ma_bd_none, ma_tl1, ma_tl0, ma_ap1, ma_ap0, b2i_0, b2i_1, b2i_01, ma_l10, ma_l01, eq_self, true_or, or_true, not_true_eq_false, not_false_eq_true, Bool.false_eq_true]
        · simp only [bk_162_0, bk_162_5, bk_162_9, bk_162_10, bk_162_14, bk_162_18, bk_162_23, bk_162_29, bk_162_35, bk_162_38, bk_162_39, cm_moveAt _ _ _ hkm (show 0 ≤ i.toInt by omega), ← hLm, hat, c1, c2, cm_no _ _ _ sp_isb5, ↓reduceIte, ma_bd_some, ma_bd_none, ma_tl1, ma_tl0, ma_ap1, ma_ap0, b2i_0, b2i_1, b2i_01, ma_l10, ma_l01, eq_self, true_or, or_true, not_true_eq_false, not_false_eq_true, Bool.false_eq_true]
    · have b1 : (i < 0) = True := eq_true (by
        have : ¬ (0 : Int32).toInt ≤ i.toInt := fun z => (c2.mp (ma_le.mpr z)).elim
        rw [ma_lt]; omega)
      refine ⟨some (vI (-5)), _, _, ?_, ?_, ma_Iv_no sp_isb5 hIv⟩
      · simp only [bk_76_0, bk_76_10, bk_76_16, bk_76_18, bk_76_22, bk_76_27, bk_76_39, bk_76_45, hL, c1, b1, Nat.reduceAdd, cx_refuse _ _ _ sp_isb5, ↓reduceIte, ma_bd_some, ma_bd_none, ma_tl1, ma_tl0, ma_ap1, ma_ap0, b2i_0, b2i_1, b2i_01, ma_l10, ma_l01, eq_self, true_or, or_true, not_true_eq_false, not_false_eq_true, Bool.false_eq_true]
      · simp only [bk_162_0, bk_162_5, bk_162_9, bk_162_10, bk_162_14, bk_162_18, bk_162_23, bk_162_29, bk_162_35, bk_162_38, bk_162_39, c1, c2, cm_no _ _ _ sp_isb5, ↓reduceIte, ma_bd_some, ma_bd_none, ma_tl1, ma_tl0, ma_ap1, ma_ap0, b2i_0, b2i_1, b2i_01, ma_l10, ma_l01, eq_self, true_or, or_true, not_true_eq_false, not_false_eq_true, Bool.false_eq_true]
def sp_wh (P : Nat → Nat → Bool) : Nat → Nat → Nat → Nat
  | 0, _, f => f
  | c + 1, k, f => sp_wh P c (k + 1) (if P k f = true then f else k)
theorem sp_wh_congr {P Q : Nat → Nat → Bool} {n : Nat} (h : ∀ k f, k < n → f < n → P k f = Q k f) : ∀ c k f, k + c = n → f < n → sp_wh P c k f = sp_wh Q c k f := by
  intro c
  induction c with
  | zero => intro k f _ _; rfl
  | succ c ih =>
    intro k f hk hf
    show sp_wh P c (k + 1) (if P k f = true then f else k) = sp_wh Q c (k + 1) (if Q k f = true then f else k)
    rw [h k f (by omega) hf]
    exact ih (k + 1) _ (by omega) (by split <;> omega)
def sp_std (w : Int32) (R : Nat → Int32) : Int32 := if w = 0 then -(R 4) else if w = 1 then R 5 else R 6
theorem cx_standing (d i r : Nat) (w : Int32) (σ : ma_S) : ma_cal (d + 1) 107 [vR 4 i r, vI w] σ = some (some (vI (sp_std w (σ.1 4 i r))), σ) := by
  rw [en_107]
  simp only [bk_107_0, bk_107_28, bk_107_34, bk_107_39, sp_std]
  by_cases c0 : w = 0
  · simp only [c0, if_true]
  by_cases c1 : w = 1
  · rw [if_neg c0, if_neg c0, if_pos c1, if_pos c1]
  · rw [if_neg c0, if_neg c0, if_neg c1, if_neg c1]
theorem cx_who_loop (d n : Nat) (w : Int32) (σ : ma_S) (hF : σ.1 2 0 0 1 = nI n) (hn : n ≤ 4) : ∀ c k f, k + c = n → f < n → ma_ex (d + 1) 83 30 [some (vR 1 0 0), some (vI w), some (vI (nI f)), some (vI (nI k))] [] σ = some (some (vI (nI (sp_wh (fun k f => decide (sp_std w (σ.1 4 0 k) ≤ sp_std w (σ.1 4 0 f))) c k f))), σ) := by
  intro c
  induction c with
  | zero =>
    intro k f hk hf
    rw [bk_83_30, if_pos (by rw [hF]; exact nI_le (by omega) (by omega)), bk_83_78]
    rfl
  | succ c ih =>
    intro k f hk hf
    have hin1 := sp_nIin (k := k) (n := n) (by omega) hn
    have hin2 := sp_nIin (k := f) (n := n) (by omega) hn
    rw [bk_83_30, if_neg (by rw [hF]; exact nI_ge (by omega) (by omega)), bk_83_41, ma_if_pos hin1, nI_clamp (by omega), cx_standing]
    simp only [bk_83_54, ma_if_pos hin2, nI_clamp (show f < 2 ^ 31 by omega), cx_standing, bk_83_67, ↓reduceIte, ma_bd_some, ma_bd_none, ma_tl1, ma_tl0, ma_ap1, ma_ap0, b2i_0, b2i_1, b2i_01, ma_l10, ma_l01, eq_self, true_or, or_true, not_true_eq_false, not_false_eq_true, Bool.false_eq_true]
    have hw : sp_wh (fun k f => decide (sp_std w (σ.1 4 0 k) ≤ sp_std w (σ.1 4 0 f))) (c + 1) k f = sp_wh (fun k f => decide (sp_std w (σ.1 4 0 k) ≤ sp_std w (σ.1 4 0 f))) c (k + 1) (if decide (sp_std w (σ.1 4 0 k) ≤ sp_std w (σ.1 4 0 f)) = true then f else k) := rfl
    rw [hw]
    by_cases hc : sp_std w (σ.1 4 0 k) ≤ sp_std w (σ.1 4 0 f)
    · rw [if_pos hc, if_pos (decide_eq_true hc), bk_83_72, ← nI_succ, ih (k + 1) f (by omega) hf]
    · rw [if_neg hc, if_neg (by rw [decide_eq_true_iff]; exact hc), bk_83_70, bk_83_72, ← nI_succ, ih (k + 1) k (by omega) (by omega)]
def sp_stm (w : Int32) (R S : Nat → Int32) : Bool := if w = 0 then decide (S 4 ≤ R 4) else if w = 1 then decide (R 5 ≤ S 5) else decide (R 6 ≤ S 6)
theorem cm_who_loop (d n : Nat) (w : Int32) (σ : ma_S) (hF : σ.1 20 0 0 1 = nI n) (hn : n ≤ 4) : ∀ c k f, k + c = n → f < n → ma_ex (d + 1) 187 27 [some (vR 20 0 0), some (vI w), some (vI (nI f)), some (vI (nI k))] [] σ = some (some (vI (nI (sp_wh (fun k f => sp_stm w (ma_G σ k) (ma_G σ f)) c k f))), σ) := by
  intro c
  induction c with
  | zero =>
    intro k f hk hf
    rw [bk_187_27, if_pos (by rw [hF]; exact nI_le (by omega) (by omega)), bk_187_103]
    rfl
  | succ c ih =>
    intro k f hk hf
    have hin1 := sp_nIin (k := k) (n := n) (by omega) hn
    have hin2 := sp_nIin (k := f) (n := n) (by omega) hn
    have ck : (nI k).toNatClampNeg = k := nI_clamp (by omega)
    have cf : (nI f).toNatClampNeg = f := nI_clamp (by omega)
    have hw : sp_wh (fun k f => sp_stm w (ma_G σ k) (ma_G σ f)) (c + 1) k f = sp_wh (fun k f => sp_stm w (ma_G σ k) (ma_G σ f)) c (k + 1) (if sp_stm w (ma_G σ k) (ma_G σ f) = true then f else k) := rfl
    have i1 := ih (k + 1) f (by omega) hf
    have i2 := ih (k + 1) k (by omega) (by omega)
    rw [nI_succ] at i1 i2
    rw [hw, bk_187_27, if_neg (by rw [hF]; exact nI_ge (by omega) (by omega)), bk_187_35]
    by_cases c0 : w = 0
    · rw [if_pos c0, bk_187_39, ma_if_pos hin1, ma_if_pos hin2, ck, cf]
      by_cases hc : σ.1 50 4 0 f ≤ σ.1 50 4 0 k
      · have q : sp_stm w (ma_G σ k) (ma_G σ f) = true := by unfold sp_stm; rw [if_pos c0]; exact decide_eq_true hc
        rw [if_pos hc, if_pos q, bk_187_97, i1]
      · have q : ¬ sp_stm w (ma_G σ k) (ma_G σ f) = true := by unfold sp_stm; rw [if_pos c0, decide_eq_true_iff]; exact hc
        rw [if_neg hc, if_neg q, bk_187_54, bk_187_95, bk_187_97, i2]
    · rw [if_neg c0, bk_187_57]
      by_cases c1 : w = 1
      · rw [if_pos c1, bk_187_62, ma_if_pos hin1, ma_if_pos hin2, ck, cf]
        by_cases hc : σ.1 50 5 0 k ≤ σ.1 50 5 0 f
        · have q : sp_stm w (ma_G σ k) (ma_G σ f) = true := by unfold sp_stm; rw [if_neg c0, if_pos c1]; exact decide_eq_true hc
          rw [if_pos hc, if_pos q, bk_187_97, i1]
        · have q : ¬ sp_stm w (ma_G σ k) (ma_G σ f) = true := by unfold sp_stm; rw [if_neg c0, if_pos c1, decide_eq_true_iff]; exact hc
          rw [if_neg hc, if_neg q, bk_187_77, bk_187_95, bk_187_97, i2]
      · rw [if_neg c1, bk_187_80, ma_if_pos hin1, ma_if_pos hin2, ck, cf]
        by_cases hc : σ.1 50 6 0 k ≤ σ.1 50 6 0 f
        · have q : sp_stm w (ma_G σ k) (ma_G σ f) = true := by unfold sp_stm; rw [if_neg c0, if_neg c1]; exact decide_eq_true hc
          rw [if_pos hc, if_pos q, bk_187_97, i1]
        · have q : ¬ sp_stm w (ma_G σ k) (ma_G σ f) = true := by unfold sp_stm; rw [if_neg c0, if_neg c1, decide_eq_true_iff]; exact hc
          rw [if_neg hc, if_neg q, bk_187_95, bk_187_97, i2]
theorem sp_neg_le {a b : Int32} (h1 : 0 ≤ a.toInt) (h2 : 0 ≤ b.toInt) : (-a ≤ -b) ↔ (b ≤ a) := by
  have ha := Int32.toInt_lt a
  have hb := Int32.toInt_lt b
  have e0 : (0 : Int32).toInt = 0 := rfl
  have na : (-a).toInt = - a.toInt := by
    have := ma_sub (a := 0) (b := a) (by omega) (by omega)
    rw [Int32.zero_sub] at this
    omega
  have nb : (-b).toInt = - b.toInt := by
    have := ma_sub (a := 0) (b := b) (by omega) (by omega)
    rw [Int32.zero_sub] at this
    omega
  rw [ma_le, ma_le]
  omega
theorem op_who (d t : Nat) (x m : ma_S) (w : Int32) (hi : ma_Iv t x m) : ma_Op (d + 3) 83 187 [vI w] t x m := by
  unfold ma_Op
  rw [en_83, en_187]
  have hk := ma_Iv_ok hi
  obtain ⟨n, hn, hF, hFm⟩ := ma_Iv_n hi
  have e0 : (0 : Int32).toInt = 0 := rfl
  have e2 : (2 : Int32).toInt = 2 := rfl
  have hni : (nI n).toInt = n := nI_toInt (by omega)
  rcases Classical.propComplete (nI n = 0) with c0 | c0
  · refine ⟨some (vI (-5)), sp_rx x (-5), sp_rm m (-5), ?_, ?_, ma_Iv_no sp_isb5 (ma_Iv_s hi)⟩
    · simp only [bk_83_0, bk_83_19, bk_83_25, hF, c0, cx_refuse _ _ _ sp_isb5, ↓reduceIte, ma_bd_some, ma_bd_none, ma_tl1, ma_tl0, ma_ap1, ma_ap0, b2i_0, b2i_1, b2i_01, ma_l10, ma_l01, eq_self, true_or, or_true, not_true_eq_false, not_false_eq_true, Bool.false_eq_true]
    · simp only [bk_187_0, bk_187_16, bk_187_22, hFm, c0, cm_no _ _ _ sp_isb5, ↓reduceIte, ma_bd_some, ma_bd_none, ma_tl1, ma_tl0, ma_ap1, ma_ap0, b2i_0, b2i_1, b2i_01, ma_l10, ma_l01, eq_self, true_or, or_true, not_true_eq_false, not_false_eq_true, Bool.false_eq_true]
  · have hn0 : 0 < n := by
      rcases Nat.eq_zero_or_pos n with e | e
      · subst e; exact (c0.mp nI_0).elim
      · exact e
    by_cases c1 : 0 ≤ w ∧ w ≤ 2
    · have b1 : (w < 0) = False := eq_false (fun z => by have := ma_lt.mp z; have := ma_le.mp c1.1; omega)
      have b2 : (w ≤ 2) = True := eq_true c1.2
      have hx := cx_who_loop (d + 1) n w x hF hn (n - 1) 1 0 (by omega) hn0
      have hm := cm_who_loop (d + 1) n w m hFm hn (n - 1) 1 0 (by omega) hn0
      have hcong := sp_wh_congr (P := fun k f => decide (sp_std w (x.1 4 0 k) ≤ sp_std w (x.1 4 0 f))) (Q := fun k f => sp_stm w (ma_G m k) (ma_G m f)) (n := n) (fun k f hkn hfn => by
        have gk := ma_Iv_G hi k (by rw [hF, hni]; omega)
        have gf := ma_Iv_G hi f (by rw [hF, hni]; omega)
        have rk := hk.2.2.2.2.2.2.2.2 k (by rw [hF, hni]; omega)
        have rf := hk.2.2.2.2.2.2.2.2 f (by rw [hF, hni]; omega)
        show decide (sp_std w (x.1 4 0 k) ≤ sp_std w (x.1 4 0 f)) = sp_stm w (ma_G m k) (ma_G m f)
        unfold sp_std sp_stm ma_G
        rw [gk 4 (by omega) (by omega), gk 5 (by omega) (by omega), gk 6 (by omega) (by omega), gf 4 (by omega) (by omega), gf 5 (by omega) (by omega), gf 6 (by omega) (by omega)]
        by_cases w0 : w = 0
        · rw [if_pos w0, if_pos w0, if_pos w0, decide_eq_decide]
          exact sp_neg_le rk.2.2.2.1 rf.2.2.2.1
        · by_cases w1 : w = 1
          · rw [if_neg w0, if_neg w0, if_neg w0, if_pos w1, if_pos w1, if_pos w1]
          · rw [if_neg w0, if_neg w0, if_neg w0, if_neg w1, if_neg w1, if_neg w1]) (n - 1) 1 0 (by omega) hn0
      have z1 : nI 1 = 1 := rfl
      rw [nI_0, z1] at hx hm
      refine ⟨some (vI (nI (sp_wh (fun k f => sp_stm w (ma_G m k) (ma_G m f)) (n - 1) 1 0))), x, m, ?_, ?_, ma_Iv_s hi⟩
      · simp only [bk_83_0, bk_83_10, bk_83_16, bk_83_26, cx_isIn, eq_true c1, hF, c0, hx, hcong, ↓reduceIte, ma_bd_some, ma_bd_none, ma_tl1, ma_tl0, ma_ap1, ma_ap0, b2i_0, b2i_1, b2i_01, ma_l10, ma_l01, eq_self, true_or, or_true, not_true_eq_false, not_false_eq_true, Bool.false_eq_true]
      · simp only [bk_187_0, bk_187_7, bk_187_11, bk_187_23, b1, b2, hFm, c0, hm, ↓reduceIte, ma_bd_some, ma_bd_none, ma_tl1, ma_tl0, ma_ap1, ma_ap0, b2i_0, b2i_1, b2i_01, ma_l10, ma_l01, eq_self, true_or, or_true, not_true_eq_false, not_false_eq_true, Bool.false_eq_true]
    · refine ⟨some (vI (-5)), sp_rx x (-5), sp_rm m (-5), ?_, ?_, ma_Iv_no sp_isb5 (ma_Iv_s hi)⟩
      · simp only [bk_83_0, bk_83_10, bk_83_16, bk_83_19, bk_83_25, cx_isIn, eq_false c1, hF, c0, cx_refuse _ _ _ sp_isb5, ↓reduceIte, ma_bd_some, ma_bd_none, ma_tl1, ma_tl0, ma_ap1, ma_ap0, b2i_0, b2i_1, b2i_01, ma_l10, ma_l01, eq_self, true_or, or_true, not_true_eq_false, not_false_eq_true, Bool.false_eq_true]
      · by_cases b1 : w < 0
        · simp only [bk_187_0, bk_187_7, bk_187_16, bk_187_22, b1, hFm, c0, cm_no _ _ _ sp_isb5, ↓reduceIte, ma_bd_some, ma_bd_none, ma_tl1, ma_tl0, ma_ap1, ma_ap0, b2i_0, b2i_1, b2i_01, ma_l10, ma_l01, eq_self, true_or, or_true, not_true_eq_false, not_false_eq_true, Bool.false_eq_true]
        · have b2 : (w ≤ 2) = False := eq_false (fun z => c1 ⟨by rw [ma_lt] at b1; rw [ma_le]; omega, z⟩)
          simp only [bk_187_0, bk_187_7, bk_187_11, bk_187_16, bk_187_22, b1, b2, hFm, c0, cm_no _ _ _ sp_isb5, ↓reduceIte, ma_bd_some, ma_bd_none, ma_tl1, ma_tl0, ma_ap1, ma_ap0, b2i_0, b2i_1, b2i_01, ma_l10, ma_l01, eq_self, true_or, or_true, not_true_eq_false, not_false_eq_true, Bool.false_eq_true]
