/-! PART 60: calls: best, pennies. -/
theorem xplay (d t n ρ : Nat) (l : Bool) (v lf : Int32) (x y m : ma_S) (ht : t < 1000) (hi : ma_Iv t x m) (hs : ma_sx x y) (hρ : ρ ≤ 3) (hv : v = nI ρ) (hlf : (lf = -1) = (l = false)) (hn : n ≤ 4) (hF : x.1 2 0 0 1 = nI n) : ∃ z, ma_cal (d + 7) 43 [vR 6 0 0, vR 2 0 0, vI v, vI 300, vI lf] y = some (some (vI (nI (sp_R ρ l lf n 300 (x.1 2 0 0) (x.1 4 0)).1)), z) ∧ ma_sx x z ∧ (∀ e, ma_cal (e + 1) 6 [vR 2 3 0] z = some (some (vI (sp_sum (fun r => (sp_R ρ l lf n 300 (x.1 2 0 0) (x.1 4 0)).2.2 r 5) n)), z)) ∧ (0 < n → ∀ e, ma_cal (e + 1) 8 [vR 2 3 0] z = some (some (vI (sp_fa (sp_R ρ l lf n 300 (x.1 2 0 0) (x.1 4 0)).2.2 n)), z)) ∧ (∀ r, r < n → z.1 4 3 r 5 = (sp_R ρ l lf n 300 (x.1 2 0 0) (x.1 4 0)).2.2 r 5) ∧ z.1 2 3 0 1 = nI n := by
  have hni := nI_toInt (n := n) (by omega)
  have hk := ma_Iv_ok hi
  have e2 : y.1 2 0 0 = x.1 2 0 0 := by rw [hs.1]
  have e4 : y.1 4 0 = x.1 4 0 := hs.2.1
  obtain ⟨z, p1, p2, p3⟩ := cx_play d n ρ 300 l hρ (by omega) v 300 lf hv rfl hlf y hn (by rw [e2, e4]; exact hk) (by rw [e2]; exact hF)
  rw [e2, e4] at p1 p3
  obtain ⟨o1, o2, o3, o4⟩ := sp_R_ok (ρ := ρ) (n := n) (l := l) (lf := lf) (M := 300) (by omega) ht hk hi.1.2.2.1
  generalize sp_R ρ l lf n 300 (x.1 2 0 0) (x.1 4 0) = R at p1 p3 o1 o2 o3 o4 ⊢
  have hR1 : R.2.1 1 = nI n := o3.trans hF
  have hx1 : z.1 2 3 0 1 = nI n := (p3.1 1 (by omega) (by omega)).symm.trans hR1
  have hg : ∀ r, r < n → z.1 4 3 r 5 = R.2.2 r 5 := fun r hr => (p3.2 r (by rw [hR1, hni]; omega) 5 (by omega) (by omega)).symm
  refine ⟨z, p1, ma_sx_trans hs p2, fun e => ?_, fun h0 e => ?_, hg, hx1⟩
  · rw [cx_allRuns e 3 n z hx1 hn, sp_sum_congr n hg]
  · rw [cx_apart e 3 n z hx1 hn h0, sp_fa_congr h0 hg]
theorem sp_sum_b {f : Nat → Int32} {B : Int} (hB : B < 100000000) : ∀ n, n ≤ 4 → (∀ r, r < n → 0 ≤ (f r).toInt ∧ (f r).toInt ≤ B) → 0 ≤ (sp_sum f n).toInt ∧ (sp_sum f n).toInt ≤ n * B := by
  intro n
  induction n with
  | zero =>
    intro _ _
    have e : (sp_sum f 0).toInt = 0 := rfl
    rw [e]
    simp
  | succ n ih =>
    intro hn h
    have hi := ih (by omega) (fun r hr => h r (by omega))
    have hb := h n (by omega)
    have e : sp_sum f (n + 1) = sp_sum f n + f n := rfl
    have hm : (n : Int) * B ≤ 4 * B := Int.mul_le_mul_of_nonneg_right (by omega) (by omega)
    have hs : ((n + 1 : Nat) : Int) * B = n * B + B := by rw [Int.natCast_add, Int.add_mul]; simp
    rw [e, hs, ma_add (by omega) (by omega)]
    omega
def sp_V (w : Int32) (n : Nat) (F : Nat → Int32) (G : Nat → Nat → Int32) (ρ : Nat) : Int32 := if w = 0 then sp_sum (fun r => (sp_R ρ false (-1) n 300 F G).2.2 r 5) n else -(sp_fa (sp_R ρ false (-1) n 300 F G).2.2 n)
theorem cx_best_body (d t n k : Nat) (w b wo : Int32) (u : Option ma_V) (x y m : ma_S) (ht : t < 1000) (hi : ma_Iv t x m) (hs : ma_sx x y) (hk : k ≤ 3) (hw : w = 0 ∨ w = 1) (hn : n ≤ 4) (h0 : 0 < n) (hF : x.1 2 0 0 1 = nI n) : ∃ z, ma_sx x z ∧ ma_ex (d + 7) 80 33 [some (vR 1 0 0), some (vI w), some (vI b), some (vI wo), some (vI (nI k)), u] [] y = ma_ex (d + 7) 80 85 [some (vR 1 0 0), some (vI w), some (vI b), some (vI wo), some (vI (nI k)), u] [vI (sp_V w n (x.1 2 0 0) (x.1 4 0) k)] z := by
  obtain ⟨z, p1, p2, p3, p4, _⟩ := xplay d t n k false (nI k) (-1) x y m ht hi hs hk rfl (by rw [eq_true rfl, eq_true rfl]) hn hF
  have c4 : (4 ≤ nI k) = False := eq_false (by
    rw [ma_le, nI_toInt (by omega)]
    have e4 : (4 : Int32).toInt = 4 := rfl
    omega)
  have q3 := p3 (d + 6)
  have q4 := p4 h0 (d + 6)
  refine ⟨z, p2, ?_⟩
  unfold sp_V
  rcases hw with hw | hw
  · simp (decide := true) only [bk_80_33, bk_80_39, bk_80_56, bk_80_61, bk_80_71, hw, c4, p1, q3, ↓reduceIte, ma_bd_some, ma_bd_none, ma_tl1, ma_tl0, ma_ap1, ma_ap0, b2i_0, b2i_1, b2i_01, ma_l10, ma_l01, eq_self, true_or, or_true, not_true_eq_false, not_false_eq_true, Bool.false_eq_true]
  · simp (decide := true) only [bk_80_33, bk_80_39, bk_80_56, bk_80_74, bk_80_84, hw, c4, p1, q4, ↓reduceIte, ma_bd_some, ma_bd_none, ma_tl1, ma_tl0, ma_ap1, ma_ap0, b2i_0, b2i_1, b2i_01, ma_l10, ma_l01, eq_self, true_or, or_true, not_true_eq_false, not_false_eq_true, Bool.false_eq_true]
theorem cx_best_loop (d t n : Nat) (w : Int32) (x m : ma_S) (ht : t < 1000) (hi : ma_Iv t x m) (hw : w = 0 ∨ w = 1) (hn : n ≤ 4) (h0 : 0 < n) (hF : x.1 2 0 0 1 = nI n) : ∀ (c k f : Nat) (u : Option ma_V) (y : ma_S), 1 ≤ k → k + c = 4 → f < 4 → ma_sx x y → ∃ z, ma_sx x z ∧ ma_ex (d + 7) 80 33 [some (vR 1 0 0), some (vI w), some (vI (nI f)), some (vI (sp_V w n (x.1 2 0 0) (x.1 4 0) f)), some (vI (nI k)), u] [] y = some (some (vI (nI (sp_wh (fun k f => decide (sp_V w n (x.1 2 0 0) (x.1 4 0) k ≤ sp_V w n (x.1 2 0 0) (x.1 4 0) f)) c k f))), z) := by
  intro c
  induction c with
  | zero =>
    intro k f u y h1 h hf hs
    refine ⟨y, hs, ?_⟩
    have e : k = 4 := by omega
    subst e
    rw [bk_80_33, if_pos (by decide), bk_80_110]
    rfl
  | succ c ih =>
    intro k f u y h1 h hf hs
    obtain ⟨z, z1, z2⟩ := cx_best_body d t n k w (nI f) (sp_V w n (x.1 2 0 0) (x.1 4 0) f) u x y m ht hi hs (by omega) hw hn h0 hF
    have k0 : (nI k = 0) = False := eq_false (nI_ne0 (by omega) (by omega))
    have hst : sp_wh (fun k f => decide (sp_V w n (x.1 2 0 0) (x.1 4 0) k ≤ sp_V w n (x.1 2 0 0) (x.1 4 0) f)) (c + 1) k f = sp_wh (fun k f => decide (sp_V w n (x.1 2 0 0) (x.1 4 0) k ≤ sp_V w n (x.1 2 0 0) (x.1 4 0) f)) c (k + 1) (if decide (sp_V w n (x.1 2 0 0) (x.1 4 0) k ≤ sp_V w n (x.1 2 0 0) (x.1 4 0) f) = true then f else k) := rfl
    rw [hst]
    rcases Classical.propComplete (sp_V w n (x.1 2 0 0) (x.1 4 0) k ≤ sp_V w n (x.1 2 0 0) (x.1 4 0) f) with c1 | c1
    · obtain ⟨z', y1, y2⟩ := ih (k + 1) f (some (vI (sp_V w n (x.1 2 0 0) (x.1 4 0) k))) z (by omega) (by omega) hf z1
      refine ⟨z', y1, ?_⟩
      rw [if_pos (decide_eq_true (of_eq_true c1)), ← y2, z2]
      simp only [bk_80_85, bk_80_92, bk_80_104, k0, c1, nI_1, ↓reduceIte, ma_bd_some, ma_bd_none, ma_tl1, ma_tl0, ma_ap1, ma_ap0, b2i_0, b2i_1, b2i_01, ma_l10, ma_l01, eq_self, true_or, or_true, not_true_eq_false, not_false_eq_true, Bool.false_eq_true]
    · obtain ⟨z', y1, y2⟩ := ih (k + 1) k (some (vI (sp_V w n (x.1 2 0 0) (x.1 4 0) k))) z (by omega) (by omega) (by omega) z1
      refine ⟨z', y1, ?_⟩
      rw [if_neg (by rw [decide_eq_true_iff]; exact of_eq_false c1), ← y2, z2]
      simp only [bk_80_85, bk_80_92, bk_80_98, bk_80_104, k0, c1, nI_1, ↓reduceIte, ma_bd_some, ma_bd_none, ma_tl1, ma_tl0, ma_ap1, ma_ap0, b2i_0, b2i_1, b2i_01, ma_l10, ma_l01, eq_self, true_or, or_true, not_true_eq_false, not_false_eq_true, Bool.false_eq_true]
def sp_VB (w : Int32) (n : Nat) (F : Nat → Int32) (G : Nat → Nat → Int32) (k f : Nat) : Bool := if w = 0 then decide (sp_byV (sp_R k false (-1) n 300 F G) (-1) n G ≤ sp_byV (sp_R f false (-1) n 300 F G) (-1) n G) else decide (sp_fa (sp_R f false (-1) n 300 F G).2.2 n ≤ sp_fa (sp_R k false (-1) n 300 F G).2.2 n)
theorem cm_best_loop (d t n : Nat) (w : Int32) (x m : ma_S) (ht : t < 1000) (hi : ma_Iv t x m) (hw : w = 0 ∨ w = 1) (hn : n ≤ 4) (h0 : 0 < n) (hF : x.1 2 0 0 1 = nI n) : ∀ (c k f : Nat) (y : ma_S), k + c = 4 → f < 4 → ma_sm m y → ∃ z, ma_sm m z ∧ ma_ex (d + 8) 176 27 [some (vR 20 0 0), some (vI w), some (vI (nI f)), some (vI (nI k))] [] y = some (some (vI (nI (sp_wh (sp_VB w n (x.1 2 0 0) (x.1 4 0)) c k f))), z) := by
  intro c
  induction c with
  | zero =>
    intro k f y h hf hs
    refine ⟨y, hs, ?_⟩
    have e : k = 4 := by omega
    subst e
    rw [bk_176_27, if_pos (by decide), bk_176_75]
    rfl
  | succ c ih =>
    intro k f y h hf hs
    have c4 : (4 ≤ nI k) = False := eq_false (by
      rw [ma_le, nI_toInt (by omega)]
      have e4 : (4 : Int32).toInt = 4 := rfl
      omega)
    have hst : sp_wh (sp_VB w n (x.1 2 0 0) (x.1 4 0)) (c + 1) k f = sp_wh (sp_VB w n (x.1 2 0 0) (x.1 4 0)) c (k + 1) (if sp_VB w n (x.1 2 0 0) (x.1 4 0) k f = true then f else k) := rfl
    rw [hst]
    have hi1 := ma_Iv_m hs hi
    rcases hw with hw | hw
    · obtain ⟨m1, a1, a2⟩ := cm_by d t n k (nI k) (-1) x y ht hi1 (by omega) rfl hn hF (Or.inl rfl)
      have s1 := ma_sm_trans hs a2
      obtain ⟨m2, b1, b2⟩ := cm_by d t n f (nI f) (-1) x m1 ht (ma_Iv_m s1 hi) (by omega) rfl hn hF (Or.inl rfl)
      have s2 := ma_sm_trans s1 b2
      have eV : sp_VB w n (x.1 2 0 0) (x.1 4 0) k f = decide (sp_byV (sp_R k false (-1) n 300 (x.1 2 0 0) (x.1 4 0)) (-1) n (x.1 4 0) ≤ sp_byV (sp_R f false (-1) n 300 (x.1 2 0 0) (x.1 4 0)) (-1) n (x.1 4 0)) := if_pos hw
      rw [eV]
      rcases Classical.propComplete (sp_byV (sp_R k false (-1) n 300 (x.1 2 0 0) (x.1 4 0)) (-1) n (x.1 4 0) ≤ sp_byV (sp_R f false (-1) n 300 (x.1 2 0 0) (x.1 4 0)) (-1) n (x.1 4 0)) with c1 | c1
      · obtain ⟨z', y1, y2⟩ := ih (k + 1) f m2 (by omega) hf s2
        refine ⟨z', y1, ?_⟩
        rw [if_pos (decide_eq_true (of_eq_true c1)), ← y2]
        simp (decide := true) only [bk_176_27, bk_176_32, bk_176_36, bk_176_42, bk_176_48, bk_176_69, c4, hw, a1, b1, c1, nI_1, ↓reduceIte, ma_bd_some, ma_bd_none, ma_tl1, ma_tl0, ma_ap1, ma_ap0, b2i_0, b2i_1, b2i_01, ma_l10, ma_l01, eq_self, true_or, or_true, not_true_eq_false, not_false_eq_true, Bool.false_eq_true]
      · obtain ⟨z', y1, y2⟩ := ih (k + 1) k m2 (by omega) (by omega) s2
        refine ⟨z', y1, ?_⟩
        rw [if_neg (by rw [decide_eq_true_iff]; exact of_eq_false c1), ← y2]
        simp (decide := true) only [bk_176_27, bk_176_32, bk_176_36, bk_176_42, bk_176_48, bk_176_51, bk_176_67, bk_176_69, c4, hw, a1, b1, c1, nI_1, ↓reduceIte, ma_bd_some, ma_bd_none, ma_tl1, ma_tl0, ma_ap1, ma_ap0, b2i_0, b2i_1, b2i_01, ma_l10, ma_l01, eq_self, true_or, or_true, not_true_eq_false, not_false_eq_true, Bool.false_eq_true]
    · obtain ⟨m1, a1, a2⟩ := cm_fairOf d t n k (nI k) x y ht hi1 (by omega) rfl hn h0 hF
      have s1 := ma_sm_trans hs a2
      obtain ⟨m2, b1, b2⟩ := cm_fairOf d t n f (nI f) x m1 ht (ma_Iv_m s1 hi) (by omega) rfl hn h0 hF
      have s2 := ma_sm_trans s1 b2
      have eV : sp_VB w n (x.1 2 0 0) (x.1 4 0) k f = decide (sp_fa (sp_R f false (-1) n 300 (x.1 2 0 0) (x.1 4 0)).2.2 n ≤ sp_fa (sp_R k false (-1) n 300 (x.1 2 0 0) (x.1 4 0)).2.2 n) := if_neg (by rw [hw]; decide)
      rw [eV]
      rcases Classical.propComplete (sp_fa (sp_R f false (-1) n 300 (x.1 2 0 0) (x.1 4 0)).2.2 n ≤ sp_fa (sp_R k false (-1) n 300 (x.1 2 0 0) (x.1 4 0)).2.2 n) with c1 | c1
      · obtain ⟨z', y1, y2⟩ := ih (k + 1) f m2 (by omega) hf s2
        refine ⟨z', y1, ?_⟩
        rw [if_pos (decide_eq_true (of_eq_true c1)), ← y2]
        simp (decide := true) only [bk_176_27, bk_176_32, bk_176_54, bk_176_59, bk_176_64, bk_176_69, c4, hw, a1, b1, c1, nI_1, ↓reduceIte, ma_bd_some, ma_bd_none, ma_tl1, ma_tl0, ma_ap1, ma_ap0, b2i_0, b2i_1, b2i_01, ma_l10, ma_l01, eq_self, true_or, or_true, not_true_eq_false, not_false_eq_true, Bool.false_eq_true]
      · obtain ⟨z', y1, y2⟩ := ih (k + 1) k m2 (by omega) (by omega) s2
        refine ⟨z', y1, ?_⟩
        rw [if_neg (by rw [decide_eq_true_iff]; exact of_eq_false c1), ← y2]
        simp (decide := true) only [bk_176_27, bk_176_32, bk_176_54, bk_176_59, bk_176_64, bk_176_67, bk_176_69, c4, hw, a1, b1, c1, nI_1, ↓reduceIte, ma_bd_some, ma_bd_none, ma_tl1, ma_tl0, ma_ap1, ma_ap0, b2i_0, b2i_1, b2i_01, ma_l10, ma_l01, eq_self, true_or, or_true, not_true_eq_false, not_false_eq_true, Bool.false_eq_true]
theorem sp_V_VB {t n k f : Nat} {w : Int32} {x m : ma_S} (ht : t < 1000) (hi : ma_Iv t x m) (hn : n ≤ 4) (h0 : 0 < n) (hF : x.1 2 0 0 1 = nI n) : decide (sp_V w n (x.1 2 0 0) (x.1 4 0) k ≤ sp_V w n (x.1 2 0 0) (x.1 4 0) f) = sp_VB w n (x.1 2 0 0) (x.1 4 0) k f := by
  have hni := nI_toInt (n := n) (by omega)
  have hk := ma_Iv_ok hi
  have hb : ∀ ρ r, r < n → 0 ≤ ((sp_R ρ false (-1) n 300 (x.1 2 0 0) (x.1 4 0)).2.2 r 5).toInt ∧ ((sp_R ρ false (-1) n 300 (x.1 2 0 0) (x.1 4 0)).2.2 r 5).toInt ≤ 201000 := fun ρ r hr => by
    obtain ⟨o1, o2, o3, o4⟩ := sp_R_ok (ρ := ρ) (n := n) (l := false) (lf := -1) (M := 300) (by omega) ht hk hi.1.2.2.1
    have := o2 r (by rw [o3, hF, hni]; omega)
    omega
  have hh := sp_sum_b (f := fun r => x.1 4 0 r 5) (B := 201000) (by omega) n hn (fun r hr => by
    have := hi.1.2.2.1 r (by rw [hF, hni]; omega)
    show 0 ≤ (x.1 4 0 r 5).toInt ∧ (x.1 4 0 r 5).toInt ≤ 201000
    omega)
  unfold sp_V sp_VB
  by_cases hw : w = 0
  · rw [if_pos hw, if_pos hw, if_pos hw, decide_eq_decide]
    have bk := sp_sum_b (f := fun r => (sp_R k false (-1) n 300 (x.1 2 0 0) (x.1 4 0)).2.2 r 5) (B := 201000) (by omega) n hn (fun r hr => hb k r hr)
    have bf := sp_sum_b (f := fun r => (sp_R f false (-1) n 300 (x.1 2 0 0) (x.1 4 0)).2.2 r 5) (B := 201000) (by omega) n hn (fun r hr => hb f r hr)
    unfold sp_byV
    rw [if_pos rfl, if_pos rfl, ma_le, ma_le, ma_sub (by omega) (by omega), ma_sub (by omega) (by omega)]
    omega
  · rw [if_neg hw, if_neg hw, if_neg hw, decide_eq_decide]
    exact sp_neg_le (sp_fa_b (B := 201000) (by omega) h0 (hb k)).1 (sp_fa_b (B := 201000) (by omega) h0 (hb f)).1
theorem op_best (d t : Nat) (x m : ma_S) (w : Int32) (ht : t < 1000) (hi : ma_Iv t x m) : ma_Op (d + 9) 80 176 [vI w] t x m := by
  obtain ⟨n, hn, hF, hFm⟩ := ma_Iv_n hi
  unfold ma_Op
  rw [en_80, en_176]
  rcases Classical.propComplete (nI n = 0) with c0 | c0
  · refine ⟨some (vI (-5)), sp_rx x (-5), sp_rm m (-5), ?_, ?_, ma_Iv_no sp_isb5 (ma_Iv_s hi)⟩
    · simp only [bk_80_0, bk_80_10, bk_80_16, bk_80_19, bk_80_25, bk_80_26, bk_80_39, bk_80_56, bk_80_61, bk_80_71, bk_80_74, bk_80_84, bk_80_85, bk_80_92, bk_80_98, bk_80_104, bk_80_110, hF, c0, cx_refuse _ _ _ sp_isb5, ↓reduceIte, ma_bd_some, ma_bd_none, ma_tl1, ma_tl0, ma_ap1, ma_ap0, b2i_0, b2i_1, b2i_01, ma_l10, ma_l01, eq_self, true_or, or_true, not_true_eq_false, not_false_eq_true, Bool.false_eq_true]
    · simp only [bk_176_0, bk_176_7, bk_176_11, bk_176_16, bk_176_22, bk_176_23, bk_176_32, bk_176_36, bk_176_42, bk_176_48, bk_176_51, bk_176_54, bk_176_59, bk_176_64, bk_176_67, bk_176_69, bk_176_75, hFm, c0, cm_no _ _ _ sp_isb5, ↓reduceIte, ma_bd_some, ma_bd_none, ma_tl1, ma_tl0, ma_ap1, ma_ap0, b2i_0, b2i_1, b2i_01, ma_l10, ma_l01, eq_self, true_or, or_true, not_true_eq_false, not_false_eq_true, Bool.false_eq_true]
  have hn0 : 0 < n := by
    rcases Nat.eq_zero_or_pos n with e | e
    · subst e; exact (c0.mp nI_0).elim
    · exact e
  rcases Classical.propComplete (0 ≤ w) with c2 | c2 <;> rcases Classical.propComplete (w ≤ 1) with c3 | c3
  case inl.inr | inr.inl | inr.inr =>
    refine ⟨some (vI (-5)), sp_rx x (-5), sp_rm m (-5), ?_, ?_, ma_Iv_no sp_isb5 (ma_Iv_s hi)⟩
    · simp only [bk_80_0, bk_80_10, bk_80_16, bk_80_19, bk_80_25, bk_80_26, bk_80_39, bk_80_56, bk_80_61, bk_80_71, bk_80_74, bk_80_84, bk_80_85, bk_80_92, bk_80_98, bk_80_104, bk_80_110, hF, c0, cx_isIn, c2, c3, and_true, and_false, and_self, cx_refuse _ _ _ sp_isb5, ↓reduceIte, ma_bd_some, ma_bd_none, ma_tl1, ma_tl0, ma_ap1, ma_ap0, b2i_0, b2i_1, b2i_01, ma_l10, ma_l01, eq_self, true_or, or_true, not_true_eq_false, not_false_eq_true, Bool.false_eq_true]
    · simp only [bk_176_0, bk_176_7, bk_176_11, bk_176_16, bk_176_22, bk_176_23, bk_176_32, bk_176_36, bk_176_42, bk_176_48, bk_176_51, bk_176_54, bk_176_59, bk_176_64, bk_176_67, bk_176_69, bk_176_75, hFm, c0, ma_nlt w 0, c2, c3, cm_no _ _ _ sp_isb5, ↓reduceIte, ma_bd_some, ma_bd_none, ma_tl1, ma_tl0, ma_ap1, ma_ap0, b2i_0, b2i_1, b2i_01, ma_l10, ma_l01, eq_self, true_or, or_true, not_true_eq_false, not_false_eq_true, Bool.false_eq_true]
  have hw : w = 0 ∨ w = 1 := by
    have l2 := ma_le.mp (of_eq_true c2)
    have l3 := ma_le.mp (of_eq_true c3)
    have k0 : (0 : Int32).toInt = 0 := rfl
    have k1 : (1 : Int32).toInt = 1 := rfl
    rw [ma_eq, ma_eq]
    omega
  obtain ⟨z0, s0, e0⟩ := cx_best_body (d + 1) t n 0 w 0 0 none x x m ht hi (ma_sx_refl x) (by omega) hw hn hn0 hF
  obtain ⟨z, s1, e1⟩ := cx_best_loop (d + 1) t n w x m ht hi hw hn hn0 hF 3 1 0 (some (vI (sp_V w n (x.1 2 0 0) (x.1 4 0) 0))) z0 (by omega) (by omega) (by omega) s0
  obtain ⟨y, s2, e2⟩ := cm_best_loop d t n w x m ht hi hw hn hn0 hF 3 1 0 m (by omega) (by omega) (ma_sm_refl m)
  have hc := sp_wh_congr (P := fun k f => decide (sp_V w n (x.1 2 0 0) (x.1 4 0) k ≤ sp_V w n (x.1 2 0 0) (x.1 4 0) f)) (Q := sp_VB w n (x.1 2 0 0) (x.1 4 0)) (n := 4) (fun k f _ _ => sp_V_VB ht hi hn hn0 hF) 3 1 0 (by omega) (by omega)
  rw [hc] at e1
  have z1 : nI 1 = 1 := rfl
  rw [nI_0] at e0 e1 e2
  rw [z1] at e1 e2
  refine ⟨some (vI (nI (sp_wh (sp_VB w n (x.1 2 0 0) (x.1 4 0)) 3 1 0))), z, y, ?_, ?_, ma_Iv_m s2 (ma_Iv_x s1 (ma_Iv_s hi))⟩
  · have a1 : (0 : Int32) + 1 = 1 := by decide
    simp only [bk_80_0, bk_80_10, bk_80_16, bk_80_26, hF, c0, cx_isIn, c2, c3, and_self, e0, ↓reduceIte, ma_bd_some, ma_bd_none, ma_tl1, ma_tl0, ma_ap1, ma_ap0, b2i_0, b2i_1, b2i_01, ma_l10, ma_l01, eq_self, true_or, or_true, not_true_eq_false, not_false_eq_true, Bool.false_eq_true]
    simp only [bk_80_85, bk_80_98, bk_80_104, a1, e1, ↓reduceIte, ma_bd_some, ma_bd_none, ma_tl1, ma_tl0, ma_ap1, ma_ap0, b2i_0, b2i_1, b2i_01, ma_l10, ma_l01, eq_self, true_or, or_true, not_true_eq_false, not_false_eq_true, Bool.false_eq_true]
  · simp only [bk_176_0, bk_176_7, bk_176_11, bk_176_23, hFm, c0, ma_nlt w 0, c2, c3, e2, ↓reduceIte, ma_bd_some, ma_bd_none, ma_tl1, ma_tl0, ma_ap1, ma_ap0, b2i_0, b2i_1, b2i_01, ma_l10, ma_l01, eq_self, true_or, or_true, not_true_eq_false, not_false_eq_true, Bool.false_eq_true]
