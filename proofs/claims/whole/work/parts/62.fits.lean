/-! PART 62: call: fits. -/
def sp_had (D A : Nat → Int32) : Nat → Nat → Bool
  | 0, _ => true
  | c + 1, k => if D k = A k then sp_had D A c (k + 1) else false
theorem sp_had_congr {D A D' A' : Nat → Int32} {n : Nat} (h : ∀ r, r < n → D r = D' r) (h' : ∀ r, r < n → A r = A' r) : ∀ c k, k + c = n → sp_had D A c k = sp_had D' A' c k := by
  intro c
  induction c with
  | zero => intro k _; rfl
  | succ c ih =>
    intro k hk
    unfold sp_had
    rw [h k (by omega), h' k (by omega), ih (k + 1) (by omega)]
theorem cx_hadSo_loop (d n s : Nat) (z : ma_S) (hs : s < 8) (hz : (z.1 16 s 0 2).toInt ≤ 160) (hzn : (n : Int) ≤ (z.1 16 s 0 2).toInt) (hF : z.1 2 0 0 1 = nI n) (hn : n ≤ 4) : ∀ c k, k + c = n → ma_ex (d + 2) 109 2 [some (vR 1 0 0), some (vR 16 s 0), some (vI (nI k))] [] z = some (some (vI (b2i (sp_had (fun r => z.1 4 3 r 5 - z.1 4 0 r 5) (fun r => Int64.toInt32 (z.2 s r)) c k = true))), z) := by
  intro c
  induction c with
  | zero =>
    intro k h
    rw [bk_109_2, hF, if_pos (nI_le (by omega) (by omega)), bk_109_34]
    rfl
  | succ c ih =>
    intro k h
    have hki := nI_toInt (n := k) (by omega)
    have hni := nI_toInt (n := n) (by omega)
    have hin : ma_in (nI k) 4 := sp_nIin (n := n) (by omega) hn
    have hcl : (nI k).toNatClampNeg = k := nI_clamp (by omega)
    have h0 : (0 ≤ nI k) = True := eq_true (nI_pos' (by omega))
    have h1 : (nI k < nI n) = True := eq_true (nI_lt (by omega) (by omega))
    have ha := cx_asInt d s (nI k) z hs hz
    rw [if_pos ⟨nI_pos' (by omega), by rw [ma_lt]; omega⟩, hcl] at ha
    have hst : sp_had (fun r => z.1 4 3 r 5 - z.1 4 0 r 5) (fun r => Int64.toInt32 (z.2 s r)) (c + 1) k = if z.1 4 3 k 5 - z.1 4 0 k 5 = Int64.toInt32 (z.2 s k) then sp_had (fun r => z.1 4 3 r 5 - z.1 4 0 r 5) (fun r => Int64.toInt32 (z.2 s r)) c (k + 1) else false := rfl
    have hi := ih (k + 1) (by omega)
    rw [bk_109_2, hF, if_neg (nI_ge (by omega) (by omega)), hst]
    rcases Classical.propComplete (z.1 4 3 k 5 - z.1 4 0 k 5 = Int64.toInt32 (z.2 s k)) with c1 | c1
    · rw [if_pos (of_eq_true c1), ← hi]
      simp only [bk_109_13, bk_109_18, bk_109_23, bk_109_28, en_108, bk_108_0, bk_108_8, bk_108_11, bk_108_42, bk_108_43, cx_has, hF, h0, h1, and_self, ma_if_pos hin, hcl, ha, c1, nI_1, ↓reduceIte, ma_bd_some, ma_bd_none, ma_tl1, ma_tl0, ma_ap1, ma_ap0, b2i_0, b2i_1, b2i_01, ma_l10, ma_l01, eq_self, true_or, or_true, not_true_eq_false, not_false_eq_true, Bool.false_eq_true]
    · rw [if_neg (of_eq_false c1)]
      have b0 : b2i (false = true) = 0 := rfl
      rw [b0]
      simp only [bk_109_13, bk_109_18, bk_109_23, bk_109_26, en_108, bk_108_0, bk_108_8, bk_108_11, bk_108_42, bk_108_43, cx_has, hF, h0, h1, and_self, ma_if_pos hin, hcl, ha, c1, ↓reduceIte, ma_bd_some, ma_bd_none, ma_tl1, ma_tl0, ma_ap1, ma_ap0, b2i_0, b2i_1, b2i_01, ma_l10, ma_l01, eq_self, true_or, or_true, not_true_eq_false, not_false_eq_true, Bool.false_eq_true]
def sp_bt (H : Nat → Bool) : Nat → Nat → Int32 → Int32
  | 0, _, b => b
  | c + 1, k, b => sp_bt H c (k + 1) (if H k = true then b ||| (1 <<< (nI k &&& 31)) else b)
def sp_H (n : Nat) (F : Nat → Int32) (G : Nat → Nat → Int32) (A : Nat → Int32) (ρ : Nat) : Bool := sp_had (fun r => (sp_R ρ false (-1) n 300 F G).2.2 r 5 - G r 5) A n 0
theorem cx_fits_loop (d t n s : Nat) (sv q : Int32) (x m : ma_S) (ht : t < 1000) (hi : ma_Iv t x m) (hsv : ma_in sv 8) (hs : sv.toNatClampNeg = s) (hz : (x.1 16 s 0 2).toInt ≤ 160) (hzn : (n : Int) ≤ (x.1 16 s 0 2).toInt) (hn : n ≤ 4) (hF : x.1 2 0 0 1 = nI n) : ∀ (c k : Nat) (b : Int32) (y : ma_S), k + c = 4 → ma_sx x y → ∃ z, ma_sx x z ∧ ma_ex (d + 7) 81 47 [some (vR 1 0 0), some (vI sv), some (vI q), some (vI b), some (vI (nI k))] [] y = some (some (vI (sp_bt (sp_H n (x.1 2 0 0) (x.1 4 0) (fun r => Int64.toInt32 (x.2 s r))) c k b)), z) := by
  have hs8 : s < 8 := by
    have h1 := hsv.1
    have h2 := hsv.2
    have hc := ma_clN (x := sv)
    omega
  intro c
  induction c with
  | zero =>
    intro k b y h hsx
    refine ⟨y, hsx, ?_⟩
    have e : k = 4 := by omega
    subst e
    rw [bk_81_47, if_pos (by decide), bk_81_97]
    rfl
  | succ c ih =>
    intro k b y h hsx
    obtain ⟨z, p1, p2, p3, p4, p5, p6⟩ := xplay d t n k false (nI k) (-1) x y m ht hi hsx (by omega) rfl (by rw [eq_true rfl, eq_true rfl]) hn hF
    have e16 : z.1 16 = x.1 16 := p2.2.2.2.2.1
    have e2 : z.2 = x.2 := p2.2.2.2.2.2.1
    have hh := cx_hadSo_loop (d + 4) n s z hs8 (by rw [e16]; exact hz) (by rw [e16]; exact hzn) (by rw [p2.1]; exact hF) hn n 0 (by omega)
    have hc : sp_had (fun r => z.1 4 3 r 5 - z.1 4 0 r 5) (fun r => Int64.toInt32 (z.2 s r)) n 0 = sp_H n (x.1 2 0 0) (x.1 4 0) (fun r => Int64.toInt32 (x.2 s r)) k := sp_had_congr (n := n) (fun r hr => by rw [p5 r hr, p2.2.1]) (fun r hr => by rw [e2]) n 0 (by omega)
    rw [hc, nI_0] at hh
    have c4 : (4 ≤ nI k) = False := eq_false (by
      rw [ma_le, nI_toInt (by omega)]
      have e4 : (4 : Int32).toInt = 4 := rfl
      omega)
    have hst : sp_bt (sp_H n (x.1 2 0 0) (x.1 4 0) (fun r => Int64.toInt32 (x.2 s r))) (c + 1) k b = sp_bt (sp_H n (x.1 2 0 0) (x.1 4 0) (fun r => Int64.toInt32 (x.2 s r))) c (k + 1) (if sp_H n (x.1 2 0 0) (x.1 4 0) (fun r => Int64.toInt32 (x.2 s r)) k = true then b ||| (1 <<< (nI k &&& 31)) else b) := rfl
    have hca : ma_cal (d + 7) 109 [vR 1 0 0, vR 16 s 0] z = some (some (vI (b2i (sp_H n (x.1 2 0 0) (x.1 4 0) (fun r => Int64.toInt32 (x.2 s r)) k = true))), z) := by
      rw [en_109, bk_109_0]
      exact hh
    rw [hst]
    rcases Classical.propComplete (sp_H n (x.1 2 0 0) (x.1 4 0) (fun r => Int64.toInt32 (x.2 s r)) k = true) with c1 | c1
    · obtain ⟨z', y1, y2⟩ := ih (k + 1) (b ||| (1 <<< (nI k &&& 31))) z (by omega) p2
      refine ⟨z', y1, ?_⟩
      rw [if_pos (of_eq_true c1), ← y2]
      simp only [bk_81_47, bk_81_53, bk_81_70, bk_81_81, bk_81_84, bk_81_91, c4, p1, ma_if_pos hsv, hs, hca, c1, nI_1, ↓reduceIte, ma_bd_some, ma_bd_none, ma_tl1, ma_tl0, ma_ap1, ma_ap0, b2i_0, b2i_1, b2i_01, ma_l10, ma_l01, eq_self, true_or, or_true, not_true_eq_false, not_false_eq_true, Bool.false_eq_true]
    · obtain ⟨z', y1, y2⟩ := ih (k + 1) b z (by omega) p2
      refine ⟨z', y1, ?_⟩
      rw [if_neg (of_eq_false c1), ← y2]
      simp only [bk_81_47, bk_81_53, bk_81_70, bk_81_81, bk_81_91, c4, p1, ma_if_pos hsv, hs, hca, c1, nI_1, ↓reduceIte, ma_bd_some, ma_bd_none, ma_tl1, ma_tl0, ma_ap1, ma_ap0, b2i_0, b2i_1, b2i_01, ma_l10, ma_l01, eq_self, true_or, or_true, not_true_eq_false, not_false_eq_true, Bool.false_eq_true]
theorem cm_isFit_loop (d t n ρ : Nat) (sv : Int32) (x m : ma_S) (ht : t < 1000) (hi : ma_Iv t x m) (hρ : ρ ≤ 3) (hsv : 0 ≤ sv.toInt ∧ sv.toInt < 8) (hn : n ≤ 4) (hF : x.1 2 0 0 1 = nI n) : ∀ (c k : Nat) (y : ma_S), k + c = n → ma_sm m y → ∃ z, ma_sm m z ∧ ma_ex (d + 8) 182 2 [some (vR 20 0 0), some (vI sv), some (vI (nI ρ)), some (vI (nI k))] [] y = some (some (vI (b2i (sp_had (fun r => (sp_R ρ false (-1) n 300 (x.1 2 0 0) (x.1 4 0)).2.2 r 5 - x.1 4 0 r 5) (fun r => Int64.toInt32 (m.2 10 (160 * sv.toNatClampNeg + r))) c k = true))), z) := by
  intro c
  induction c with
  | zero =>
    intro k y h hs
    have hFy : y.1 20 0 0 1 = nI n := by rw [ma_Iv_F (ma_Iv_m hs hi) 1 (by omega) (by omega)]; exact hF
    refine ⟨y, hs, ?_⟩
    rw [bk_182_2, hFy, if_pos (nI_le (by omega) (by omega)), bk_182_33]
    rfl
  | succ c ih =>
    intro k y h hs
    have hi1 := ma_Iv_m hs hi
    have hFy : y.1 20 0 0 1 = nI n := by rw [ma_Iv_F hi1 1 (by omega) (by omega)]; exact hF
    have hki := nI_toInt (n := k) (by omega)
    have hcl : (nI k).toNatClampNeg = k := nI_clamp (by omega)
    obtain ⟨m1, a1, a2⟩ := cm_by d t n ρ (nI ρ) (nI k) x y ht hi1 hρ rfl hn hF (Or.inr (Or.inr (Or.inr ⟨nI_pos' (by omega), nI_lt (by omega) (by omega)⟩)))
    have s1 := ma_sm_trans hs a2
    have n1 : ¬ nI k = -1 := of_eq_false (nI_ne1 (by omega))
    have n4 : ¬ nI k = 4 := fun e => by
      rw [e] at hki
      have e4 : (4 : Int32).toInt = 4 := rfl
      omega
    have n5 : ¬ nI k = 5 := fun e => by
      rw [e] at hki
      have e5 : (5 : Int32).toInt = 5 := rfl
      omega
    unfold sp_byV at a1
    rw [if_neg n1, if_neg n4, if_neg n5, hcl] at a1
    have ha := cm_intAt (d + 7) sv (nI k) m1 hsv (by omega)
    rw [hcl, s1.2.2] at ha
    have hst : sp_had (fun r => (sp_R ρ false (-1) n 300 (x.1 2 0 0) (x.1 4 0)).2.2 r 5 - x.1 4 0 r 5) (fun r => Int64.toInt32 (m.2 10 (160 * sv.toNatClampNeg + r))) (c + 1) k = if (sp_R ρ false (-1) n 300 (x.1 2 0 0) (x.1 4 0)).2.2 k 5 - x.1 4 0 k 5 = Int64.toInt32 (m.2 10 (160 * sv.toNatClampNeg + k)) then sp_had (fun r => (sp_R ρ false (-1) n 300 (x.1 2 0 0) (x.1 4 0)).2.2 r 5 - x.1 4 0 r 5) (fun r => Int64.toInt32 (m.2 10 (160 * sv.toNatClampNeg + r))) c (k + 1) else false := rfl
    rw [hst]
    rcases Classical.propComplete ((sp_R ρ false (-1) n 300 (x.1 2 0 0) (x.1 4 0)).2.2 k 5 - x.1 4 0 k 5 = Int64.toInt32 (m.2 10 (160 * sv.toNatClampNeg + k))) with c1 | c1
    · obtain ⟨z, z1, z2⟩ := ih (k + 1) m1 (by omega) s1
      refine ⟨z, z1, ?_⟩
      rw [if_pos (of_eq_true c1), ← z2, bk_182_2, hFy, if_neg (nI_ge (by omega) (by omega))]
      simp only [bk_182_10, bk_182_16, bk_182_22, bk_182_27, a1, ha, c1, nI_1, ↓reduceIte, ma_bd_some, ma_bd_none, ma_tl1, ma_tl0, ma_ap1, ma_ap0, b2i_0, b2i_1, b2i_01, ma_l10, ma_l01, eq_self, true_or, or_true, not_true_eq_false, not_false_eq_true, Bool.false_eq_true]
    · refine ⟨m1, s1, ?_⟩
      have b0 : b2i (false = true) = 0 := rfl
      rw [if_neg (of_eq_false c1), b0, bk_182_2, hFy, if_neg (nI_ge (by omega) (by omega))]
      simp only [bk_182_10, bk_182_16, bk_182_22, bk_182_25, a1, ha, c1, ↓reduceIte, ma_bd_some, ma_bd_none, ma_tl1, ma_tl0, ma_ap1, ma_ap0, b2i_0, b2i_1, b2i_01, ma_l10, ma_l01, eq_self, true_or, or_true, not_true_eq_false, not_false_eq_true, Bool.false_eq_true]
theorem cm_fits_loop (d t n : Nat) (sv q : Int32) (x m : ma_S) (ht : t < 1000) (hi : ma_Iv t x m) (hsv : 0 ≤ sv.toInt ∧ sv.toInt < 8) (hn : n ≤ 4) (hF : x.1 2 0 0 1 = nI n) : ∀ (c k : Nat) (b : Int32) (y : ma_S), k + c = 4 → ma_sm m y → ∃ z, ma_sm m z ∧ ma_ex (d + 9) 183 41 [some (vR 20 0 0), some (vI sv), some (vI q), some (vI b), some (vI (nI k))] [] y = some (some (vI (sp_bt (sp_H n (x.1 2 0 0) (x.1 4 0) (fun r => Int64.toInt32 (m.2 10 (160 * sv.toNatClampNeg + r)))) c k b)), z) := by
  intro c
  induction c with
  | zero =>
    intro k b y h hs
    refine ⟨y, hs, ?_⟩
    have e : k = 4 := by omega
    subst e
    rw [bk_183_41, if_pos (by decide), bk_183_70]
    rfl
  | succ c ih =>
    intro k b y h hs
    obtain ⟨z, z1, z2⟩ := cm_isFit_loop d t n k sv x m ht hi (by omega) hsv hn hF n 0 y (by omega) hs
    rw [nI_0] at z2
    have hca : ma_cal (d + 9) 182 [vR 20 0 0, vI sv, vI (nI k)] y = some (some (vI (b2i (sp_H n (x.1 2 0 0) (x.1 4 0) (fun r => Int64.toInt32 (m.2 10 (160 * sv.toNatClampNeg + r))) k = true))), z) := by
      rw [en_182, bk_182_0]
      exact z2
    have c4 : (4 ≤ nI k) = False := eq_false (by
      rw [ma_le, nI_toInt (by omega)]
      have e4 : (4 : Int32).toInt = 4 := rfl
      omega)
    have hst : sp_bt (sp_H n (x.1 2 0 0) (x.1 4 0) (fun r => Int64.toInt32 (m.2 10 (160 * sv.toNatClampNeg + r)))) (c + 1) k b = sp_bt (sp_H n (x.1 2 0 0) (x.1 4 0) (fun r => Int64.toInt32 (m.2 10 (160 * sv.toNatClampNeg + r)))) c (k + 1) (if sp_H n (x.1 2 0 0) (x.1 4 0) (fun r => Int64.toInt32 (m.2 10 (160 * sv.toNatClampNeg + r))) k = true then b ||| (1 <<< (nI k &&& 31)) else b) := rfl
    rw [hst]
    rcases Classical.propComplete (sp_H n (x.1 2 0 0) (x.1 4 0) (fun r => Int64.toInt32 (m.2 10 (160 * sv.toNatClampNeg + r))) k = true) with c1 | c1
    · obtain ⟨z', y1, y2⟩ := ih (k + 1) (b ||| (1 <<< (nI k &&& 31))) z (by omega) z1
      refine ⟨z', y1, ?_⟩
      rw [if_pos (of_eq_true c1), ← y2]
      simp only [bk_183_41, bk_183_47, bk_183_54, bk_183_57, bk_183_64, c4, hca, c1, nI_1, ↓reduceIte, ma_bd_some, ma_bd_none, ma_tl1, ma_tl0, ma_ap1, ma_ap0, b2i_0, b2i_1, b2i_01, ma_l10, ma_l01, eq_self, true_or, or_true, not_true_eq_false, not_false_eq_true, Bool.false_eq_true]
    · obtain ⟨z', y1, y2⟩ := ih (k + 1) b z (by omega) z1
      refine ⟨z', y1, ?_⟩
      rw [if_neg (of_eq_false c1), ← y2]
      simp only [bk_183_41, bk_183_47, bk_183_54, bk_183_64, c4, hca, c1, nI_1, ↓reduceIte, ma_bd_some, ma_bd_none, ma_tl1, ma_tl0, ma_ap1, ma_ap0, b2i_0, b2i_1, b2i_01, ma_l10, ma_l01, eq_self, true_or, or_true, not_true_eq_false, not_false_eq_true, Bool.false_eq_true]
theorem sp_bt_congr {H H' : Nat → Bool} (h : ∀ ρ, H ρ = H' ρ) : H = H' := funext h
theorem op_fits (d t : Nat) (x m : ma_S) (s : Int32) (ht : t < 1000) (hi : ma_Iv t x m) : ma_Op (d + 10) 81 183 [vI s] t x m := by
  obtain ⟨n, hn, hF, hFm⟩ := ma_Iv_n hi
  have hni := nI_toInt (n := n) (by omega)
  unfold ma_Op
  rw [en_81, en_183]
  have hr := cx_rr (d + 7) t x m s hi
  have hw := cm_wanted (d + 7) s m
  have hQ : (if ¬ (0 ≤ s ∧ s < 8) then (-1 : Int32) else if m.1 50 8 0 s.toNatClampNeg = 2 then -2 else if m.1 50 8 0 s.toNatClampNeg = 0 then -3 else 0) = sp_Q m s := rfl
  rw [hQ] at hw
  rcases Classical.propComplete (sp_Q m s = 0) with c0 | c0
  case inr =>
    have hb := sp_Q_b (of_eq_false c0)
    refine ⟨some (vI (sp_Q m s)), _, _, ?_, ?_, ma_Iv_no hb (ma_Iv_s hi)⟩
    · simp only [bk_81_0, bk_81_5, bk_81_10, bk_81_29, bk_81_32, bk_81_36, bk_81_41, bk_81_42, bk_81_53, bk_81_70, bk_81_81, bk_81_84, bk_81_91, bk_81_97, hr, c0, cx_refuse _ _ _ hb, ↓reduceIte, ma_bd_some, ma_bd_none, ma_tl1, ma_tl0, ma_ap1, ma_ap0, b2i_0, b2i_1, b2i_01, ma_l10, ma_l01, eq_self, true_or, or_true, not_true_eq_false, not_false_eq_true, Bool.false_eq_true]
    · simp only [bk_183_0, bk_183_5, bk_183_10, bk_183_23, bk_183_26, bk_183_30, bk_183_35, bk_183_36, bk_183_47, bk_183_54, bk_183_57, bk_183_64, bk_183_70, hw, c0, cm_no _ _ _ hb, ↓reduceIte, ma_bd_some, ma_bd_none, ma_tl1, ma_tl0, ma_ap1, ma_ap0, b2i_0, b2i_1, b2i_01, ma_l10, ma_l01, eq_self, true_or, or_true, not_true_eq_false, not_false_eq_true, Bool.false_eq_true]
  obtain ⟨h8, h1⟩ := sp_Q_0 hi (of_eq_true c0)
  obtain ⟨hin, hs8, hz⟩ := sp_in8 h8
  obtain ⟨_, _, _, q4⟩ := sp_ct hi hs8
  obtain ⟨_, z2, z3, z4⟩ := q4 h1
  have z5 : ∀ i, i < 160 → x.2 s.toNatClampNeg i = m.2 10 (160 * s.toNatClampNeg + i) := by
    rcases hi.2.1 s.toNatClampNeg hs8 with ⟨a, _⟩ | ⟨a, _⟩ | ⟨_, _, _, _, _, _, _, c⟩
    · rw [a] at h1; exact absurd h1 (by decide)
    · rw [a] at h1; exact absurd h1 (by decide)
    · exact c
  have n50 : ((-5 : Int32) = 0) = False := by decide
  rcases Classical.propComplete (nI n ≤ m.1 50 10 0 s.toNatClampNeg) with c1 | c1
  case inr =>
    refine ⟨some (vI (-5)), sp_rx x (-5), sp_rm m (-5), ?_, ?_, ma_Iv_no sp_isb5 (ma_Iv_s hi)⟩
    · simp only [bk_81_0, bk_81_5, bk_81_10, bk_81_29, bk_81_32, bk_81_36, bk_81_41, bk_81_42, bk_81_53, bk_81_70, bk_81_81, bk_81_84, bk_81_91, bk_81_97, hr, c0, hF, z2, c1, n50, ma_if_pos hin, cx_refuse _ _ _ sp_isb5, ↓reduceIte, ma_bd_some, ma_bd_none, ma_tl1, ma_tl0, ma_ap1, ma_ap0, b2i_0, b2i_1, b2i_01, ma_l10, ma_l01, eq_self, true_or, or_true, not_true_eq_false, not_false_eq_true, Bool.false_eq_true]
    · simp only [bk_183_0, bk_183_5, bk_183_10, bk_183_23, bk_183_26, bk_183_30, bk_183_35, bk_183_36, bk_183_47, bk_183_54, bk_183_57, bk_183_64, bk_183_70, hw, c0, hFm, c1, n50, ma_if_pos hin, cm_no _ _ _ sp_isb5, ↓reduceIte, ma_bd_some, ma_bd_none, ma_tl1, ma_tl0, ma_ap1, ma_ap0, b2i_0, b2i_1, b2i_01, ma_l10, ma_l01, eq_self, true_or, or_true, not_true_eq_false, not_false_eq_true, Bool.false_eq_true]
  have l1 := ma_le.mp (of_eq_true c1)
  obtain ⟨z, s1, e1⟩ := cx_fits_loop (d + 2) t n s.toNatClampNeg s (sp_Q m s) x m ht hi hin rfl (by rw [z2]; exact z4) (by rw [z2]; omega) hn hF 4 0 0 x (by omega) (ma_sx_refl x)
  obtain ⟨y, s2, e2⟩ := cm_fits_loop d t n s (sp_Q m s) x m ht hi (by omega) hn hF 4 0 0 m (by omega) (ma_sm_refl m)
  have hH : sp_H n (x.1 2 0 0) (x.1 4 0) (fun r => Int64.toInt32 (x.2 s.toNatClampNeg r)) = sp_H n (x.1 2 0 0) (x.1 4 0) (fun r => Int64.toInt32 (m.2 10 (160 * s.toNatClampNeg + r))) := by
    funext ρ
    exact sp_had_congr (n := n) (fun _ _ => rfl) (fun r hr => by rw [z5 r (by omega)]) n 0 (by omega)
  rw [hH] at e1
  rw [nI_0] at e1 e2
  refine ⟨some (vI (sp_bt (sp_H n (x.1 2 0 0) (x.1 4 0) (fun r => Int64.toInt32 (m.2 10 (160 * s.toNatClampNeg + r)))) 4 0 0)), z, y, ?_, ?_, ma_Iv_m s2 (ma_Iv_x s1 (ma_Iv_s hi))⟩
  · simp only [bk_81_0, bk_81_5, bk_81_10, bk_81_29, bk_81_32, bk_81_36, bk_81_41, bk_81_42, bk_81_53, bk_81_70, bk_81_81, bk_81_84, bk_81_91, bk_81_97, hr, c0, hF, z2, c1, ma_if_pos hin, e1, ↓reduceIte, ma_bd_some, ma_bd_none, ma_tl1, ma_tl0, ma_ap1, ma_ap0, b2i_0, b2i_1, b2i_01, ma_l10, ma_l01, eq_self, true_or, or_true, not_true_eq_false, not_false_eq_true, Bool.false_eq_true]
  · simp only [bk_183_0, bk_183_5, bk_183_10, bk_183_23, bk_183_26, bk_183_30, bk_183_35, bk_183_36, bk_183_47, bk_183_54, bk_183_57, bk_183_64, bk_183_70, hw, c0, hFm, c1, ma_if_pos hin, e2, ↓reduceIte, ma_bd_some, ma_bd_none, ma_tl1, ma_tl0, ma_ap1, ma_ap0, b2i_0, b2i_1, b2i_01, ma_l10, ma_l01, eq_self, true_or, or_true, not_true_eq_false, not_false_eq_true, Bool.false_eq_true]
