/-! PART 42: calls: judge, done. -/
theorem ma_sx_h (x : ma_S) (i : Nat) (F : Nat → Int32) (G : Nat → Nat → Int32) (h0 : i ≠ 0) (h2 : i ≠ 2) : ma_sx x (ma_sh x i F G) := by
  refine ⟨?_, ?_, ?_, ?_, ?_, rfl, ?_, ?_, ?_, ?_⟩
  · funext j k; simp [ma_sh, Ne.symm h0]
  · funext j k; simp [ma_sh, Ne.symm h0]
  · funext j k; simp [ma_sh, Ne.symm h2]
  · funext j k; simp [ma_sh, Ne.symm h2]
  · funext i j k; simp [ma_sh]
  · funext i j k; simp [ma_sh]
  · funext i j k; simp [ma_sh]
  · funext j k; simp [ma_sh]
  · funext j k; simp [ma_sh]
/-- the model takes its hill back -/
theorem ma_sm_back (m : ma_S) (S : Nat → Int32) (T : Nat → Nat → Int32) (hS : ∀ q, 9 ≤ q → (q = 9 ∨ q = 45 ∨ q = 46) → S q = m.1 20 0 0 q) (hT : ∀ r q, 7 ≤ q → q ≤ 13 ∨ q = 16 ∨ q = 21 → T r q = ma_G m r q) (hp : ∀ j, j < 32 → T j 17 = sp_put (m.1 20 0 0) (ma_G m) 17 0 j 17) : ma_sm m (ma_mh m (sp_getF S T 17 0) (sp_getG T 17 0)) := by
  refine ⟨fun k hk => ?_, fun k r h1 hk => ?_, rfl⟩
  · rw [ma_mh_F]
    unfold sp_getF
    by_cases c : 1 ≤ k ∧ k ≤ 8
    · rw [if_pos c, hp _ (by omega)]
      unfold sp_put
      rw [if_pos (by omega), if_neg (by omega), show 0 + 23 + k - 0 - 23 = k by omega]
    · rw [if_neg c, hS k (by omega) (by omega)]
  · rw [ma_mh_A]
    unfold sp_getG
    by_cases c : 1 ≤ k ∧ k ≤ 6 ∧ r < 4
    · rw [if_pos c, hp _ (by omega)]
      unfold sp_put
      rw [if_pos (by omega), if_pos (by omega), show (0 + 4 * (k - 1) + r - 0) % 4 = r by omega, show (0 + 4 * (k - 1) + r - 0) / 4 + 1 = k by omega]
      rfl
    · rw [if_neg c, hT r k (by omega) (by omega)]
      rfl
/-- why a SHELF's ROW is refused -/
def sp_Q (m : ma_S) (s : Int32) : Int32 := if ¬ (0 ≤ s ∧ s < 8) then -1 else if m.1 50 8 0 s.toNatClampNeg = 2 then -2 else if m.1 50 8 0 s.toNatClampNeg = 0 then -3 else 0
theorem cx_rr (d t : Nat) (x m : ma_S) (s : Int32) (hi : ma_Iv t x m) : ma_cal (d + 2) 99 [vR 1 0 0, vI s] x = some (some (vI (sp_Q m s)), x) := by
  rw [cx_rowRefusal]
  unfold sp_Q
  by_cases h : 0 ≤ s ∧ s < 8
  · have hh : ¬ ¬ (0 ≤ s ∧ s < 8) := fun z => z h
    rw [if_neg hh, if_neg hh, ma_Iv_ref hi h]
  · rw [if_pos h, if_pos h]
theorem sp_Q_0 {t : Nat} {x m : ma_S} {s : Int32} (hi : ma_Iv t x m) (h : sp_Q m s = 0) : (0 ≤ s ∧ s < 8) ∧ m.1 50 8 0 s.toNatClampNeg = 1 := by
  unfold sp_Q at h
  by_cases c : 0 ≤ s ∧ s < 8
  · rw [if_neg (fun z => z c)] at h
    refine ⟨c, ?_⟩
    obtain ⟨_, hs, _⟩ := sp_in8 c
    rcases hi.2.1 s.toNatClampNeg hs with ⟨a, _⟩ | ⟨a, _⟩ | ⟨a, _⟩
    · rw [a] at h; exact absurd h (by decide)
    · rw [a] at h; exact absurd h (by decide)
    · exact a
  · rw [if_pos c] at h; exact absurd h (by decide)
theorem sp_Q_b {m : ma_S} {s : Int32} (h : ¬ sp_Q m s = 0) : sp_isb (sp_Q m s) := by
  unfold sp_Q at h ⊢
  split
  · exact sp_isb1
  split
  · exact sp_isb2
  split
  · exact sp_isb3
  · rename_i a b c
    rw [if_neg a, if_neg b, if_neg c] at h
    exact absurd rfl h
def sp_td (q z n : Int32) (kn : Bool) : Int32 := if ¬ q = 0 then q else if ¬ 0 ≤ n then -4 else if z < n ∨ ¬ kn = true then -5 else if n ≤ 60 then 0 else -6
theorem sp_td_b {q z n : Int32} {kn : Bool} (hq : ¬ q = 0 → sp_isb q) (h : ¬ sp_td q z n kn = 0) : sp_isb (sp_td q z n kn) := by
  unfold sp_td at h ⊢
  split
  · rename_i a; exact hq a
  split
  · exact sp_isb4
  split
  · exact sp_isb5
  split
  · rename_i a b c e
    rw [if_neg a, if_neg b, if_neg c, if_pos e] at h
    exact absurd rfl h
  · exact sp_isb6
theorem sp_td_0 {q z n : Int32} {kn : Bool} (h : sp_td q z n kn = 0) : q = 0 ∧ 0 ≤ n ∧ ¬ z < n ∧ kn = true ∧ n ≤ 60 := by
  unfold sp_td at h
  by_cases a : ¬ q = 0
  · rw [if_pos a] at h; exact absurd h a
  rw [if_neg a] at h
  by_cases b : ¬ 0 ≤ n
  · rw [if_pos b] at h; exact absurd h (by decide)
  rw [if_neg b] at h
  by_cases c : z < n ∨ ¬ kn = true
  · rw [if_pos c] at h; exact absurd h (by decide)
  rw [if_neg c] at h
  by_cases e : n ≤ 60
  · exact ⟨Decidable.of_not_not a, Decidable.of_not_not b, fun w => c (Or.inl w), Decidable.of_not_not (fun w => c (Or.inr w)), e⟩
  · rw [if_neg e] at h; exact absurd h (by decide)
theorem cx_told (d t : Nat) (x m : ma_S) (s n : Int32) (kn : Bool) (hi : ma_Iv t x m) : ma_cal (d + 3) 101 [vR 1 0 0, vI s, vI n, vI (b2i (kn = true))] x = some (some (vI (sp_td (sp_Q m s) (m.1 50 10 0 s.toNatClampNeg) n kn)), x) := by
  rw [en_101]
  have hr := cx_rr d t x m s hi
  unfold sp_td
  by_cases h : sp_Q m s = 0
  · obtain ⟨h8, h1⟩ := sp_Q_0 hi h
    obtain ⟨hin, hs, hz⟩ := sp_in8 h8
    have hsz : x.1 16 s.toNatClampNeg 0 2 = m.1 50 10 0 s.toNatClampNeg := by
      rcases hi.2.1 s.toNatClampNeg hs with ⟨a, _⟩ | ⟨a, _⟩ | ⟨_, _, _, _, a, _⟩
      · rw [a] at h1; exact absurd h1 (by decide)
      · rw [a] at h1; exact absurd h1 (by decide)
      · exact a
    rw [if_neg (fun z => z h)]
    rcases Classical.propComplete (0 ≤ n) with c1 | c1
    · rcases Classical.propComplete (m.1 50 10 0 s.toNatClampNeg < n) with c2 | c2
      · simp only [bk_101_0, bk_101_5, bk_101_15, bk_101_22, bk_101_39, hr, h, c1, hsz, c2, ma_if_pos hin, ↓reduceIte, ma_bd_some, ma_bd_none, ma_tl1, ma_tl0, ma_ap1, ma_ap0, b2i_0, b2i_1, b2i_01, ma_l10, ma_l01, eq_self, true_or, or_true, not_true_eq_false, not_false_eq_true, Bool.false_eq_true]
      · rcases Classical.propComplete (n ≤ 60) with c3 | c3 <;> cases kn
        all_goals
          simp (decide := true) only [bk_101_0, bk_101_5, bk_101_15, bk_101_22, bk_101_35, bk_101_39, bk_101_42, bk_101_48, bk_101_53, bk_101_54, hr, h, c1, hsz, c2, c3, ma_if_pos hin, ↓reduceIte, ma_bd_some, ma_bd_none, ma_tl1, ma_tl0, ma_ap1, ma_ap0, b2i_0, b2i_1, b2i_01, ma_l10, ma_l01, eq_self, true_or, or_true, not_true_eq_false, not_false_eq_true, Bool.false_eq_true, false_or, or_false]
    · simp only [bk_101_0, bk_101_5, bk_101_15, bk_101_19, hr, h, c1, ↓reduceIte, ma_bd_some, ma_bd_none, ma_tl1, ma_tl0, ma_ap1, ma_ap0, b2i_0, b2i_1, b2i_01, ma_l10, ma_l01, eq_self, true_or, or_true, not_true_eq_false, not_false_eq_true, Bool.false_eq_true]
  · rw [if_pos h]
    simp only [bk_101_0, bk_101_5, bk_101_12, hr, h, ↓reduceIte, ma_bd_some, ma_bd_none, ma_tl1, ma_tl0, ma_ap1, ma_ap0, b2i_0, b2i_1, b2i_01, ma_l10, ma_l01, eq_self, true_or, or_true, not_true_eq_false, not_false_eq_true, Bool.false_eq_true]
theorem cm_bars (d : Nat) (m : ma_S) (s n : Int32) : ma_cal (d + 3) 126 [vR 20 0 0, vI s, vI n] m = some (some (vI (if ¬ sp_Q m s = 0 then sp_Q m s else if ¬ 0 ≤ n then -4 else if m.1 50 10 0 s.toNatClampNeg < n then -5 else 0)), m) := by
  rw [en_126]
  have hw := cm_wanted d s m
  have hQ : (if ¬ (0 ≤ s ∧ s < 8) then (-1 : Int32) else if m.1 50 8 0 s.toNatClampNeg = 2 then -2 else if m.1 50 8 0 s.toNatClampNeg = 0 then -3 else 0) = sp_Q m s := rfl
  rw [hQ] at hw
  by_cases h : sp_Q m s = 0
  · have h8 : 0 ≤ s ∧ s < 8 := Decidable.of_not_not (fun c => by
      unfold sp_Q at h
      rw [if_pos c] at h
      exact absurd h (by decide))
    obtain ⟨hin, hs, hz⟩ := sp_in8 h8
    have e : (n ≤ m.1 50 10 0 s.toNatClampNeg) = ¬ (m.1 50 10 0 s.toNatClampNeg < n) := by apply propext; rw [ma_le, ma_lt]; omega
    rw [if_neg (fun z => z h)]
    rcases Classical.propComplete (0 ≤ n) with c1 | c1
    · rcases Classical.propComplete (m.1 50 10 0 s.toNatClampNeg < n) with c2 | c2
      all_goals simp only [bk_126_0, bk_126_5, bk_126_10, bk_126_12, bk_126_16, bk_126_21, bk_126_31, bk_126_36, bk_126_37, hw, h, c1, e, c2, ma_if_pos hin, ↓reduceIte, ma_bd_some, ma_bd_none, ma_tl1, ma_tl0, ma_ap1, ma_ap0, b2i_0, b2i_1, b2i_01, ma_l10, ma_l01, eq_self, true_or, or_true, not_true_eq_false, not_false_eq_true, Bool.false_eq_true]
    · simp only [bk_126_0, bk_126_5, bk_126_10, bk_126_12, bk_126_16, bk_126_21, bk_126_31, bk_126_36, bk_126_37, hw, h, c1, ↓reduceIte, ma_bd_some, ma_bd_none, ma_tl1, ma_tl0, ma_ap1, ma_ap0, b2i_0, b2i_1, b2i_01, ma_l10, ma_l01, eq_self, true_or, or_true, not_true_eq_false, not_false_eq_true, Bool.false_eq_true]
  · rw [if_pos h]
    simp only [bk_126_0, bk_126_5, bk_126_10, bk_126_12, bk_126_16, bk_126_21, bk_126_31, bk_126_36, bk_126_37, hw, h, ↓reduceIte, ma_bd_some, ma_bd_none, ma_tl1, ma_tl0, ma_ap1, ma_ap0, b2i_0, b2i_1, b2i_01, ma_l10, ma_l01, eq_self, true_or, or_true, not_true_eq_false, not_false_eq_true, Bool.false_eq_true]
theorem cm_barsOf (d : Nat) (m : ma_S) (s n : Int32) : ma_cal (d + 4) 178 [vR 20 0 0, vI s, vI n] m = some (some (vI (sp_td (sp_Q m s) (m.1 50 10 0 s.toNatClampNeg) n true)), m) := by
  rw [en_178]
  have hb := cm_bars d m s n
  have m4 : ((-4 : Int32) = 0) = False := by decide
  have m5 : ((-5 : Int32) = 0) = False := by decide
  unfold sp_td
  by_cases h : sp_Q m s = 0
  · rw [if_neg (fun z => z h)] at hb ⊢
    by_cases c1 : 0 ≤ n
    · rw [if_neg (fun z => z c1)] at hb ⊢
      by_cases c2 : m.1 50 10 0 s.toNatClampNeg < n
      · rw [if_pos c2] at hb
        rw [if_pos (Or.inl c2)]
        simp only [bk_178_0, bk_178_6, bk_178_11, bk_178_17, bk_178_22, bk_178_23, hb, m5, ↓reduceIte, ma_bd_some, ma_bd_none, ma_tl1, ma_tl0, ma_ap1, ma_ap0, b2i_0, b2i_1, b2i_01, ma_l10, ma_l01, eq_self, true_or, or_true, not_true_eq_false, not_false_eq_true, Bool.false_eq_true]
      · rw [if_neg c2] at hb
        have c3 : ¬ (m.1 50 10 0 s.toNatClampNeg < n ∨ ¬ true = true) := fun z => z.elim c2 (fun w => w rfl)
        rw [if_neg c3]
        by_cases c4 : n ≤ 60
        all_goals simp only [bk_178_0, bk_178_6, bk_178_11, bk_178_17, bk_178_22, bk_178_23, hb, c4, ↓reduceIte, ma_bd_some, ma_bd_none, ma_tl1, ma_tl0, ma_ap1, ma_ap0, b2i_0, b2i_1, b2i_01, ma_l10, ma_l01, eq_self, true_or, or_true, not_true_eq_false, not_false_eq_true, Bool.false_eq_true]
    · rw [if_pos c1] at hb ⊢
      simp only [bk_178_0, bk_178_6, bk_178_11, bk_178_17, bk_178_22, bk_178_23, hb, m4, ↓reduceIte, ma_bd_some, ma_bd_none, ma_tl1, ma_tl0, ma_ap1, ma_ap0, b2i_0, b2i_1, b2i_01, ma_l10, ma_l01, eq_self, true_or, or_true, not_true_eq_false, not_false_eq_true, Bool.false_eq_true]
  · rw [if_pos h] at hb ⊢
    simp only [bk_178_0, bk_178_6, bk_178_11, bk_178_17, bk_178_22, bk_178_23, hb, h, ↓reduceIte, ma_bd_some, ma_bd_none, ma_tl1, ma_tl0, ma_ap1, ma_ap0, b2i_0, b2i_1, b2i_01, ma_l10, ma_l01, eq_self, true_or, or_true, not_true_eq_false, not_false_eq_true, Bool.false_eq_true]
