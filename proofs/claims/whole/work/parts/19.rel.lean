/-! PART 19: one hill on both sides. -/
def ma_Re (F S : Nat → Int32) (G T : Nat → Nat → Int32) : Prop := (∀ k, 1 ≤ k → k ≤ 8 → F k = S k) ∧ (∀ r : Nat, (r : Int) < (F 1).toInt → ∀ k, 1 ≤ k → k ≤ 6 → G r k = T r k)
theorem ma_Re_refl (F : Nat → Int32) (G : Nat → Nat → Int32) : ma_Re F F G G := ⟨fun _ _ _ => rfl, fun _ _ _ _ _ => rfl⟩
theorem ma_Re_symm {F S : Nat → Int32} {G T : Nat → Nat → Int32} (h : ma_Re F S G T) : ma_Re S F T G := ⟨fun k h1 h2 => (h.1 k h1 h2).symm, fun r hr k h1 h2 => (h.2 r (by rw [h.1 1 (by omega) (by omega)]; exact hr) k h1 h2).symm⟩
theorem ma_Re_trans {F S U : Nat → Int32} {G T V : Nat → Nat → Int32} (h : ma_Re F S G T) (h' : ma_Re S U T V) : ma_Re F U G V := ⟨fun k h1 h2 => (h.1 k h1 h2).trans (h'.1 k h1 h2), fun r hr k h1 h2 => (h.2 r hr k h1 h2).trans (h'.2 r (by rw [← h.1 1 (by omega) (by omega)]; exact hr) k h1 h2)⟩
theorem sp_Re_ok {F S : Nat → Int32} {G T : Nat → Nat → Int32} (h : ma_Re F S G T) (hk : sp_ok F G) : sp_ok S T := by
  obtain ⟨hF, hG⟩ := h
  have f1 := hF 1 (by omega) (by omega)
  obtain ⟨a1, a2, a3, a4, a5, a6, a7, a8, hr⟩ := hk
  unfold sp_ok
  rw [← hF 1 (by omega) (by omega), ← hF 4 (by omega) (by omega), ← hF 6 (by omega) (by omega), ← hF 7 (by omega) (by omega)]
  refine ⟨a1, a2, a3, a4, a5, a6, a7, a8, fun r h => ?_⟩
  rw [← hG r h 1 (by omega) (by omega), ← hG r h 2 (by omega) (by omega), ← hG r h 3 (by omega) (by omega), ← hG r h 4 (by omega) (by omega)]
  exact hr r h
theorem sp_700 {m : Int32} (h : m.toInt = 700) : m = 700 := ma_eq.mpr h
theorem sp_Re_last {F S : Nat → Int32} {G T : Nat → Nat → Int32} {m : Int32} (h : ma_Re F S G T) (hm : sp_isM (F 1) m = true) : sp_last F G m = sp_last S T m := by
  rcases sp_ri_lt hm with h7 | ⟨hi, hj⟩
  · rw [sp_700 h7]
    have e0 : ((700 : Int32) / 100 = 0) = False := by decide
    have e1 : ((700 : Int32) / 100 = 1) = False := by decide
    have e2 : ((700 : Int32) / 100 = 2) = False := by decide
    have e3 : ((700 : Int32) / 100 = 3) = False := by decide
    have e4 : ((700 : Int32) / 100 = 4) = False := by decide
    have e5 : ((700 : Int32) / 100 = 5) = False := by decide
    have e6 : ((700 : Int32) / 100 = 6) = False := by decide
    simp only [sp_last, e0, e1, e2, e3, e4, e5, e6, if_false]
  · obtain ⟨hF, hG⟩ := h
    have i1 := hG _ hi 1 (by omega) (by omega)
    have i4 := hG _ hi 4 (by omega) (by omega)
    have f6 := hF 6 (by omega) (by omega)
    have f7 := hF 7 (by omega) (by omega)
    unfold sp_last
    rw [i1, i4, f6, f7]
    by_cases ht : sp_two (m / 100) = true
    · have j1 := hG _ (hj ht) 1 (by omega) (by omega)
      have j4 := hG _ (hj ht) 4 (by omega) (by omega)
      rw [j1, j4]
    · have n1 : ¬ m / 100 = 1 := fun e => ht (by rw [e]; rfl)
      have n3 : ¬ m / 100 = 3 := fun e => ht (by rw [e]; rfl)
      simp only [n1, n3, if_false]
theorem sp_Re_may {F S : Nat → Int32} {G T : Nat → Nat → Int32} (m : Int32) (h : ma_Re F S G T) : sp_may F G m = sp_may S T m := by
  have f1 := h.1 1 (by omega) (by omega)
  by_cases hm : sp_isM (F 1) m = true
  · have hl := sp_Re_last h hm
    have f2 := h.1 2 (by omega) (by omega)
    have f3 := h.1 3 (by omega) (by omega)
    have f4 := h.1 4 (by omega) (by omega)
    have f5 := h.1 5 (by omega) (by omega)
    unfold sp_may
    rw [hl, f1, f2, f3, f4, f5]
    rcases sp_ri_lt hm with h7 | ⟨hi, hj⟩
    · rw [sp_700 h7]
      have e0 : ((700 : Int32) / 100 = 0) = False := by decide
      have e1 : ((700 : Int32) / 100 = 1) = False := by decide
      have e2 : ((700 : Int32) / 100 = 2) = False := by decide
      have e3 : ((700 : Int32) / 100 = 3) = False := by decide
      have e4 : ((700 : Int32) / 100 = 4) = False := by decide
      have e5 : ((700 : Int32) / 100 = 5) = False := by decide
      have e6 : ((700 : Int32) / 100 = 6) = False := by decide
      simp only [e0, e1, e2, e3, e4, e5, e6, if_false]
    · have i3 := h.2 _ hi 3 (by omega) (by omega)
      rw [i3]
      by_cases ht : sp_two (m / 100) = true
      · rw [h.2 _ (hj ht) 3 (by omega) (by omega)]
      · have n1 : ¬ m / 100 = 1 := fun e => ht (by rw [e]; rfl)
        have n3 : ¬ m / 100 = 3 := fun e => ht (by rw [e]; rfl)
        simp only [n1, n3, if_false]
  · have e : ∀ (F : Nat → Int32) (G : Nat → Nat → Int32), ¬ sp_isM (F 1) m = true → sp_may F G m = false := fun F G hm => by
      unfold sp_may
      rw [decide_eq_false_iff_not]
      exact fun z => hm z.1
    rw [e F G hm, e S T (by rw [← f1]; exact hm)]
theorem sp_along_congr {o : Int32} {R S : Nat → Int32} (h : ∀ k, 1 ≤ k → k ≤ 6 → R k = S k) : ∀ k, 1 ≤ k → k ≤ 6 → sp_along o R k = sp_along o S k := by
  intro k h1 h2
  have e1 := h 1 (by omega) (by omega)
  have e2 := h 2 (by omega) (by omega)
  have e3 := h 3 (by omega) (by omega)
  have e4 := h 4 (by omega) (by omega)
  have e5 := h 5 (by omega) (by omega)
  simp only [sp_along, sp_more, e1, e2, e3, e4, e5, h k h1 h2]
theorem sp_rest_congr {o t : Int32} {R S : Nat → Int32} (h : ∀ k, 1 ≤ k → k ≤ 6 → R k = S k) : ∀ k, 1 ≤ k → k ≤ 6 → sp_rest o t R k = sp_rest o t S k := by
  intro k h1 h2
  have e4 := h 4 (by omega) (by omega)
  have e6 := h 6 (by omega) (by omega)
  simp only [sp_rest, e4, e6, h k h1 h2]
theorem sp_mvF_1 (F : Nat → Int32) (G : Nat → Nat → Int32) (m : Int32) : sp_mvF F G m 1 = F 1 := rfl
theorem sp_Re_mv {F S : Nat → Int32} {G T : Nat → Nat → Int32} {m : Int32} (h : ma_Re F S G T) (hm : sp_isM (F 1) m = true) : ma_Re (sp_mvF F G m) (sp_mvF S T m) (sp_mvG F G m) (sp_mvG S T m) := by
  have hl := sp_Re_last h hm
  have f1 := h.1 1 (by omega) (by omega)
  constructor
  · intro k h1 h2
    have f2 := h.1 2 (by omega) (by omega)
    have f3 := h.1 3 (by omega) (by omega)
    have f4 := h.1 4 (by omega) (by omega)
    have f5 := h.1 5 (by omega) (by omega)
    have fk := h.1 k h1 h2
    unfold sp_mvF sp_sl
    simp only [upd, hl, f2, f3, f4, f5, fk]
  · intro r hr k h1 h2
    rw [sp_mvF_1] at hr
    unfold sp_mvG
    rw [if_pos hr, if_pos (by rw [← f1]; exact hr), hl]
    unfold sp_step
    split
    · exact sp_along_congr (h.2 r hr) k h1 h2
    · exact sp_rest_congr (h.2 r hr) k h1 h2
theorem sp_pby_b {k a : Int32} (h1 : 0 ≤ a.toInt) (h2 : a.toInt ≤ 9) : 0 ≤ (sp_pby k a).toInt ∧ (sp_pby k a).toInt ≤ 17 := by
  unfold sp_pby
  have e8 : (8 : Int32).toInt = 8 := rfl
  have := ma_add (a := 8) (b := a) (by omega) (by omega)
  split
  · decide
  · omega
theorem sp_more_b {o : Int32} {R : Nat → Int32} (h1 : 0 ≤ (R 2).toInt) (h2 : (R 2).toInt ≤ 9) : 0 ≤ (sp_more o R).toInt ∧ (sp_more o R).toInt ≤ 17 := by
  have hp := sp_pby_b (k := R 1) h1 h2
  unfold sp_more
  split
  · exact hp
  split
  · have : (sp_pby (R 1) (R 2) / 2).toInt = (sp_pby (R 1) (R 2)).toInt / 2 := ma_div (by omega) (by decide)
    omega
  split <;> decide
theorem sp_may_last {F : Nat → Int32} {G : Nat → Nat → Int32} {m : Int32} (hm : sp_may F G m = true) : (sp_last F G m).toInt ≤ (F 4).toInt := ma_le.mp ((sp_may_iff F G m).mp hm).2.1
theorem sp_mv_ok {F : Nat → Int32} {G : Nat → Nat → Int32} {m : Int32} (hk : sp_ok F G) (hm : sp_may F G m = true) : sp_ok (sp_mvF F G m) (sp_mvG F G m) := by
  have hM := ((sp_may_iff F G m).mp hm).1
  have hl := sp_may_last hm
  have hp := sp_last_pos hk hM
  obtain ⟨a1, a2, a3, a4, a5, a6, a7, a8, hr⟩ := hk
  have e4 : sp_mvF F G m 4 = F 4 - sp_last F G m := rfl
  have e6 : sp_mvF F G m 6 = F 6 := rfl
  have e7 : sp_mvF F G m 7 = F 7 := rfl
  have s4 := ma_sub (a := F 4) (b := sp_last F G m) (by omega) (by omega)
  unfold sp_ok
  rw [sp_mvF_1, e4, e6, e7]
  refine ⟨a1, a2, by omega, by omega, a5, a6, a7, a8, fun r hlt => ?_⟩
  obtain ⟨b1, b2, b3, b4⟩ := hr r hlt
  unfold sp_mvG
  rw [if_pos hlt]
  unfold sp_step
  split
  · have c1 : sp_along (m / 100) (G r) 1 = G r 1 := rfl
    have c2 : sp_along (m / 100) (G r) 2 = G r 2 := rfl
    have c3 : sp_along (m / 100) (G r) 3 = if G r 3 = 1 then 0 else 1 := rfl
    have c4 : sp_along (m / 100) (G r) 4 = sp_cap (G r 4 + sp_more (m / 100) (G r)) := rfl
    rw [c1, c2, c3, c4]
    refine ⟨b1, b2, ?_, ?_⟩
    · split
      · exact Or.inl rfl
      · exact Or.inr rfl
    · have hmb := sp_more_b (o := m / 100) (R := G r) b2.1 b2.2
      have := ma_add (a := G r 4) (b := sp_more (m / 100) (G r)) (by omega) (by omega)
      unfold sp_cap
      split
      · decide
      · rename_i h
        rw [ma_lt] at h
        have e99 : (99 : Int32).toInt = 99 := rfl
        omega
  · have c1 : sp_rest (m / 100) (sp_last F G m) (G r) 1 = G r 1 := rfl
    have c2 : sp_rest (m / 100) (sp_last F G m) (G r) 2 = G r 2 := rfl
    have c3 : sp_rest (m / 100) (sp_last F G m) (G r) 3 = G r 3 := rfl
    have c4 : sp_rest (m / 100) (sp_last F G m) (G r) 4 = sp_sub (G r 4) (sp_last F G m) := rfl
    rw [c1, c2, c3, c4]
    refine ⟨b1, b2, b3, ?_⟩
    unfold sp_sub
    split
    · decide
    · rename_i h
      rw [ma_le] at h
      have := ma_sub (a := G r 4) (b := sp_last F G m) (by omega) (by omega)
      omega
/-- how many runs each has had at most -/
def sp_rb2 (b : Int) (F : Nat → Int32) (G : Nat → Nat → Int32) : Prop := ∀ r : Nat, (r : Int) < (F 1).toInt → 0 ≤ (G r 5).toInt ∧ (G r 5).toInt ≤ b
theorem sp_rb2_mv {b : Int} {F : Nat → Int32} {G : Nat → Nat → Int32} (m : Int32) (hb : b < 100000000) (h : sp_rb2 b F G) : sp_rb2 (b + 1) (sp_mvF F G m) (sp_mvG F G m) := by
  intro r hr
  rw [sp_mvF_1] at hr
  obtain ⟨h1, h2⟩ := h r hr
  unfold sp_mvG
  rw [if_pos hr]
  unfold sp_step
  split
  · have c5 : sp_along (m / 100) (G r) 5 = if m / 100 = 0 ∨ m / 100 = 1 then G r 5 + 1 else G r 5 := rfl
    rw [c5]
    have e1 : (1 : Int32).toInt = 1 := rfl
    have := ma_add (a := G r 5) (b := 1) (by omega) (by omega)
    split
    · omega
    · omega
  · have c5 : sp_rest (m / 100) (sp_last F G m) (G r) 5 = G r 5 := rfl
    rw [c5]; omega
theorem sp_rb2_Re {b : Int} {F S : Nat → Int32} {G T : Nat → Nat → Int32} (h : ma_Re F S G T) (hb : sp_rb2 b F G) : sp_rb2 b S T := by
  intro r hr
  rw [← h.1 1 (by omega) (by omega)] at hr
  rw [← h.2 r hr 5 (by omega) (by omega)]
  exact hb r hr
