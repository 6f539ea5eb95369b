/-! PART 67: HILLS from texts: letters, words, numbers; the class's reader. -/
def ma_rd (x : ma_S) (R L F : Nat → Int32) (G : Nat → Nat → Int32) : ma_S := (fun g i j k => if g = 7 ∧ i = 0 ∧ j = 0 then R k else if g = 50 ∧ i = 120 ∧ j = 0 then L k else if g = 2 ∧ i = 4 ∧ j = 0 then F k else if g = 4 ∧ i = 4 then G j k else x.1 g i j k, x.2)
section RD
variable (x : ma_S) (R L F : Nat → Int32) (G : Nat → Nat → Int32)
theorem ma_rd_id : ma_rd x (x.1 7 0 0) (x.1 50 120 0) (x.1 2 4 0) (x.1 4 4) = x := by
  refine ma_S_ext (fun g i j k => ?_) (fun _ _ => rfl)
  simp only [ma_rd]
  split
  · rename_i h; obtain ⟨rfl, rfl, rfl⟩ := h; rfl
  split
  · rename_i h; obtain ⟨rfl, rfl, rfl⟩ := h; rfl
  split
  · rename_i h; obtain ⟨rfl, rfl, rfl⟩ := h; rfl
  split
  · rename_i h; obtain ⟨rfl, rfl⟩ := h; rfl
  · rfl
theorem ma_rd_R (k : Nat) : (ma_rd x R L F G).1 7 0 0 k = R k := by simp [ma_rd]
theorem ma_rd_L (k : Nat) : (ma_rd x R L F G).1 50 120 0 k = L k := by simp [ma_rd]
theorem ma_rd_Fk (k : Nat) : (ma_rd x R L F G).1 2 4 0 k = F k := by simp [ma_rd]
theorem ma_rd_F : (ma_rd x R L F G).1 2 4 0 = F := by funext k; simp [ma_rd]
theorem ma_rd_G : (ma_rd x R L F G).1 4 4 = G := by funext r k; simp [ma_rd]
theorem ma_rd_uR (k : Nat) (v : Int32) : ma_u (ma_rd x R L F G) 7 0 0 k v = ma_rd x (upd R k v) L F G := by
  refine ma_S_ext (fun g i j k' => ?_) (fun _ _ => rfl)
  simp only [ma_u, ma_rd, upd]
  by_cases h : g = 7 ∧ i = 0 ∧ j = 0
  · obtain ⟨rfl, rfl, rfl⟩ := h; simp
  · rw [if_neg (fun z => h ⟨z.1, z.2.1, z.2.2.1⟩), if_neg h, if_neg h]
theorem ma_rd_uL (k : Nat) (v : Int32) : ma_u (ma_rd x R L F G) 50 120 0 k v = ma_rd x R (upd L k v) F G := by
  refine ma_S_ext (fun g i j k' => ?_) (fun _ _ => rfl)
  simp only [ma_u, ma_rd, upd]
  by_cases h : g = 50 ∧ i = 120 ∧ j = 0
  · obtain ⟨rfl, rfl, rfl⟩ := h; simp
  · rw [if_neg (fun z => h ⟨z.1, z.2.1, z.2.2.1⟩), if_neg h, if_neg h]
theorem ma_rd_sh (F' : Nat → Int32) (G' : Nat → Nat → Int32) : ma_sh (ma_rd x R L F G) 4 F' G' = ma_rd x R L F' G' := by
  refine ma_S_ext (fun g i j k => ?_) (fun _ _ => rfl)
  simp only [ma_sh, ma_rd]
  repeat' split
  all_goals first | rfl | (exfalso; omega)
theorem ma_rd_uF (k : Nat) (v : Int32) : ma_u (ma_rd x R L F G) 2 4 0 k v = ma_rd x R L (upd F k v) G := by
  rw [ma_sh_u, ma_rd_F, ma_rd_G, ma_rd_sh]
theorem ma_rd_uG (r k : Nat) (v : Int32) : ma_u (ma_rd x R L F G) 4 4 r k v = ma_rd x R L F (ma_uG G r (upd (G r) k v)) := by
  rw [ma_sh_ur, ma_rd_F, ma_rd_G, ma_rd_sh]
theorem ma_sx_rd : ma_sx x (ma_rd x R L F G) := by
  refine ⟨?_, ?_, ?_, ?_, ?_, rfl, ?_, ?_, ?_, ?_⟩
  all_goals (try funext i) <;> (try funext j) <;> (try funext k) <;> simp [ma_rd]
end RD
/-- a letter, or -1 behind the end -/
def sp_lt (L : Nat → Int32) (Z p : Nat) : Int32 := if p < Z then L p else -1
def sp_dg (L : Nat → Int32) (Z : Nat) : Nat → Nat → Int32 → Nat × Int32
  | 0, p, v => (p, v)
  | c + 1, p, v => if 48 ≤ sp_lt L Z p ∧ sp_lt L Z p ≤ 57 then sp_dg L Z c (p + 1) (10 * v + sp_lt L Z p - 48) else (p, v)
/-- a blank and a number: the fault's place, or where it ends and what it is -/
def sp_rn (L : Nat → Int32) (Z : Nat) (l h : Int32) (a : Nat) : Nat ⊕ (Nat × Int32) := if sp_lt L Z a = 32 then (if (sp_dg L Z 3 (a + 1) 0).1 = a + 1 ∨ (sp_dg L Z 3 (a + 1) 0).2 < l ∨ h < (sp_dg L Z 3 (a + 1) 0).2 then .inl (a + 1) else .inr (sp_dg L Z 3 (a + 1) 0)) else .inl a
theorem sp_dg_le (L : Nat → Int32) (Z : Nat) : ∀ c p v, p ≤ (sp_dg L Z c p v).1 ∧ (sp_dg L Z c p v).1 ≤ p + c := by
  intro c
  induction c with
  | zero => intro p v; exact ⟨Nat.le_refl _, Nat.le_refl _⟩
  | succ c ih =>
    intro p v
    unfold sp_dg
    split
    · have := ih (p + 1) (10 * v + sp_lt L Z p - 48)
      omega
    · exact ⟨Nat.le_refl _, by show p ≤ _; omega⟩
theorem sp_dg_b (L : Nat → Int32) (Z : Nat) : ∀ c p v, c ≤ 3 → 0 ≤ v.toInt → v.toInt < 10 ^ (3 - c) → 0 ≤ (sp_dg L Z c p v).2.toInt ∧ (sp_dg L Z c p v).2.toInt ≤ 999 := by
  have e48 : (48 : Int32).toInt = 48 := rfl
  have e57 : (57 : Int32).toInt = 57 := rfl
  have e10 : (10 : Int32).toInt = 10 := rfl
  have step : ∀ (v w : Int32) (B : Int), 0 ≤ v.toInt → v.toInt < B → B ≤ 100 → 48 ≤ w → w ≤ 57 → 0 ≤ (10 * v + w - 48).toInt ∧ (10 * v + w - 48).toInt < 10 * B := fun v w B h1 h2 h3 h4 h5 => by
    rw [ma_le] at h4 h5
    have m1 : (10 * v).toInt = 10 * v.toInt := by rw [ma_mul (by rw [e10]; omega) (by rw [e10]; omega), e10]
    have a1 := ma_add (a := 10 * v) (b := w) (by omega) (by omega)
    have s1 := ma_sub (a := 10 * v + w) (b := 48) (by omega) (by omega)
    omega
  intro c
  induction c with
  | zero =>
    intro p v _ h1 h2
    have : (10 : Int) ^ (3 - 0) = 1000 := rfl
    exact ⟨h1, by show v.toInt ≤ 999; omega⟩
  | succ c ih =>
    intro p v hc h1 h2
    unfold sp_dg
    have hB : (10 : Int) ^ (3 - (c + 1)) ≤ 100 := by
      rcases c with _|_|_|c
      all_goals first | omega | decide
    have hB2 : (10 : Int) ^ (3 - c) = 10 * 10 ^ (3 - (c + 1)) := by
      rw [show 3 - c = (3 - (c + 1)) + 1 by omega, Int.pow_succ, Int.mul_comm]
    split
    · rename_i h
      have s := step v (sp_lt L Z p) _ h1 h2 hB h.1 h.2
      rw [← hB2] at s
      exact ih (p + 1) _ (by omega) s.1 s.2
    · exact ⟨h1, by show v.toInt ≤ 999; omega⟩
section RX
variable (d Z : Nat) (x : ma_S) (L F : Nat → Int32) (G : Nat → Nat → Int32)
theorem cx_letterAt (R : Nat → Int32) (p : Nat) (hZ : R 2 = nI Z) (h160 : Z ≤ 160) (hp : p < 2 ^ 31) : ma_cal (d + 1) 32 [vR 7 0 0, vI (nI p)] (ma_rd x R L F G) = some (some (vI (sp_lt L Z p)), ma_rd x R L F G) := by
  have c0 : (nI p < 0) = False := eq_false (nI_pos hp)
  have hpi := nI_toInt hp
  have hcl : (nI p).toNatClampNeg = p := nI_clamp hp
  rw [en_32]
  unfold sp_lt
  by_cases c : p < Z
  · have hin : ma_in (nI p) 160 := ma_inI (by omega) (by omega)
    have c1 : (nI Z ≤ nI p) = False := eq_false (nI_ge c (by omega))
    rw [if_pos c]
    simp only [bk_32_0, bk_32_4, bk_32_12, bk_32_21, bk_32_22, ma_rd_R, hZ, c0, c1, ma_if_pos hin, hcl, ma_rd_L, ↓reduceIte, ma_bd_some, ma_bd_none, ma_tl1, ma_tl0, ma_ap1, ma_ap0, b2i_0, b2i_1, b2i_01, ma_l10, ma_l01, eq_self, true_or, or_true, not_true_eq_false, not_false_eq_true, Bool.false_eq_true]
  · have c1 : (nI Z ≤ nI p) = True := eq_true (nI_le (by omega) hp)
    rw [if_neg c]
    simp only [bk_32_0, bk_32_4, bk_32_12, bk_32_21, bk_32_22, ma_rd_R, hZ, c0, c1, ↓reduceIte, ma_bd_some, ma_bd_none, ma_tl1, ma_tl0, ma_ap1, ma_ap0, b2i_0, b2i_1, b2i_01, ma_l10, ma_l01, eq_self, true_or, or_true, not_true_eq_false, not_false_eq_true, Bool.false_eq_true]
theorem cx_expect (R : Nat → Int32) (a : Nat) (c : Int32) (hZ : R 2 = nI Z) (h160 : Z ≤ 160) (ha : a < 100000) (h3 : R 3 = nI a) (h4 : R 4 = -1) : ma_cal (d + 2) 31 [vR 7 0 0, vI c] (ma_rd x R L F G) = some (none, ma_rd x (if sp_lt L Z a = c then upd R 3 (nI (a + 1)) else upd (upd R 4 (nI a)) 3 (nI (a + 1))) L F G) := by
  have hl := cx_letterAt d Z x L F G R a hZ h160 (by omega)
  rw [en_31]
  have u3 : upd R 4 (nI a) 3 = R 3 := rfl
  rcases Classical.propComplete (sp_lt L Z a = c) with c1 | c1
  · rw [if_pos (of_eq_true c1)]
    simp only [bk_31_0, bk_31_8, bk_31_16, bk_31_20, bk_31_28, ma_rd_R, h4, h3, hl, c1, ma_rd_uR, nI_1, ↓reduceIte, ma_bd_some, ma_bd_none, ma_tl1, ma_tl0, ma_ap1, ma_ap0, b2i_0, b2i_1, b2i_01, ma_l10, ma_l01, eq_self, true_or, or_true, not_true_eq_false, not_false_eq_true, Bool.false_eq_true]
  · rw [if_neg (of_eq_false c1)]
    simp only [bk_31_0, bk_31_8, bk_31_16, bk_31_20, bk_31_28, ma_rd_R, h4, h3, hl, c1, ma_rd_uR, u3, nI_1, ↓reduceIte, ma_bd_some, ma_bd_none, ma_tl1, ma_tl0, ma_ap1, ma_ap0, b2i_0, b2i_1, b2i_01, ma_l10, ma_l01, eq_self, true_or, or_true, not_true_eq_false, not_false_eq_true, Bool.false_eq_true]
theorem cx_expect_f (R : Nat → Int32) (c : Int32) (h4 : R 4 ≠ -1) : ma_cal (d + 2) 31 [vR 7 0 0, vI c] (ma_rd x R L F G) = some (none, ma_rd x (upd R 3 (R 3 + 1)) L F G) := by
  have c1 := eq_false h4
  rw [en_31]
  simp only [bk_31_0, bk_31_8, bk_31_16, bk_31_20, bk_31_28, ma_rd_R, c1, ma_rd_uR, ↓reduceIte, ma_bd_some, ma_bd_none, ma_tl1, ma_tl0, ma_ap1, ma_ap0, b2i_0, b2i_1, b2i_01, ma_l10, ma_l01, eq_self, true_or, or_true, not_true_eq_false, not_false_eq_true, Bool.false_eq_true]
theorem cx_digits (l h : Int32) (b : Nat) (hb : b < 1000) (h160 : Z ≤ 160) : ∀ (c p : Nat) (v : Int32) (R : Nat → Int32), p + c = b + 3 → R 2 = nI Z → R 3 = nI p → R 5 = nI b → ma_ex (d + 1) 30 26 [some (vR 7 0 0), some (vI l), some (vI h), some (vI v)] [] (ma_rd x R L F G) = ma_ex (d + 1) 30 95 [some (vR 7 0 0), some (vI l), some (vI h), some (vI (sp_dg L Z c p v).2)] [] (ma_rd x (upd R 3 (nI (sp_dg L Z c p v).1)) L F G) := by
  have h3a : ∀ k : Nat, nI k + 3 = nI (k + 3) := fun k => nI_add k 3
  have uid : ∀ R : Nat → Int32, ∀ p, R 3 = nI p → upd R 3 (nI p) = R := fun R p e => by
    funext q
    unfold upd
    split
    · rename_i z; subst z; exact e.symm
    · rfl
  intro c
  induction c with
  | zero =>
    intro p v R hp h2 h3 h5
    have e : p = b + 3 := by omega
    subst e
    have e2 : sp_dg L Z 0 (b + 3) v = (b + 3, v) := rfl
    rw [e2, bk_30_26, ma_rd_R, ma_rd_R, h5, h3, h3a, if_pos (nI_le (Nat.le_refl _) (by omega)), uid R _ h3]
  | succ c ih =>
    intro p v R hp h2 h3 h5
    have hl := cx_letterAt d Z x L F G R p h2 h160 (by omega)
    rw [bk_30_26, ma_rd_R, ma_rd_R, h5, h3, h3a, if_neg (nI_ge (by omega) (by omega))]
    have hst : sp_dg L Z (c + 1) p v = if 48 ≤ sp_lt L Z p ∧ sp_lt L Z p ≤ 57 then sp_dg L Z c (p + 1) (10 * v + sp_lt L Z p - 48) else (p, v) := rfl
    rw [hst]
    rcases Classical.propComplete (48 ≤ sp_lt L Z p) with c1 | c1
    · rcases Classical.propComplete (sp_lt L Z p ≤ 57) with c2 | c2
      · have hi := ih (p + 1) (10 * v + sp_lt L Z p - 48) (upd R 3 (nI (p + 1))) (by omega) h2 rfl h5
        have uu : ∀ w, upd (upd R 3 (nI (p + 1))) 3 w = upd R 3 w := fun w => by
          funext q; unfold upd; split <;> rfl
        rw [uu] at hi
        rw [if_pos ⟨of_eq_true c1, of_eq_true c2⟩, ← hi]
        simp only [bk_30_39, bk_30_47, bk_30_52, bk_30_60, bk_30_65, bk_30_77, ma_rd_R, h3, hl, ma_nlt (sp_lt L Z p) 48, ma_nlt 57 (sp_lt L Z p), c1, c2, ma_rd_uR, nI_1, ↓reduceIte, ma_bd_some, ma_bd_none, ma_tl1, ma_tl0, ma_ap1, ma_ap0, b2i_0, b2i_1, b2i_01, ma_l10, ma_l01, eq_self, true_or, or_true, not_true_eq_false, not_false_eq_true, Bool.false_eq_true]
      · rw [if_neg (fun z => of_eq_false c2 z.2), uid R _ h3]
        simp only [bk_30_39, bk_30_47, bk_30_52, bk_30_60, ma_rd_R, h3, hl, ma_nlt (sp_lt L Z p) 48, ma_nlt 57 (sp_lt L Z p), c1, c2, ↓reduceIte, ma_bd_some, ma_bd_none, ma_tl1, ma_tl0, ma_ap1, ma_ap0, b2i_0, b2i_1, b2i_01, ma_l10, ma_l01, eq_self, true_or, or_true, not_true_eq_false, not_false_eq_true, Bool.false_eq_true]
    · rw [if_neg (fun z => of_eq_false c1 z.1), uid R _ h3]
      simp only [bk_30_39, bk_30_47, ma_rd_R, h3, hl, ma_nlt (sp_lt L Z p) 48, c1, ↓reduceIte, ma_bd_some, ma_bd_none, ma_tl1, ma_tl0, ma_ap1, ma_ap0, b2i_0, b2i_1, b2i_01, ma_l10, ma_l01, eq_self, true_or, or_true, not_true_eq_false, not_false_eq_true, Bool.false_eq_true]
theorem cx_readNumber (R : Nat → Int32) (a : Nat) (l h : Int32) (hZ : R 2 = nI Z) (h160 : Z ≤ 160) (ha : a < 500) (h3 : R 3 = nI a) (h4 : R 4 = -1) : (∀ f, sp_rn L Z l h a = .inl f → ∃ R' : Nat → Int32, ma_cal (d + 3) 30 [vR 7 0 0, vI l, vI h] (ma_rd x R L F G) = some (some (vI (-1)), ma_rd x R' L F G) ∧ R' 2 = nI Z ∧ R' 4 = nI f) ∧ (∀ p v, sp_rn L Z l h a = .inr (p, v) → ∃ R' : Nat → Int32, ma_cal (d + 3) 30 [vR 7 0 0, vI l, vI h] (ma_rd x R L F G) = some (some (vI v), ma_rd x R' L F G) ∧ R' 2 = nI Z ∧ R' 4 = -1 ∧ R' 3 = nI p ∧ R' 5 = nI (a + 1)) := by
  have hex := cx_expect d Z x L F G R a 32 hZ h160 (by omega) h3 h4
  unfold sp_rn
  by_cases c1 : sp_lt L Z a = 32
  · rw [if_pos c1] at hex ⊢
    have hdg := cx_digits (d + 1) Z x L F G l h (a + 1) (by omega) h160 3 (a + 1) 0 (upd (upd R 3 (nI (a + 1))) 5 (nI (a + 1))) rfl hZ rfl rfl
    have hle := sp_dg_le L Z 3 (a + 1) 0
    generalize hq : sp_dg L Z 3 (a + 1) 0 = q at hdg hle
    obtain ⟨p, v⟩ := q
    simp only at hdg hle ⊢
    have pre : ma_cal (d + 3) 30 [vR 7 0 0, vI l, vI h] (ma_rd x R L F G) = ma_ex (d + 2) 30 95 [some (vR 7 0 0), some (vI l), some (vI h), some (vI v)] [] (ma_rd x (upd (upd (upd R 3 (nI (a + 1))) 5 (nI (a + 1))) 3 (nI p)) L F G) := by
      rw [← hdg, en_30]
      have u4 : upd R 3 (nI (a + 1)) 4 = -1 := h4
      have u3 : upd R 3 (nI (a + 1)) 3 = nI (a + 1) := rfl
      simp only [bk_30_0, bk_30_6, bk_30_16, hex, ma_rd_R, u4, u3, ma_rd_uR, ↓reduceIte, ma_bd_some, ma_bd_none, ma_tl1, ma_tl0, ma_ap1, ma_ap0, b2i_0, b2i_1, b2i_01, ma_l10, ma_l01, eq_self, true_or, or_true, not_true_eq_false, not_false_eq_true, Bool.false_eq_true]
    have v3 : upd (upd (upd R 3 (nI (a + 1))) 5 (nI (a + 1))) 3 (nI p) 3 = nI p := rfl
    have v5 : upd (upd (upd R 3 (nI (a + 1))) 5 (nI (a + 1))) 3 (nI p) 5 = nI (a + 1) := rfl
    have epa : (nI p = nI (a + 1)) = (p = a + 1) := propext (nI_eq (by omega) (by omega))
    by_cases c2 : p = a + 1 ∨ v < l ∨ h < v
    · rw [if_pos c2]
      refine ⟨fun f e => ?_, fun p v e => by cases e⟩
      cases e
      refine ⟨upd (upd (upd (upd R 3 (nI (a + 1))) 5 (nI (a + 1))) 3 (nI p)) 4 (nI (a + 1)), ?_, hZ, rfl⟩
      rw [pre]
      rcases Classical.propComplete (p = a + 1) with e1 | e1
      · simp only [bk_30_95, bk_30_116, ma_rd_R, v3, v5, epa, e1, ma_rd_uR, ↓reduceIte, ma_bd_some, ma_bd_none, ma_tl1, ma_tl0, ma_ap1, ma_ap0, b2i_0, b2i_1, b2i_01, ma_l10, ma_l01, eq_self, true_or, or_true, not_true_eq_false, not_false_eq_true, Bool.false_eq_true]
      · rcases Classical.propComplete (v < l) with e2 | e2
        · simp only [bk_30_95, bk_30_106, bk_30_116, ma_rd_R, v3, v5, epa, e1, e2, ma_rd_uR, ↓reduceIte, ma_bd_some, ma_bd_none, ma_tl1, ma_tl0, ma_ap1, ma_ap0, b2i_0, b2i_1, b2i_01, ma_l10, ma_l01, eq_self, true_or, or_true, not_true_eq_false, not_false_eq_true, Bool.false_eq_true]
        · have e3 : (v ≤ h) = False := eq_false (fun z => by
            rcases c2 with w | w | w
            · exact of_eq_false e1 w
            · exact of_eq_false e2 w
            · rw [ma_lt] at w; rw [ma_le] at z; omega)
          simp only [bk_30_95, bk_30_106, bk_30_111, bk_30_116, ma_rd_R, v3, v5, epa, e1, e2, e3, ma_rd_uR, ↓reduceIte, ma_bd_some, ma_bd_none, ma_tl1, ma_tl0, ma_ap1, ma_ap0, b2i_0, b2i_1, b2i_01, ma_l10, ma_l01, eq_self, true_or, or_true, not_true_eq_false, not_false_eq_true, Bool.false_eq_true]
    · rw [if_neg c2]
      refine ⟨fun f e => (by cases e), fun p' v' e => ?_⟩
      cases e
      refine ⟨upd (upd (upd R 3 (nI (a + 1))) 5 (nI (a + 1))) 3 (nI p), ?_, hZ, h4, rfl, rfl⟩
      have e1 : (p = a + 1) = False := eq_false (fun z => c2 (Or.inl z))
      have e2 : (v < l) = False := eq_false (fun z => c2 (Or.inr (Or.inl z)))
      have e3 : (v ≤ h) = True := eq_true (Decidable.of_not_not (fun z => c2 (Or.inr (Or.inr (by rw [ma_le] at z; rw [ma_lt]; omega)))))
      rw [pre]
      simp only [bk_30_95, bk_30_106, bk_30_111, bk_30_126, ma_rd_R, v3, v5, epa, e1, e2, e3, ↓reduceIte, ma_bd_some, ma_bd_none, ma_tl1, ma_tl0, ma_ap1, ma_ap0, b2i_0, b2i_1, b2i_01, ma_l10, ma_l01, eq_self, true_or, or_true, not_true_eq_false, not_false_eq_true, Bool.false_eq_true]
  · rw [if_neg c1] at hex ⊢
    refine ⟨fun f e => ?_, fun p v e => by cases e⟩
    cases e
    have u4 : (upd (upd R 4 (nI a)) 3 (nI (a + 1)) 4 = -1) = False := eq_false (fun z => by
      have z2 : nI a = -1 := z
      have := nI_toInt (n := a) (by omega)
      rw [z2] at this
      have e : (-1 : Int32).toInt = -1 := rfl
      omega)
    refine ⟨upd (upd R 4 (nI a)) 3 (nI (a + 1)), ?_, hZ, rfl⟩
    rw [en_30]
    simp only [bk_30_0, bk_30_6, bk_30_14, hex, ma_rd_R, u4, ↓reduceIte, ma_bd_some, ma_bd_none, ma_tl1, ma_tl0, ma_ap1, ma_ap0, b2i_0, b2i_1, b2i_01, ma_l10, ma_l01, eq_self, true_or, or_true, not_true_eq_false, not_false_eq_true, Bool.false_eq_true]
theorem cx_readNumber_f (R : Nat → Int32) (l h : Int32) (h4 : R 4 ≠ -1) : ma_cal (d + 3) 30 [vR 7 0 0, vI l, vI h] (ma_rd x R L F G) = some (some (vI (-1)), ma_rd x (upd R 3 (R 3 + 1)) L F G) := by
  have hex := cx_expect_f d x L F G R 32 h4
  have c1 : (upd R 3 (R 3 + 1) 4 = -1) = False := eq_false h4
  rw [en_30]
  simp only [bk_30_0, bk_30_6, bk_30_14, hex, ma_rd_R, c1, ↓reduceIte, ma_bd_some, ma_bd_none, ma_tl1, ma_tl0, ma_ap1, ma_ap0, b2i_0, b2i_1, b2i_01, ma_l10, ma_l01, eq_self, true_or, or_true, not_true_eq_false, not_false_eq_true, Bool.false_eq_true]
end RX
