/-! PART 70: HILLS from texts: one word of both; the model's numbers. -/
theorem sp_sm_eq {L : Nat → Int32} {Z a w : Nat} : ∀ c k j, k ≤ j → j < sp_sm L Z a w c k → sp_lt L Z (a + j) = ma_wv w j := by
  intro c
  induction c with
  | zero => intro k j h1 h2; have : j < k := h2; omega
  | succ c ih =>
    intro k j h1 h2
    unfold sp_sm at h2
    by_cases c1 : sp_lt L Z (a + k) = ma_wv w k
    · rw [if_pos c1] at h2
      by_cases e : j = k
      · rw [e]; exact c1
      · exact ih (k + 1) j (by omega) h2
    · rw [if_neg c1] at h2; omega
theorem sp_uniq {L : Nat → Int32} {Z a w w0 : Nat} (hw : w < 8) (hw0 : w0 < 8) (hne : w ≠ w0) (h : sp_same L Z a w0 = ma_lw w0) : sp_same L Z a w ≤ 1 := by
  have hd : ∀ w w0 : Fin 8, w.val ≠ w0.val → ¬ (ma_wv w.val 0 = ma_wv w0.val 0 ∧ ma_wv w.val 1 = ma_wv w0.val 1) := by decide +kernel
  have h3 := (sp_lw8 w0 hw0).1
  apply Decidable.of_not_not
  intro z
  have e0 := sp_sm_eq (L := L) (Z := Z) (a := a) (w := w0) (ma_lw w0) 0 0 (by omega) (by unfold sp_same at h; omega)
  have e1 := sp_sm_eq (L := L) (Z := Z) (a := a) (w := w0) (ma_lw w0) 0 1 (by omega) (by unfold sp_same at h; omega)
  have f0 := sp_sm_eq (L := L) (Z := Z) (a := a) (w := w) (ma_lw w) 0 0 (by omega) (by unfold sp_same at z; omega)
  have f1 := sp_sm_eq (L := L) (Z := Z) (a := a) (w := w) (ma_lw w) 0 1 (by omega) (by unfold sp_same at z; omega)
  exact hd ⟨w, hw⟩ ⟨w0, hw0⟩ hne ⟨f0.symm.trans e0, f1.symm.trans e1⟩
theorem sp_rw_none {L : Nat → Int32} {Z a : Nat} : ∀ c w lo, w + c = 8 → (∀ w', w ≤ w' → w' < 8 → sp_same L Z a w' ≠ ma_lw w') → sp_mw L Z a c w lo = sp_rw L Z a c w lo ∧ (sp_rw L Z a c w lo).1 = -1 := by
  intro c
  induction c with
  | zero => intro w lo _ _; exact ⟨rfl, rfl⟩
  | succ c ih =>
    intro w lo hw h
    have hn := h w (Nat.le_refl _) (by omega)
    have hs : sp_sbv L Z a w = sp_same L Z a w := by rw [sp_sbv_same, if_neg hn]
    have hle := sp_same_le L Z a w
    have e1 : sp_rw L Z a (c + 1) w lo = sp_rw L Z a c (w + 1) (max lo (sp_same L Z a w)) := if_neg hn
    have e2 : sp_mw L Z a (c + 1) w lo = sp_mw L Z a c (w + 1) (max lo (sp_same L Z a w)) := by
      show (if sp_sbv L Z a w = ma_lw w + 1 then _ else sp_mw L Z a c (w + 1) (max lo (sp_sbv L Z a w))) = _
      rw [hs, if_neg (by omega)]
    rw [e1, e2]
    exact ih (w + 1) _ (by omega) (fun w' a1 a2 => h w' (by omega) a2)
theorem sp_mw_tail {L : Nat → Int32} {Z a w0 : Nat} (hw0 : w0 < 8) (h0 : sp_same L Z a w0 = ma_lw w0) : ∀ c w, w0 < w → w + c = 8 → sp_mw L Z a c w (ma_lw w0) = (-1, ma_lw w0) := by
  have h3 := (sp_lw8 w0 hw0).1
  intro c
  induction c with
  | zero => intro w _ _; rfl
  | succ c ih =>
    intro w hw hc
    have hu := sp_uniq (show w < 8 by omega) hw0 (by omega) h0
    have hl := (sp_lw8 w (by omega)).1
    have hs : sp_sbv L Z a w = sp_same L Z a w := by rw [sp_sbv_same, if_neg (by omega)]
    show (if sp_sbv L Z a w = ma_lw w + 1 then _ else sp_mw L Z a c (w + 1) (max (ma_lw w0) (sp_sbv L Z a w))) = _
    rw [hs, if_neg (by omega), Nat.max_eq_left (by omega)]
    exact ih (w + 1) (by omega) (by omega)
theorem sp_rw_some {L : Nat → Int32} {Z a w0 : Nat} (hw0 : w0 < 8) (h0 : sp_same L Z a w0 = ma_lw w0) : ∀ c w lo, w ≤ w0 → w + c = 8 → lo ≤ 1 → sp_rw L Z a c w lo = (nI w0, ma_lw w0) ∧ sp_mw L Z a c w lo = if sp_lt L Z (a + ma_lw w0) = 32 then (nI w0, ma_lw w0 + 1) else (-1, ma_lw w0) := by
  have h3 := (sp_lw8 w0 hw0).1
  intro c
  induction c with
  | zero => intro w lo h1 h2 _; omega
  | succ c ih =>
    intro w lo h1 h2 hlo
    by_cases hw : w = w0
    · subst hw
      have e1 : sp_rw L Z a (c + 1) w lo = (nI w, ma_lw w) := if_pos h0
      refine ⟨e1, ?_⟩
      have hs : sp_sbv L Z a w = if sp_lt L Z (a + ma_lw w) = 32 then ma_lw w + 1 else ma_lw w := by rw [sp_sbv_same, if_pos h0]
      show (if sp_sbv L Z a w = ma_lw w + 1 then (nI w, ma_lw w + 1) else sp_mw L Z a c (w + 1) (max lo (sp_sbv L Z a w))) = _
      rw [hs]
      by_cases cb : sp_lt L Z (a + ma_lw w) = 32
      · rw [if_pos cb, if_pos cb, if_pos rfl]
      · rw [if_neg cb, if_neg cb, if_neg (by omega), Nat.max_eq_right (by omega)]
        exact sp_mw_tail hw0 h0 c (w + 1) (by omega) (by omega)
    · have hu := sp_uniq (show w < 8 by omega) hw0 hw h0
      have hl := (sp_lw8 w (by omega)).1
      have hn : ¬ sp_same L Z a w = ma_lw w := by omega
      have hs : sp_sbv L Z a w = sp_same L Z a w := by rw [sp_sbv_same, if_neg hn]
      have e1 : sp_rw L Z a (c + 1) w lo = sp_rw L Z a c (w + 1) (max lo (sp_same L Z a w)) := if_neg hn
      have e2 : sp_mw L Z a (c + 1) w lo = sp_mw L Z a c (w + 1) (max lo (sp_same L Z a w)) := by
        show (if sp_sbv L Z a w = ma_lw w + 1 then _ else sp_mw L Z a c (w + 1) (max lo (sp_sbv L Z a w))) = _
        rw [hs, if_neg (by omega)]
      rw [e1, e2]
      exact ih (w + 1) _ (by omega) (by omega) (by omega)
theorem sp_link (L : Nat → Int32) (Z a : Nat) : ((sp_rw L Z a 8 0 0).1 = -1 ∧ sp_mw L Z a 8 0 0 = sp_rw L Z a 8 0 0 ∧ sp_same L Z a 0 ≠ ma_lw 0) ∨ ∃ w0, w0 < 8 ∧ sp_same L Z a w0 = ma_lw w0 ∧ sp_rw L Z a 8 0 0 = (nI w0, ma_lw w0) ∧ (sp_mw L Z a 8 0 0 = if sp_lt L Z (a + ma_lw w0) = 32 then (nI w0, ma_lw w0 + 1) else (-1, ma_lw w0)) ∧ (sp_same L Z a 0 = ma_lw 0 ↔ w0 = 0) := by
  by_cases h : ∃ w0, w0 < 8 ∧ sp_same L Z a w0 = ma_lw w0
  · obtain ⟨w0, hw0, h0⟩ := h
    obtain ⟨e1, e2⟩ := sp_rw_some hw0 h0 8 0 0 (Nat.zero_le _) (by omega) (by omega)
    refine Or.inr ⟨w0, hw0, h0, e1, e2, fun z => ?_, fun z => by rw [← z]; exact h0⟩
    apply Decidable.of_not_not
    intro hne
    have := sp_uniq (L := L) (Z := Z) (a := a) (w := 0) (by omega) hw0 (fun e => hne e.symm) h0
    have l0 : ma_lw 0 = 5 := rfl
    omega
  · obtain ⟨e1, e2⟩ := sp_rw_none (L := L) (Z := Z) (a := a) 8 0 0 (by omega) (fun w' _ h8 z => h ⟨w', h8, z⟩)
    exact Or.inl ⟨e2, e1, fun z => h ⟨0, by omega, z⟩⟩
theorem sp_lt_32 {L : Nat → Int32} {Z p : Nat} (h : sp_lt L Z p = 32) : p < Z := by
  apply Decidable.of_not_not
  intro z
  unfold sp_lt at h
  rw [if_neg z] at h
  exact absurd h (by decide)
theorem sp_dg_Z (L : Nat → Int32) (Z : Nat) : ∀ c p v, p ≤ Z → (sp_dg L Z c p v).1 ≤ Z := by
  intro c
  induction c with
  | zero => intro p v h; exact h
  | succ c ih =>
    intro p v h
    unfold sp_dg
    split
    · rename_i z
      refine ih (p + 1) _ ?_
      apply Decidable.of_not_not
      intro z2
      have e : sp_lt L Z p = -1 := if_neg (by omega)
      rw [e] at z
      exact absurd z.1 (by decide)
    · exact h
theorem sp_MT_S {m : ma_S} {L : Nat → Int32} {Z s : Nat} {S S' : Nat → Int32} {T : Nat → Nat → Int32} (h : sp_MT m L Z s S T) (h26 : S' 26 = S 26) (h28 : S' 28 = S 28) : sp_MT m L Z s S' T := ⟨h26.trans h.1, h28.trans h.2.1, h.2.2⟩
/-- but where, number and wrongAt -/
def sp_f3 (S S' : Nat → Int32) : Prop := ∀ q, q ≠ 27 → q ≠ 29 → q ≠ 30 → S' q = S q
theorem sp_f3_t {S S' S'' : Nat → Int32} (h : sp_f3 S S') (h' : sp_f3 S' S'') : sp_f3 S S'' := fun q a b c => (h' q a b c).trans (h q a b c)
section MN
variable (d Z s : Nat) (m : ma_S) (L : Nat → Int32)
theorem cm_wrong (S : Nat → Int32) (T : Nat → Nat → Int32) (v : Int32) : ma_cal (d + 1) 136 [vR 20 0 0, vI v] (ma_mh m S T) = some (some (vI 0), ma_mh m (upd S 30 v) T) := by
  rw [en_136]
  simp only [bk_136_0, ma_mh_uF]
theorem cm_reads_loop (T : Nat → Nat → Int32) : ∀ (c k p : Nat) (v : Int32) (S : Nat → Int32), k + c = 3 → p < 900 → sp_MT m L Z s S T → S 27 = nI p → S 29 = v → ∃ S', ma_ex (d + 1) 140 23 [some (vR 20 0 0), some (vI (nI k))] [] (ma_mh m S T) = some (some (vI 1), ma_mh m S' T) ∧ S' 27 = nI (sp_dg L Z c p v).1 ∧ S' 29 = (sp_dg L Z c p v).2 ∧ sp_f3 S S' := by
  intro c
  induction c with
  | zero =>
    intro k p v S hk hp hM h27 h29
    have e : k = 3 := by omega
    subst e
    refine ⟨S, ?_, h27, h29, fun _ _ _ _ => rfl⟩
    have c3 : ((3 : Int32) ≤ nI 3) = True := by decide
    simp only [bk_140_23, bk_140_81, c3, ↓reduceIte, ma_bd_some, ma_bd_none, ma_tl1, ma_tl0, ma_ap1, ma_ap0, b2i_0, b2i_1, b2i_01, ma_l10, ma_l01, eq_self, true_or, or_true, not_true_eq_false, not_false_eq_true, Bool.false_eq_true]
  | succ c ih =>
    intro k p v S hk hp hM h27 h29
    obtain ⟨g1, g2, g3, g4, g5, g6⟩ := id hM
    have c3 : ¬ (3 : Int32) ≤ nI k := by
      have e3 : (3 : Int32).toInt = 3 := rfl
      rw [ma_le, nI_toInt (by omega)]; omega
    have hd := cm_isDigit d Z s p m L S T hM (by omega) h27
    have hst : sp_dg L Z (c + 1) p v = if 48 ≤ sp_lt L Z p ∧ sp_lt L Z p ≤ 57 then sp_dg L Z c (p + 1) (10 * v + sp_lt L Z p - 48) else (p, v) := rfl
    rw [hst, bk_140_23, if_neg c3]
    by_cases hb : 48 ≤ sp_lt L Z p ∧ sp_lt L Z p ≤ 57
    · have hz : p < Z := by
        apply Decidable.of_not_not
        intro z
        have e : sp_lt L Z p = -1 := if_neg z
        rw [e] at hb
        exact absurd hb.1 (by decide)
      obtain ⟨c1, c2⟩ := sp_MTc hM p hz
      obtain ⟨S', i1, i2, i3, i4⟩ := ih (k + 1) (p + 1) (10 * v + sp_lt L Z p - 48) (upd (upd S 29 (10 * v + sp_lt L Z p - 48)) 27 (nI (p + 1))) (by omega) (by omega) (sp_MT_S hM rfl rfl) rfl rfl
      refine ⟨S', ?_, by rw [if_pos hb]; exact i2, by rw [if_pos hb]; exact i3, fun q a1 a2 a3 => ?_⟩
      · rw [← i1]
        have u27 : upd S 29 (10 * v + sp_lt L Z p - 48) 27 = nI p := h27
        have hb' := eq_true hb
        simp only [bk_140_28, bk_140_32, bk_140_35, hd, hb', ma_mh_F, ma_mh_J, g1, h27, h29, nI_add, ma_if_pos c1, c2, ma_mh_uF, u27, nI_1, ↓reduceIte, ma_bd_some, ma_bd_none, ma_tl1, ma_tl0, ma_ap1, ma_ap0, b2i_0, b2i_1, b2i_01, ma_l10, ma_l01, eq_self, true_or, or_true, not_true_eq_false, not_false_eq_true, Bool.false_eq_true]
      · rw [i4 q a1 a2 a3]
        unfold upd
        rw [if_neg a1, if_neg a2]
    · refine ⟨S, ?_, by rw [if_neg hb]; exact h27, by rw [if_neg hb]; exact h29, fun _ _ _ _ => rfl⟩
      have hb' := eq_false hb
      simp only [bk_140_28, bk_140_32, bk_140_81, hd, hb', ↓reduceIte, ma_bd_some, ma_bd_none, ma_tl1, ma_tl0, ma_ap1, ma_ap0, b2i_0, b2i_1, b2i_01, ma_l10, ma_l01, eq_self, true_or, or_true, not_true_eq_false, not_false_eq_true, Bool.false_eq_true]
theorem cm_reads (S : Nat → Int32) (T : Nat → Nat → Int32) (b : Nat) (hb : b < 800) (hM : sp_MT m L Z s S T) (h27 : S 27 = nI b) : ((sp_dg L Z 3 b 0).1 = b → ∃ S', ma_cal (d + 2) 140 [vR 20 0 0] (ma_mh m S T) = some (some (vI 0), ma_mh m S' T) ∧ S' 30 = nI b ∧ sp_f3 S S') ∧ ((sp_dg L Z 3 b 0).1 ≠ b → ∃ S', ma_cal (d + 2) 140 [vR 20 0 0] (ma_mh m S T) = some (some (vI 1), ma_mh m S' T) ∧ S' 27 = nI (sp_dg L Z 3 b 0).1 ∧ S' 29 = (sp_dg L Z 3 b 0).2 ∧ sp_f3 S S') := by
  have hM2 : sp_MT m L Z s (upd S 29 0) T := sp_MT_S hM rfl rfl
  have hd := cm_isDigit d Z s b m L (upd S 29 0) T hM2 (by omega) h27
  have hst : sp_dg L Z 3 b 0 = if 48 ≤ sp_lt L Z b ∧ sp_lt L Z b ≤ 57 then sp_dg L Z 2 (b + 1) (10 * 0 + sp_lt L Z b - 48) else (b, 0) := rfl
  rw [en_140]
  by_cases hb2 : 48 ≤ sp_lt L Z b ∧ sp_lt L Z b ≤ 57
  · have hne : (sp_dg L Z 3 b 0).1 ≠ b := by
      rw [hst, if_pos hb2]
      have := (sp_dg_le L Z 2 (b + 1) (10 * 0 + sp_lt L Z b - 48)).1
      omega
    refine ⟨fun e => absurd e hne, fun _ => ?_⟩
    obtain ⟨S', i1, i2, i3, i4⟩ := cm_reads_loop d Z s m L T 3 0 b 0 (upd S 29 0) (by omega) (by omega) hM2 h27 rfl
    rw [nI_0] at i1
    have hb' := eq_true hb2
    refine ⟨S', ?_, i2, i3, fun q a1 a2 a3 => ?_⟩
    · simp only [bk_140_0, bk_140_9, bk_140_21, ma_mh_uF, hd, hb', i1, ↓reduceIte, ma_bd_some, ma_bd_none, ma_tl1, ma_tl0, ma_ap1, ma_ap0, b2i_0, b2i_1, b2i_01, ma_l10, ma_l01, eq_self, true_or, or_true, not_true_eq_false, not_false_eq_true, Bool.false_eq_true]
    · rw [i4 q a1 a2 a3]
      unfold upd
      rw [if_neg a2]
  · refine ⟨fun _ => ⟨upd (upd S 29 0) 30 (nI b), ?_, rfl, fun q a1 a2 a3 => ?_⟩, fun e => ?_⟩
    · have hb' := eq_false hb2
      have u27 : upd S 29 0 27 = nI b := h27
      have b00 : ((0 : Int32) = 0 ∨ (0 : Int32) = 1) = True := by decide
      simp only [bk_140_0, bk_140_9, bk_140_12, bk_140_20, ma_mh_uF, ma_mh_F, u27, hd, hb', cm_wrong, b00, ↓reduceIte, ma_bd_some, ma_bd_none, ma_tl1, ma_tl0, ma_ap1, ma_ap0, b2i_0, b2i_1, b2i_01, ma_l10, ma_l01, eq_self, true_or, or_true, not_true_eq_false, not_false_eq_true, Bool.false_eq_true]
    · unfold upd
      rw [if_neg a3, if_neg a2]
    · rw [hst, if_neg hb2] at e
      exact absurd rfl e
/-- one number of an item, so being as it must -/
theorem cm_num (S : Nat → Int32) (T : Nat → Nat → Int32) (b i : Nat) (w : Int32) (u3 : Option ma_V) (so : Int32 → Bool) (hb : b < 800) (hi : i < 2) (hM : sp_MT m L Z s S T) (h27 : S 27 = nI b) (hso : ∀ (S' : Nat → Int32) (v : Int32), S' 29 = v → 0 ≤ v.toInt → v.toInt ≤ 999 → sp_f3 S S' → ma_cal (d + 5) 141 [vR 20 0 0, vI w, vI (nI i)] (ma_mh m S' T) = some (some (vI (b2i (so v = true))), ma_mh m S' T)) : ((sp_dg L Z 3 b 0).1 = b ∨ so (sp_dg L Z 3 b 0).2 = false → ∃ S', ma_ex (d + 5) 142 103 [some (vR 20 0 0), some (vI w), some (vI (nI i)), u3] [] (ma_mh m S T) = some (some (vI 0), ma_mh m S' T) ∧ S' 30 = nI b ∧ sp_f3 S S') ∧ (¬ ((sp_dg L Z 3 b 0).1 = b ∨ so (sp_dg L Z 3 b 0).2 = false) → ∃ S', ma_ex (d + 5) 142 103 [some (vR 20 0 0), some (vI w), some (vI (nI i)), u3] [] (ma_mh m S T) = ma_ex (d + 5) 142 39 [some (vR 20 0 0), some (vI w), some (vI (nI (i + 1))), some (vI (nI b))] [] (ma_mh m S' (ma_uE T i 14 (sp_dg L Z 3 b 0).2)) ∧ S' 27 = nI (sp_dg L Z 3 b 0).1 ∧ sp_f3 S S') := by
  obtain ⟨r1, r2⟩ := cm_reads (d + 3) Z s m L S T b hb hM h27
  have hvb := sp_dg_b L Z 3 b 0 (by omega) (by decide) (by decide)
  have b00 : ((0 : Int32) = 0 ∨ (0 : Int32) = 1) = True := by decide
  have hii := nI_toInt (n := i) (by omega)
  have hin2 : ma_in (nI i) 2 := ma_inI (by omega) (by omega)
  have hcl : (nI i).toNatClampNeg = i := nI_clamp (by omega)
  by_cases e1 : (sp_dg L Z 3 b 0).1 = b
  · obtain ⟨S', i1, i2, i3⟩ := r1 e1
    refine ⟨fun _ => ⟨S', ?_, i2, i3⟩, fun z => absurd (Or.inl e1) z⟩
    simp only [bk_142_103, bk_142_112, bk_142_115, ma_mh_F, h27, i1, ↓reduceIte, ma_bd_some, ma_bd_none, ma_tl1, ma_tl0, ma_ap1, ma_ap0, b2i_0, b2i_1, b2i_01, ma_l10, ma_l01, eq_self, true_or, or_true, not_true_eq_false, not_false_eq_true, Bool.false_eq_true]
  · obtain ⟨S', i1, i2, i3, i4⟩ := r2 e1
    have hs := hso S' _ i3 hvb.1 hvb.2 i4
    by_cases e2 : so (sp_dg L Z 3 b 0).2 = true
    · have n2 : ¬ so (sp_dg L Z 3 b 0).2 = false := by rw [e2]; decide
      refine ⟨fun z => absurd z (fun z => z.elim e1 n2), fun _ => ⟨S', ?_, i2, i4⟩⟩
      have e2' := eq_true e2
      simp only [bk_142_103, bk_142_112, bk_142_117, bk_142_123, bk_142_132, ma_mh_F, h27, i1, hs, e2', i3, ma_if_pos hin2, hcl, ma_mh_uE, nI_1, ↓reduceIte, ma_bd_some, ma_bd_none, ma_tl1, ma_tl0, ma_ap1, ma_ap0, b2i_0, b2i_1, b2i_01, ma_l10, ma_l01, eq_self, true_or, or_true, not_true_eq_false, not_false_eq_true, Bool.false_eq_true]
    · have e2' : so (sp_dg L Z 3 b 0).2 = false := Bool.eq_false_iff.mpr e2
      refine ⟨fun _ => ⟨upd S' 30 (nI b), ?_, rfl, fun q a1 a2 a3 => ?_⟩, fun z => absurd (Or.inr e2') z⟩
      · have e2'' := eq_false e2
        simp only [bk_142_103, bk_142_112, bk_142_117, bk_142_123, bk_142_126, bk_142_131, ma_mh_F, h27, i1, hs, e2'', cm_wrong, b00, ↓reduceIte, ma_bd_some, ma_bd_none, ma_tl1, ma_tl0, ma_ap1, ma_ap0, b2i_0, b2i_1, b2i_01, ma_l10, ma_l01, eq_self, true_or, or_true, not_true_eq_false, not_false_eq_true, Bool.false_eq_true]
      · unfold upd
        rw [if_neg a3]
        exact i4 q a1 a2 a3
end MN
