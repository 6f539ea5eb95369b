/-! PART 68: HILLS from texts: words, in the class and in the model. -/
def sp_sm (L : Nat → Int32) (Z a w : Nat) : Nat → Nat → Nat
  | 0, k => k
  | c + 1, k => if sp_lt L Z (a + k) = ma_wv w k then sp_sm L Z a w c (k + 1) else k
def sp_same (L : Nat → Int32) (Z a w : Nat) : Nat := sp_sm L Z a w (ma_lw w) 0
/-- the first word that stands whole, or -1 and how far the letters go -/
def sp_rw (L : Nat → Int32) (Z a : Nat) : Nat → Nat → Nat → Int32 × Nat
  | 0, _, lo => (-1, lo)
  | c + 1, w, lo => if sp_same L Z a w = ma_lw w then (nI w, ma_lw w) else sp_rw L Z a c (w + 1) (max lo (sp_same L Z a w))
theorem sp_sm_le (L : Nat → Int32) (Z a w : Nat) : ∀ c k, k ≤ sp_sm L Z a w c k ∧ sp_sm L Z a w c k ≤ k + c := by
  intro c
  induction c with
  | zero => intro k; exact ⟨Nat.le_refl _, Nat.le_refl _⟩
  | succ c ih =>
    intro k
    unfold sp_sm
    split
    · have := ih (k + 1)
      omega
    · omega
theorem sp_lw8 : ∀ w, w < 8 → 3 ≤ ma_lw w ∧ ma_lw w ≤ 7 := by decide
theorem sp_same_le (L : Nat → Int32) (Z a w : Nat) : sp_same L Z a w ≤ ma_lw w := by
  have := (sp_sm_le L Z a w (ma_lw w) 0).2
  unfold sp_same
  omega
theorem sp_rw_lo (L : Nat → Int32) (Z a : Nat) : ∀ c w lo, lo ≤ 7 → w + c = 8 → (sp_rw L Z a c w lo).2 ≤ 7 := by
  intro c
  induction c with
  | zero => intro w lo h _; exact h
  | succ c ih =>
    intro w lo h hw
    unfold sp_rw
    have h7 := (sp_lw8 w (by omega)).2
    have hs := sp_same_le L Z a w
    split
    · exact h7
    · exact ih (w + 1) _ (by omega) (by omega)
theorem cx_strlen (d w : Nat) (σ : ma_S) (hw : w < 8) : ma_cal (d + 2) 203 [vR 41 w 0] σ = some (some (vI (nI (ma_lw w))), σ) := by
  have e : nI (ma_lw w) >>> ((0 : Int32) &&& 31) = nI (ma_lw w) := by
    rcases w with _|_|_|_|_|_|_|_|w
    all_goals first | omega | decide
  rw [en_203]
  simp (decide := true) only [bk_203_0, bk_203_9, en_205, bk_205_0, bk_205_6, bk_205_13, bk_205_14, e, ↓reduceIte, ma_bd_some, ma_bd_none, ma_tl1, ma_tl0, ma_ap1, ma_ap0, b2i_0, b2i_1, b2i_01, ma_l10, ma_l01, eq_self, true_or, or_true, not_true_eq_false, not_false_eq_true, Bool.false_eq_true]
theorem sp_wv8 (w k : Nat) (hw : w < 8) (hk : k < 7) : (Int32.toUInt32 ((ma_wv w k) &&& 255) % 65536).toInt32 = ma_wv w k ∧ 0 ≤ (ma_wv w k).toInt ∧ (ma_wv w k).toInt < 65536 := by
  have h7 : ∀ w : Fin 8, ∀ k : Fin 7, (Int32.toUInt32 ((ma_wv w.val k.val) &&& 255) % 65536).toInt32 = ma_wv w.val k.val ∧ 0 ≤ (ma_wv w.val k.val).toInt ∧ (ma_wv w.val k.val).toInt < 65536 := by decide +kernel
  exact h7 ⟨w, hw⟩ ⟨k, hk⟩
theorem cx_charAt (d w k : Nat) (σ : ma_S) (hw : w < 8) (hk : k < ma_lw w) : ma_cal (d + 4) 204 [vR 41 w 0, vI (nI k)] σ = some (some (vI (ma_wv w k)), σ) := by
  have h7 := (sp_lw8 w hw).2
  have hki := nI_toInt (n := k) (by omega)
  have hin : ma_in (nI k) (ma_lw w) := ma_inI (by omega) (by omega)
  have hcl : (nI k).toNatClampNeg = k := nI_clamp (by omega)
  obtain ⟨e1, e2, e3⟩ := sp_wv8 w k hw (by omega)
  have c1 : (nI k < 0) = False := eq_false (nI_pos (by omega))
  have c2 : (nI k < nI (ma_lw w)) = True := eq_true (nI_lt hk (by omega))
  have c3 : (0 ≤ (ma_wv w k).toInt ∧ (ma_wv w k).toInt < 65536) = True := eq_true ⟨e2, e3⟩
  rw [en_204]
  simp (decide := true) only [bk_204_0, bk_204_4, bk_204_7, bk_204_15, en_206, bk_206_0, bk_206_6, bk_206_13, bk_206_17, bk_206_18, en_208, bk_208_0, bk_208_6, en_207, bk_207_0, bk_207_8, en_209, bk_209_0, bk_209_4, bk_209_16, c1, c2, ma_if_pos hin, hcl, e1, c3, ↓reduceIte, ma_bd_some, ma_bd_none, ma_tl1, ma_tl0, ma_ap1, ma_ap0, b2i_0, b2i_1, b2i_01, ma_l10, ma_l01, eq_self, true_or, or_true, not_true_eq_false, not_false_eq_true, Bool.false_eq_true]
theorem cx_word (d w : Nat) (σ : ma_S) (hw : w < 8) : ma_cal (d + 1) 28 [vI (nI w)] σ = some (some (vR 41 w 0), σ) := by
  rw [en_28]
  rcases w with _|_|_|_|_|_|_|_|w
  all_goals first
    | omega
    | simp (decide := true) only [bk_28_0, bk_28_44, bk_28_47, bk_28_50, bk_28_53, bk_28_56, bk_28_59, bk_28_62, bk_28_65, ↓reduceIte, ma_bd_some, ma_bd_none, ma_tl1, ma_tl0, ma_ap1, ma_ap0, b2i_0, b2i_1, b2i_01, ma_l10, ma_l01, eq_self, true_or, or_true, not_true_eq_false, not_false_eq_true, Bool.false_eq_true]
section RW
variable (d Z a : Nat) (x : ma_S) (L F : Nat → Int32) (G : Nat → Nat → Int32)
theorem cx_same_loop (R : Nat → Int32) (lo : Int32) (w : Nat) (hw : w < 8) (hZ : R 2 = nI Z) (h160 : Z ≤ 160) (ha : a < 1000) (h3 : R 3 = nI a) : ∀ c k, k + c = ma_lw w → ma_ex (d + 4) 29 18 [some (vR 7 0 0), some (vI lo), some (vI (nI w)), some (vR 41 w 0), some (vI (nI k))] [] (ma_rd x R L F G) = ma_ex (d + 4) 29 53 [some (vR 7 0 0), some (vI lo), some (vI (nI w)), some (vR 41 w 0), some (vI (nI (sp_sm L Z a w c k)))] [] (ma_rd x R L F G) := by
  have h7 := (sp_lw8 w hw).2
  intro c
  induction c with
  | zero =>
    intro k h
    have hl := cx_strlen (d + 2) w (ma_rd x R L F G) hw
    have c1 : (nI (ma_lw w) ≤ nI k) = True := eq_true (nI_le (by omega) (by omega))
    simp only [bk_29_18, bk_29_24, hl, c1, ↓reduceIte, ma_bd_some, ma_bd_none, ma_tl1, ma_tl0, ma_ap1, ma_ap0, b2i_0, b2i_1, b2i_01, ma_l10, ma_l01, eq_self, true_or, or_true, not_true_eq_false, not_false_eq_true, Bool.false_eq_true]
    rfl
  | succ c ih =>
    intro k h
    have hl := cx_strlen (d + 2) w (ma_rd x R L F G) hw
    have c1 : (nI (ma_lw w) ≤ nI k) = False := eq_false (nI_ge (by omega) (by omega))
    have hlt := cx_letterAt (d + 3) Z x L F G R (a + k) hZ h160 (by omega)
    have hch := cx_charAt d w k (ma_rd x R L F G) hw (by omega)
    have hst : sp_sm L Z a w (c + 1) k = if sp_lt L Z (a + k) = ma_wv w k then sp_sm L Z a w c (k + 1) else k := rfl
    rw [hst]
    rcases Classical.propComplete (sp_lt L Z (a + k) = ma_wv w k) with c2 | c2
    · rw [if_pos (of_eq_true c2), ← ih (k + 1) (by omega)]
      simp only [bk_29_18, bk_29_24, bk_29_27, bk_29_38, bk_29_44, bk_29_47, hl, c1, ma_rd_R, h3, nI_add, hlt, hch, c2, nI_1, ↓reduceIte, ma_bd_some, ma_bd_none, ma_tl1, ma_tl0, ma_ap1, ma_ap0, b2i_0, b2i_1, b2i_01, ma_l10, ma_l01, eq_self, true_or, or_true, not_true_eq_false, not_false_eq_true, Bool.false_eq_true]
    · rw [if_neg (of_eq_false c2)]
      simp only [bk_29_18, bk_29_24, bk_29_27, bk_29_38, bk_29_44, hl, c1, ma_rd_R, h3, nI_add, hlt, hch, c2, ↓reduceIte, ma_bd_some, ma_bd_none, ma_tl1, ma_tl0, ma_ap1, ma_ap0, b2i_0, b2i_1, b2i_01, ma_l10, ma_l01, eq_self, true_or, or_true, not_true_eq_false, not_false_eq_true, Bool.false_eq_true]
theorem cx_word_loop (R : Nat → Int32) (hZ : R 2 = nI Z) (h160 : Z ≤ 160) (ha : a < 1000) (h3 : R 3 = nI a) : ∀ (c w lo : Nat) (u3 u4 : Option ma_V), w + c = 8 → lo ≤ 7 → ma_ex (d + 4) 29 4 [some (vR 7 0 0), some (vI (nI lo)), some (vI (nI w)), u3, u4] [] (ma_rd x R L F G) = some (some (vI (sp_rw L Z a c w lo).1), ma_rd x (if (sp_rw L Z a c w lo).1 = -1 then upd R 4 (nI (a + (sp_rw L Z a c w lo).2)) else upd R 3 (nI (a + (sp_rw L Z a c w lo).2))) L F G) := by
  intro c
  induction c with
  | zero =>
    intro w lo u3 u4 hw hlo
    have e : w = 8 := by omega
    subst e
    have e2 : sp_rw L Z a 0 8 lo = (-1, lo) := rfl
    have c8 : ((8 : Int32) ≤ nI 8) = True := by decide
    rw [e2, if_pos rfl]
    simp only [bk_29_4, bk_29_88, c8, ma_rd_R, ma_rd_uR, h3, nI_add, ↓reduceIte, ma_bd_some, ma_bd_none, ma_tl1, ma_tl0, ma_ap1, ma_ap0, b2i_0, b2i_1, b2i_01, ma_l10, ma_l01, eq_self, true_or, or_true, not_true_eq_false, not_false_eq_true, Bool.false_eq_true]
  | succ c ih =>
    intro w lo u3 u4 hw hlo
    have h7 := (sp_lw8 w (by omega)).2
    have hwd := cx_word (d + 3) w (ma_rd x R L F G) (by omega)
    have hsl := cx_same_loop d Z a x L F G R (nI lo) w (by omega) hZ h160 ha h3 (ma_lw w) 0 (by omega)
    rw [nI_0] at hsl
    have hl := cx_strlen (d + 2) w (ma_rd x R L F G) (by omega)
    have hs := sp_same_le L Z a w
    have c8 : ((8 : Int32) ≤ nI w) = False := eq_false (by
      have e8 : (8 : Int32).toInt = 8 := rfl
      rw [ma_le, nI_toInt (by omega)]; omega)
    have eq1 : (nI (sp_same L Z a w) = nI (ma_lw w)) = (sp_same L Z a w = ma_lw w) := propext (nI_eq (by omega) (by omega))
    have esm : sp_sm L Z a w (ma_lw w) 0 = sp_same L Z a w := rfl
    rw [esm] at hsl
    have hst : sp_rw L Z a (c + 1) w lo = if sp_same L Z a w = ma_lw w then (nI w, ma_lw w) else sp_rw L Z a c (w + 1) (max lo (sp_same L Z a w)) := rfl
    rw [hst]
    rcases Classical.propComplete (sp_same L Z a w = ma_lw w) with c2 | c2
    · have c2' := of_eq_true c2
      rw [if_pos c2']
      show _ = some (some (vI (nI w)), ma_rd x (if nI w = -1 then _ else upd R 3 (nI (a + ma_lw w))) L F G)
      rw [if_neg (of_eq_false (nI_ne1 (by omega)))]
      simp only [bk_29_4, bk_29_10, bk_29_14, bk_29_53, bk_29_59, bk_29_62, c8, hwd, hsl, hl, eq1, c2, ma_rd_R, ma_rd_uR, h3, nI_add, ↓reduceIte, ma_bd_some, ma_bd_none, ma_tl1, ma_tl0, ma_ap1, ma_ap0, b2i_0, b2i_1, b2i_01, ma_l10, ma_l01, eq_self, true_or, or_true, not_true_eq_false, not_false_eq_true, Bool.false_eq_true]
      rw [c2']
    · rw [if_neg (of_eq_false c2)]
      have hi := ih (w + 1) (max lo (sp_same L Z a w)) (some (vR 41 w 0)) (some (vI (nI (sp_same L Z a w)))) (by omega) (by omega)
      rw [← hi]
      have emx : (if nI lo < nI (sp_same L Z a w) then nI (sp_same L Z a w) else nI lo) = nI (max lo (sp_same L Z a w)) := by
        by_cases z : lo < sp_same L Z a w
        · rw [if_pos (nI_lt z (by omega)), Nat.max_eq_right (by omega)]
        · rw [if_neg (nI_nlt (by omega) (by omega)), Nat.max_eq_left (by omega)]
      simp only [bk_29_4, bk_29_10, bk_29_14, bk_29_53, bk_29_59, bk_29_75, c8, hwd, hsl, hl, eq1, c2, emx, nI_1, ↓reduceIte, ma_bd_some, ma_bd_none, ma_tl1, ma_tl0, ma_ap1, ma_ap0, b2i_0, b2i_1, b2i_01, ma_l10, ma_l01, eq_self, true_or, or_true, not_true_eq_false, not_false_eq_true, Bool.false_eq_true]
theorem cx_readWord (R : Nat → Int32) (hZ : R 2 = nI Z) (h160 : Z ≤ 160) (ha : a < 1000) (h3 : R 3 = nI a) : ma_cal (d + 5) 29 [vR 7 0 0] (ma_rd x R L F G) = some (some (vI (sp_rw L Z a 8 0 0).1), ma_rd x (if (sp_rw L Z a 8 0 0).1 = -1 then upd R 4 (nI (a + (sp_rw L Z a 8 0 0).2)) else upd R 3 (nI (a + (sp_rw L Z a 8 0 0).2))) L F G) := by
  have h := cx_word_loop d Z a x L F G R hZ h160 ha h3 8 0 0 none none (by omega) (by omega)
  rw [nI_0] at h
  rw [en_29, bk_29_0, h]
end RW
