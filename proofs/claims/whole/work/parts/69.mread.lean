/-! PART 69: HILLS from texts: the model's words and numbers. -/
def sp_MT (m : ma_S) (L : Nat → Int32) (Z s : Nat) (S : Nat → Int32) (T : Nat → Nat → Int32) : Prop := S 26 = nI (160 * s) ∧ S 28 = nI Z ∧ Z ≤ 160 ∧ s < 8 ∧ ma_IvW (fun r => T r 12) (fun r => T r 13) ∧ ∀ p, p < Z → Int64.toInt32 (m.2 10 (160 * s + p)) = L p
def sp_wp (w : Nat) : Nat := [0, 7, 12, 18, 27, 36, 45, 51, 57].getD w 0
def sp_wl (w k : Nat) : Int32 := if k < ma_lw w then ma_wv w k else if k = ma_lw w then 32 else 0
theorem sp_wp8 (w k : Nat) (hw : w < 8) (hk : k ≤ ma_lw w + 1) : sp_wp w + k < 57 ∧ sp_WT.getD (sp_wp w + k) 0 = sp_wl w k := by
  have h : ∀ w : Fin 8, ∀ k : Fin 9, k.val ≤ ma_lw w.val + 1 → sp_wp w.val + k.val < 57 ∧ sp_WT.getD (sp_wp w.val + k.val) 0 = sp_wl w.val k.val := by decide +kernel
  have h7 := (sp_lw8 w hw).2
  exact h ⟨w, hw⟩ ⟨k, by omega⟩ hk
theorem sp_wps (w : Nat) (hw : w < 8) : sp_wp (w + 1) = sp_wp w + ma_lw w + 2 := by
  have h : ∀ w : Fin 8, sp_wp (w.val + 1) = sp_wp w.val + ma_lw w.val + 2 := by decide
  exact h ⟨w, hw⟩
theorem sp_wl8 (w k : Nat) (hw : w < 8) (hk : k < ma_lw w) : ¬ ma_wv w k ≤ 32 ∧ ¬ ma_wv w k = 0 ∧ ¬ (-1 : Int32) = ma_wv w k ∧ 32 < ma_wv w k := by
  have h : ∀ w : Fin 8, ∀ k : Fin 7, k.val < ma_lw w.val → ¬ ma_wv w.val k.val ≤ 32 ∧ ¬ ma_wv w.val k.val = 0 ∧ ¬ (-1 : Int32) = ma_wv w.val k.val ∧ 32 < ma_wv w.val k.val := by decide +kernel
  have h7 := (sp_lw8 w hw).2
  exact h ⟨w, hw⟩ ⟨k, by omega⟩ hk
theorem sp_MTw {m : ma_S} {L : Nat → Int32} {Z s : Nat} {S : Nat → Int32} {T : Nat → Nat → Int32} (h : sp_MT m L Z s S T) (w k : Nat) (hw : w < 8) (hk : k ≤ ma_lw w + 1) : ma_in (nI (sp_wp w + k)) 57 ∧ (nI (sp_wp w + k)).toNatClampNeg = sp_wp w + k ∧ T (sp_wp w + k) 12 = sp_wl w k := by
  obtain ⟨e1, e2⟩ := sp_wp8 w k hw hk
  have hi := nI_toInt (n := sp_wp w + k) (by omega)
  exact ⟨ma_inI (by omega) (by omega), nI_clamp (by omega), (h.2.2.2.2.1.1 _ e1).trans e2⟩
theorem sp_MTc {m : ma_S} {L : Nat → Int32} {Z s : Nat} {S : Nat → Int32} {T : Nat → Nat → Int32} (h : sp_MT m L Z s S T) (q : Nat) (hq : q < Z) : ma_in (nI (160 * s + q)) 1280 ∧ Int64.toInt32 (m.2 10 (nI (160 * s + q)).toNatClampNeg) = sp_lt L Z q := by
  obtain ⟨h1, h2, h3, h4, h5, h6⟩ := h
  have hi := nI_toInt (n := 160 * s + q) (by omega)
  refine ⟨ma_inI (by omega) (by omega), ?_⟩
  rw [nI_clamp (by omega), h6 q hq]
  exact (if_pos hq).symm
section MW
variable (d Z s a : Nat) (m : ma_S) (L S : Nat → Int32) (T : Nat → Nat → Int32)
theorem cm_isW_loop (hM : sp_MT m L Z s S T) (ha : a < 1000) : ∀ c k, k + c = 5 → ma_ex d 137 37 [some (vR 20 0 0), some (vI 0), some (vI (nI k)), some (vI (nI (a + k)))] [] (ma_mh m S T) = some (some (vI (b2i (sp_sm L Z a 0 c k = 5))), ma_mh m S T) := by
  obtain ⟨g1, g2, g3, g4, g5, g6⟩ := id hM
  have z0 : sp_wp 0 = 0 := rfl
  have l0 : ma_lw 0 = 5 := rfl
  intro c
  induction c with
  | zero =>
    intro k h
    have e : k = 5 := by omega
    subst e
    obtain ⟨w1, w2, w3⟩ := sp_MTw hM 0 5 (by omega) (by omega)
    rw [z0, Nat.zero_add] at w1 w2 w3
    have e32 : sp_wl 0 5 = 32 := by decide
    rw [e32] at w3
    have e5 : sp_sm L Z a 0 0 5 = 5 := rfl
    have b1 : b2i (5 = 5) = 1 := rfl
    rw [e5, b1]
    simp (decide := true) only [bk_137_37, bk_137_86, bk_137_97, bk_137_102, ma_if_pos w1, w2, ma_mh_A, w3, ↓reduceIte, ma_bd_some, ma_bd_none, ma_tl1, ma_tl0, ma_ap1, ma_ap0, b2i_0, b2i_1, b2i_01, ma_l10, ma_l01, eq_self, true_or, or_true, not_true_eq_false, not_false_eq_true, Bool.false_eq_true]
  | succ c ih =>
    intro k h
    obtain ⟨w1, w2, w3⟩ := sp_MTw hM 0 k (by omega) (by omega)
    rw [z0, Nat.zero_add] at w1 w2 w3
    have ewl : sp_wl 0 k = ma_wv 0 k := if_pos (by omega)
    rw [ewl] at w3
    obtain ⟨v1, v2, v3, v4⟩ := sp_wl8 0 k (by omega) (by omega)
    have v1' := eq_false v1
    have v4' := eq_true v4
    have hst : sp_sm L Z a 0 (c + 1) k = if sp_lt L Z (a + k) = ma_wv 0 k then sp_sm L Z a 0 c (k + 1) else k := rfl
    have bk : b2i (k = 5) = 0 := b2i_f (by omega)
    rw [hst]
    by_cases hz : a + k < Z
    · obtain ⟨c1, c2⟩ := sp_MTc hM (a + k) hz
      have cz : (nI Z ≤ nI (a + k)) = False := eq_false (nI_ge hz (by omega))
      rcases Classical.propComplete (sp_lt L Z (a + k) = ma_wv 0 k) with e | e
      · rw [if_pos (of_eq_true e), ← ih (k + 1) (by omega), bk_137_37, ma_if_pos w1, w2, ma_mh_A, w3, if_neg v1]
        simp only [bk_137_48, bk_137_56, bk_137_77, ma_if_pos w1, w2, ma_mh_A, ma_mh_F, ma_mh_J, g1, g2, w3, v1', cz, nI_add, ma_if_pos c1, c2, e, nI_1, Nat.add_assoc, ↓reduceIte, ma_bd_some, ma_bd_none, ma_tl1, ma_tl0, ma_ap1, ma_ap0, b2i_0, b2i_1, b2i_01, ma_l10, ma_l01, eq_self, true_or, or_true, not_true_eq_false, not_false_eq_true, Bool.false_eq_true]
      · rw [if_neg (of_eq_false e), bk]
        simp (decide := true) only [bk_137_37, bk_137_48, bk_137_56, bk_137_86, bk_137_101, bk_137_102, ma_if_pos w1, w2, ma_mh_A, ma_mh_F, ma_mh_J, g1, g2, w3, v1', v4', cz, nI_add, ma_if_pos c1, c2, e, ↓reduceIte, ma_bd_some, ma_bd_none, ma_tl1, ma_tl0, ma_ap1, ma_ap0, b2i_0, b2i_1, b2i_01, ma_l10, ma_l01, eq_self, true_or, or_true, not_true_eq_false, not_false_eq_true, Bool.false_eq_true]
    · have cz : (nI Z ≤ nI (a + k)) = True := eq_true (nI_le (by omega) (by omega))
      have el : sp_lt L Z (a + k) = -1 := if_neg hz
      rw [el, if_neg v3, bk]
      simp (decide := true) only [bk_137_37, bk_137_48, bk_137_86, bk_137_101, bk_137_102, ma_if_pos w1, w2, ma_mh_A, ma_mh_F, g1, g2, w3, v1', v4', cz, ↓reduceIte, ma_bd_some, ma_bd_none, ma_tl1, ma_tl0, ma_ap1, ma_ap0, b2i_0, b2i_1, b2i_01, ma_l10, ma_l01, eq_self, true_or, or_true, not_true_eq_false, not_false_eq_true, Bool.false_eq_true]
theorem cm_isWordAt (hM : sp_MT m L Z s S T) (ha : a < 1000) (h27 : S 27 = nI a) : ma_cal (d + 1) 137 [vR 20 0 0, vI 0] (ma_mh m S T) = some (some (vI (b2i (sp_same L Z a 0 = ma_lw 0))), ma_mh m S T) := by
  have h := cm_isW_loop d Z s a m L S T hM ha 5 0 (by omega)
  rw [nI_0, Nat.add_zero] at h
  rw [en_137]
  simp (decide := true) only [bk_137_0, bk_137_4, bk_137_32, ma_mh_F, h27, h, ↓reduceIte, ma_bd_some, ma_bd_none, ma_tl1, ma_tl0, ma_ap1, ma_ap0, b2i_0, b2i_1, b2i_01, ma_l10, ma_l01, eq_self, true_or, or_true, not_true_eq_false, not_false_eq_true, Bool.false_eq_true]
  rfl
/-- as sp_sm, with the blank behind the word -/
def sp_sb (L : Nat → Int32) (Z a w : Nat) : Nat → Nat → Nat
  | 0, k => k
  | c + 1, k => if sp_lt L Z (a + k) = sp_wl w k then sp_sb L Z a w c (k + 1) else k
theorem sp_sb_sm (w : Nat) : ∀ c k, k + c = ma_lw w → sp_sb L Z a w (c + 1) k = if sp_sm L Z a w c k = ma_lw w then (if sp_lt L Z (a + ma_lw w) = 32 then ma_lw w + 1 else ma_lw w) else sp_sm L Z a w c k := by
  intro c
  induction c with
  | zero =>
    intro k h
    have e : k = ma_lw w := by omega
    subst e
    have e2 : sp_sm L Z a w 0 (ma_lw w) = ma_lw w := rfl
    have e3 : sp_wl w (ma_lw w) = 32 := by unfold sp_wl; rw [if_neg (by omega), if_pos rfl]
    rw [e2, if_pos rfl]
    show (if sp_lt L Z (a + ma_lw w) = sp_wl w (ma_lw w) then ma_lw w + 1 else ma_lw w) = _
    rw [e3]
  | succ c ih =>
    intro k h
    have e3 : sp_wl w k = ma_wv w k := by unfold sp_wl; rw [if_pos (by omega)]
    have e1 : sp_sb L Z a w (c + 1 + 1) k = if sp_lt L Z (a + k) = sp_wl w k then sp_sb L Z a w (c + 1) (k + 1) else k := rfl
    have e2 : sp_sm L Z a w (c + 1) k = if sp_lt L Z (a + k) = ma_wv w k then sp_sm L Z a w c (k + 1) else k := rfl
    rw [e1, e2, e3]
    by_cases c1 : sp_lt L Z (a + k) = ma_wv w k
    · rw [if_pos c1, if_pos c1, ih (k + 1) (by omega)]
    · rw [if_neg c1, if_neg c1, if_neg (by omega)]
def sp_sbv (L : Nat → Int32) (Z a w : Nat) : Nat := sp_sb L Z a w (ma_lw w + 1) 0
theorem sp_sbv_same (w : Nat) : sp_sbv L Z a w = if sp_same L Z a w = ma_lw w then (if sp_lt L Z (a + ma_lw w) = 32 then ma_lw w + 1 else ma_lw w) else sp_same L Z a w := sp_sb_sm Z a L w (ma_lw w) 0 (by omega)
theorem sp_sbv_le (w : Nat) : sp_sbv L Z a w ≤ ma_lw w + 1 := by
  have := sp_same_le L Z a w
  rw [sp_sbv_same]
  repeat' split
  all_goals omega
theorem cm_word_in (hM : sp_MT m L Z s S T) (ha : a < 1000) (far : Int32) (w : Nat) (hw : w < 8) : ∀ c k, k + c = ma_lw w + 1 → ma_ex d 138 24 [some (vR 20 0 0), some (vI (nI (sp_wp w))), some (vI far), some (vI (nI w)), some (vI (nI (a + k))), some (vI (nI (sp_wp w + k)))] [] (ma_mh m S T) = ma_ex d 138 75 [some (vR 20 0 0), some (vI (nI (sp_wp w))), some (vI far), some (vI (nI w)), some (vI (nI (a + sp_sb L Z a w c k))), some (vI (nI (sp_wp w + sp_sb L Z a w c k)))] [] (ma_mh m S T) := by
  obtain ⟨g1, g2, g3, g4, g5, g6⟩ := id hM
  have h7 := (sp_lw8 w hw).2
  intro c
  induction c with
  | zero =>
    intro k h
    have e : k = ma_lw w + 1 := by omega
    subst e
    obtain ⟨w1, w2, w3⟩ := sp_MTw hM w (ma_lw w + 1) hw (by omega)
    have e0 : sp_wl w (ma_lw w + 1) = 0 := by unfold sp_wl; rw [if_neg (by omega), if_neg (by omega)]
    rw [e0] at w3
    have e5 : sp_sb L Z a w 0 (ma_lw w + 1) = ma_lw w + 1 := rfl
    rw [e5]
    simp only [bk_138_24, ma_if_pos w1, w2, ma_mh_A, w3, ↓reduceIte, ma_bd_some, ma_bd_none, ma_tl1, ma_tl0, ma_ap1, ma_ap0, b2i_0, b2i_1, b2i_01, ma_l10, ma_l01, eq_self, true_or, or_true, not_true_eq_false, not_false_eq_true, Bool.false_eq_true]
  | succ c ih =>
    intro k h
    obtain ⟨w1, w2, w3⟩ := sp_MTw hM w k hw (by omega)
    have n0 : (sp_wl w k = 0) = False := eq_false (by
      unfold sp_wl
      by_cases c1 : k < ma_lw w
      · rw [if_pos c1]; exact (sp_wl8 w k hw c1).2.1
      · rw [if_neg c1, if_pos (by omega)]; decide)
    have nm : ¬ (-1 : Int32) = sp_wl w k := by
      unfold sp_wl
      by_cases c1 : k < ma_lw w
      · rw [if_pos c1]; exact (sp_wl8 w k hw c1).2.2.1
      · rw [if_neg c1, if_pos (by omega)]; decide
    have hst : sp_sb L Z a w (c + 1) k = if sp_lt L Z (a + k) = sp_wl w k then sp_sb L Z a w c (k + 1) else k := rfl
    rw [hst]
    by_cases hz : a + k < Z
    · obtain ⟨c1, c2⟩ := sp_MTc hM (a + k) hz
      have cz : (nI Z ≤ nI (a + k)) = False := eq_false (nI_ge hz (by omega))
      rcases Classical.propComplete (sp_lt L Z (a + k) = sp_wl w k) with e | e
      · rw [if_pos (of_eq_true e), ← ih (k + 1) (by omega), bk_138_24, ma_if_pos w1, w2, ma_mh_A, w3, if_neg (of_eq_false n0)]
        simp only [bk_138_34, bk_138_43, bk_138_66, ma_if_pos w1, w2, ma_mh_A, ma_mh_F, ma_mh_J, g1, g2, w3, n0, cz, nI_add, ma_if_pos c1, c2, e, nI_1, Nat.add_assoc, ↓reduceIte, ma_bd_some, ma_bd_none, ma_tl1, ma_tl0, ma_ap1, ma_ap0, b2i_0, b2i_1, b2i_01, ma_l10, ma_l01, eq_self, true_or, or_true, not_true_eq_false, not_false_eq_true, Bool.false_eq_true]
      · rw [if_neg (of_eq_false e)]
        simp only [bk_138_24, bk_138_34, bk_138_43, ma_if_pos w1, w2, ma_mh_A, ma_mh_F, ma_mh_J, g1, g2, w3, n0, cz, nI_add, ma_if_pos c1, c2, e, ↓reduceIte, ma_bd_some, ma_bd_none, ma_tl1, ma_tl0, ma_ap1, ma_ap0, b2i_0, b2i_1, b2i_01, ma_l10, ma_l01, eq_self, true_or, or_true, not_true_eq_false, not_false_eq_true, Bool.false_eq_true]
    · have cz : (nI Z ≤ nI (a + k)) = True := eq_true (nI_le (by omega) (by omega))
      have el : sp_lt L Z (a + k) = -1 := if_neg hz
      rw [el, if_neg nm]
      simp only [bk_138_24, bk_138_34, ma_if_pos w1, w2, ma_mh_A, ma_mh_F, g2, w3, n0, cz, ↓reduceIte, ma_bd_some, ma_bd_none, ma_tl1, ma_tl0, ma_ap1, ma_ap0, b2i_0, b2i_1, b2i_01, ma_l10, ma_l01, eq_self, true_or, or_true, not_true_eq_false, not_false_eq_true, Bool.false_eq_true]
theorem cm_word_skip (hM : sp_MT m L Z s S T) (far : Int32) (w : Nat) (hw : w < 8) (u4 u5 : Int32) : ∀ c k, k + c = ma_lw w + 1 → ma_ex d 138 106 [some (vR 20 0 0), some (vI (nI (sp_wp w + k))), some (vI far), some (vI (nI w)), some (vI u4), some (vI u5)] [] (ma_mh m S T) = ma_ex d 138 9 [some (vR 20 0 0), some (vI (nI (sp_wp (w + 1)))), some (vI far), some (vI (nI (w + 1))), some (vI u4), some (vI u5)] [] (ma_mh m S T) := by
  intro c
  induction c with
  | zero =>
    intro k h
    have e : k = ma_lw w + 1 := by omega
    subst e
    obtain ⟨w1, w2, w3⟩ := sp_MTw hM w (ma_lw w + 1) hw (by omega)
    have e0 : sp_wl w (ma_lw w + 1) = 0 := by unfold sp_wl; rw [if_neg (by omega), if_neg (by omega)]
    rw [e0] at w3
    have es := sp_wps w hw
    rw [es]
    simp only [bk_138_106, bk_138_121, ma_if_pos w1, w2, ma_mh_A, w3, nI_1, Nat.add_assoc, ↓reduceIte, ma_bd_some, ma_bd_none, ma_tl1, ma_tl0, ma_ap1, ma_ap0, b2i_0, b2i_1, b2i_01, ma_l10, ma_l01, eq_self, true_or, or_true, not_true_eq_false, not_false_eq_true, Bool.false_eq_true]
  | succ c ih =>
    intro k h
    obtain ⟨w1, w2, w3⟩ := sp_MTw hM w k hw (by omega)
    have n0 : (sp_wl w k = 0) = False := eq_false (by
      unfold sp_wl
      by_cases c1 : k < ma_lw w
      · rw [if_pos c1]; exact (sp_wl8 w k hw c1).2.1
      · rw [if_neg c1, if_pos (by omega)]; decide)
    rw [← ih (k + 1) (by omega), bk_138_106, ma_if_pos w1, w2, ma_mh_A, w3, if_neg (of_eq_false n0), bk_138_115, nI_1, Nat.add_assoc]
/-- the model's word: with its blank -/
def sp_mw (L : Nat → Int32) (Z a : Nat) : Nat → Nat → Nat → Int32 × Nat
  | 0, _, lo => (-1, lo)
  | c + 1, w, lo => if sp_sbv L Z a w = ma_lw w + 1 then (nI w, ma_lw w + 1) else sp_mw L Z a c (w + 1) (max lo (sp_sbv L Z a w))
theorem cm_word_loop (hM : sp_MT m L Z s S T) (ha : a < 1000) (h27 : S 27 = nI a) : ∀ (c w lo : Nat) (u4 u5 : Option ma_V), w + c = 8 → lo ≤ 8 → ma_ex d 138 9 [some (vR 20 0 0), some (vI (nI (sp_wp w))), some (vI (nI (a + lo))), some (vI (nI w)), u4, u5] [] (ma_mh m S T) = some (some (vI (sp_mw L Z a c w lo).1), ma_mh m (if (sp_mw L Z a c w lo).1 = -1 then upd S 30 (nI (a + (sp_mw L Z a c w lo).2)) else upd S 27 (nI (a + (sp_mw L Z a c w lo).2))) T) := by
  intro c
  induction c with
  | zero =>
    intro w lo u4 u5 hw hlo
    have e : w = 8 := by omega
    subst e
    have e2 : sp_mw L Z a 0 8 lo = (-1, lo) := rfl
    have c8 : ((8 : Int32) ≤ nI 8) = True := by decide
    rw [e2, if_pos rfl]
    simp only [bk_138_9, bk_138_130, c8, ma_mh_uF, ↓reduceIte, ma_bd_some, ma_bd_none, ma_tl1, ma_tl0, ma_ap1, ma_ap0, b2i_0, b2i_1, b2i_01, ma_l10, ma_l01, eq_self, true_or, or_true, not_true_eq_false, not_false_eq_true, Bool.false_eq_true]
  | succ c ih =>
    intro w lo u4 u5 hw hlo
    have h7 := (sp_lw8 w (by omega)).2
    have c8 : ((8 : Int32) ≤ nI w) = False := eq_false (by
      have e8 : (8 : Int32).toInt = 8 := rfl
      rw [ma_le, nI_toInt (by omega)]; omega)
    have hin := cm_word_in d Z s a m L S T hM ha (nI (a + lo)) w (by omega) (ma_lw w + 1) 0 (by omega)
    have esb : sp_sb L Z a w (ma_lw w + 1) 0 = sp_sbv L Z a w := rfl
    rw [esb, Nat.add_zero, Nat.add_zero] at hin
    have hle := sp_sbv_le Z a L w
    obtain ⟨w1, w2, w3⟩ := sp_MTw hM w (sp_sbv L Z a w) (by omega) hle
    have ewl : (sp_wl w (sp_sbv L Z a w) = 0) = (sp_sbv L Z a w = ma_lw w + 1) := by
      apply propext
      constructor
      · intro z
        apply Decidable.of_not_not
        intro z2
        unfold sp_wl at z
        by_cases c1 : sp_sbv L Z a w < ma_lw w
        · rw [if_pos c1] at z; exact (sp_wl8 w _ (by omega) c1).2.1 z
        · rw [if_neg c1, if_pos (by omega)] at z; exact absurd z (by decide)
      · intro z
        unfold sp_wl
        rw [z, if_neg (by omega), if_neg (by omega)]
    have hst : sp_mw L Z a (c + 1) w lo = if sp_sbv L Z a w = ma_lw w + 1 then (nI w, ma_lw w + 1) else sp_mw L Z a c (w + 1) (max lo (sp_sbv L Z a w)) := rfl
    rw [hst]
    rcases Classical.propComplete (sp_sbv L Z a w = ma_lw w + 1) with c2 | c2
    · have c2' := of_eq_true c2
      rw [if_pos c2']
      show _ = some (some (vI (nI w)), ma_mh m (if nI w = -1 then _ else upd S 27 (nI (a + (ma_lw w + 1)))) T)
      rw [if_neg (of_eq_false (nI_ne1 (by omega)))]
      simp only [bk_138_9, bk_138_15, bk_138_75, bk_138_85, c8, ma_mh_F, h27, hin, ma_if_pos w1, w2, ma_mh_A, w3, ewl, c2, ma_mh_uF, ↓reduceIte, ma_bd_some, ma_bd_none, ma_tl1, ma_tl0, ma_ap1, ma_ap0, b2i_0, b2i_1, b2i_01, ma_l10, ma_l01, eq_self, true_or, or_true, not_true_eq_false, not_false_eq_true, Bool.false_eq_true]
      rw [c2']
    · rw [if_neg (of_eq_false c2)]
      have hi := ih (w + 1) (max lo (sp_sbv L Z a w)) (some (vI (nI (a + sp_sbv L Z a w)))) (some (vI (nI (sp_wp w + sp_sbv L Z a w)))) (by omega) (by omega)
      have hsk := fun far => cm_word_skip d Z s m L S T hM far w (by omega) (nI (a + sp_sbv L Z a w)) (nI (sp_wp w + sp_sbv L Z a w)) (ma_lw w + 1) 0 (by omega)
      rw [Nat.add_zero] at hsk
      rw [← hi, ← hsk]
      rcases Classical.propComplete (nI (a + sp_sbv L Z a w) ≤ nI (a + lo)) with c3 | c3
      · have e3 := (nI_leI (by omega) (by omega)).mp (of_eq_true c3)
        rw [Nat.max_eq_left (by omega)]
        simp only [bk_138_9, bk_138_15, bk_138_75, bk_138_93, bk_138_104, bk_138_105, c8, ma_mh_F, h27, hin, ma_if_pos w1, w2, ma_mh_A, w3, ewl, c2, c3, ↓reduceIte, ma_bd_some, ma_bd_none, ma_tl1, ma_tl0, ma_ap1, ma_ap0, b2i_0, b2i_1, b2i_01, ma_l10, ma_l01, eq_self, true_or, or_true, not_true_eq_false, not_false_eq_true, Bool.false_eq_true]
      · have e3 : ¬ _ := fun z => of_eq_false c3 ((nI_leI (by omega) (by omega)).mpr z)
        rw [Nat.max_eq_right (by omega)]
        simp only [bk_138_9, bk_138_15, bk_138_75, bk_138_93, bk_138_99, bk_138_105, c8, ma_mh_F, h27, hin, ma_if_pos w1, w2, ma_mh_A, w3, ewl, c2, c3, ↓reduceIte, ma_bd_some, ma_bd_none, ma_tl1, ma_tl0, ma_ap1, ma_ap0, b2i_0, b2i_1, b2i_01, ma_l10, ma_l01, eq_self, true_or, or_true, not_true_eq_false, not_false_eq_true, Bool.false_eq_true]
theorem cm_word (hM : sp_MT m L Z s S T) (ha : a < 1000) (h27 : S 27 = nI a) : ma_cal (d + 1) 138 [vR 20 0 0] (ma_mh m S T) = some (some (vI (sp_mw L Z a 8 0 0).1), ma_mh m (if (sp_mw L Z a 8 0 0).1 = -1 then upd S 30 (nI (a + (sp_mw L Z a 8 0 0).2)) else upd S 27 (nI (a + (sp_mw L Z a 8 0 0).2))) T) := by
  have h := cm_word_loop d Z s a m L S T hM ha h27 8 0 0 none none (by omega) (by omega)
  have z0 : sp_wp 0 = 0 := rfl
  rw [z0, nI_0, Nat.add_zero] at h
  rw [en_138, bk_138_0, ma_mh_F, h27, h]
theorem cm_isDigit (hM : sp_MT m L Z s S T) (ha : a < 1000) (h27 : S 27 = nI a) : ma_cal (d + 1) 139 [vR 20 0 0] (ma_mh m S T) = some (some (vI (b2i (48 ≤ sp_lt L Z a ∧ sp_lt L Z a ≤ 57))), ma_mh m S T) := by
  obtain ⟨g1, g2, g3, g4, g5, g6⟩ := id hM
  rw [en_139]
  by_cases hz : a < Z
  · obtain ⟨c1, c2⟩ := sp_MTc hM a hz
    have cz : (nI Z ≤ nI a) = False := eq_false (nI_ge hz (by omega))
    rcases Classical.propComplete (48 ≤ sp_lt L Z a) with e1 | e1 <;> rcases Classical.propComplete (sp_lt L Z a ≤ 57) with e2 | e2
    all_goals simp (decide := true) only [bk_139_0, bk_139_11, bk_139_31, bk_139_51, bk_139_55, bk_139_56, ma_mh_F, ma_mh_J, g1, g2, h27, cz, nI_add, ma_if_pos c1, c2, ma_nlt (sp_lt L Z a) 48, ma_nlt 57 (sp_lt L Z a), e1, e2, and_true, and_false, and_self, b2i, ↓reduceIte, ma_bd_some, ma_bd_none, ma_tl1, ma_tl0, ma_ap1, ma_ap0, b2i_0, b2i_1, b2i_01, ma_l10, ma_l01, eq_self, true_or, or_true, not_true_eq_false, not_false_eq_true, Bool.false_eq_true]
  · have cz : (nI Z ≤ nI a) = True := eq_true (nI_le (by omega) (by omega))
    have el : sp_lt L Z a = -1 := if_neg hz
    rw [el]
    simp (decide := true) only [bk_139_0, bk_139_11, bk_139_31, bk_139_51, bk_139_55, bk_139_56, ma_mh_F, g2, h27, cz, b2i, ↓reduceIte, ma_bd_some, ma_bd_none, ma_tl1, ma_tl0, ma_ap1, ma_ap0, b2i_0, b2i_1, b2i_01, ma_l10, ma_l01, eq_self, true_or, or_true, not_true_eq_false, not_false_eq_true, Bool.false_eq_true]
end MW
