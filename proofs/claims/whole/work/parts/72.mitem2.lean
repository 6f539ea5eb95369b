/-! PART 72: HILLS from texts: the model's item, word by word. -/
def sp_NT1 (w : Nat) : Prop := w = 1 ∨ w = 2 ∨ w = 4 ∨ w = 5 ∨ w = 7
def sp_NT2 (w : Nat) : Prop := w = 0 ∨ w = 3 ∨ w = 6
section MJ
variable (d Z s : Nat) (m : ma_S) (L : Nat → Int32)
theorem cm_item_none (S : Nat → Int32) (T : Nat → Nat → Int32) (a : Nat) (ha : a < 600) (hM : sp_MT m L Z s S T) (h27 : S 27 = nI a) (h : (sp_rw L Z a 8 0 0).1 = -1) : ma_cal (d + 6) 142 [vR 20 0 0] (ma_mh m S T) = some (some (vI 0), ma_mh m (upd S 30 (nI (a + (sp_rw L Z a 8 0 0).2))) T) := by
  rcases sp_link L Z a with ⟨e1, e2, e3⟩ | ⟨w0, hw, e1, e2, _⟩
  · have hi := cm_isWordAt (d + 4) Z s a m L S T hM (by omega) h27
    have hw := cm_word (d + 4) Z s a m L S T hM (by omega) h27
    rw [e2, if_pos h, h] at hw
    have e3' := eq_false e3
    rw [en_142]
    simp only [bk_142_0, bk_142_5, bk_142_25, bk_142_29, bk_142_35, hi, e3', hw, ↓reduceIte, ma_bd_some, ma_bd_none, ma_tl1, ma_tl0, ma_ap1, ma_ap0, b2i_0, b2i_1, b2i_01, ma_l10, ma_l01, eq_self, true_or, or_true, not_true_eq_false, not_false_eq_true, Bool.false_eq_true]
  · rw [e2] at h
    exact absurd h (of_eq_false (nI_ne1 (by omega)))
theorem cm_item_room (S : Nat → Int32) (T : Nat → Nat → Int32) (a : Nat) (ha : a < 600) (hM : sp_MT m L Z s S T) (h27 : S 27 = nI a) (h0 : sp_same L Z a 0 = ma_lw 0) (h4 : S 1 = 4) : ma_cal (d + 6) 142 [vR 20 0 0] (ma_mh m S T) = some (some (vI 0), ma_mh m (upd S 30 (nI a)) T) := by
  have hi := cm_isWordAt (d + 4) Z s a m L S T hM (by omega) h27
  have e3' := eq_true h0
  have b00 : ((0 : Int32) = 0 ∨ (0 : Int32) = 1) = True := by decide
  rw [en_142]
  simp only [bk_142_0, bk_142_5, bk_142_8, bk_142_16, bk_142_24, hi, e3', ma_mh_F, h4, h27, cm_wrong, b00, ↓reduceIte, ma_bd_some, ma_bd_none, ma_tl1, ma_tl0, ma_ap1, ma_ap0, b2i_0, b2i_1, b2i_01, ma_l10, ma_l01, eq_self, true_or, or_true, not_true_eq_false, not_false_eq_true, Bool.false_eq_true]
theorem cm_item_word (S : Nat → Int32) (T : Nat → Nat → Int32) (a w0 : Nat) (ha : a < 600) (hM : sp_MT m L Z s S T) (h27 : S 27 = nI a) (hw : w0 < 8) (h0 : sp_same L Z a w0 = ma_lw w0) (hr : ¬ (w0 = 0 ∧ S 1 = 4)) : (sp_lt L Z (a + ma_lw w0) = 32 → ma_cal (d + 6) 142 [vR 20 0 0] (ma_mh m S T) = ma_ex (d + 5) 142 39 [some (vR 20 0 0), some (vI (nI w0)), some (vI (nI 0)), none] [] (ma_mh m (upd S 27 (nI (a + ma_lw w0 + 1))) T)) ∧ (sp_lt L Z (a + ma_lw w0) ≠ 32 → ma_cal (d + 6) 142 [vR 20 0 0] (ma_mh m S T) = some (some (vI 0), ma_mh m (upd S 30 (nI (a + ma_lw w0))) T)) := by
  have hi := cm_isWordAt (d + 4) Z s a m L S T hM (by omega) h27
  have hwd := cm_word (d + 4) Z s a m L S T hM (by omega) h27
  rcases sp_link L Z a with ⟨e1, e2, e3⟩ | ⟨w1, hw1, f1, f2, f3, f4⟩
  · exfalso
    obtain ⟨g1, -⟩ := sp_rw_some (L := L) (Z := Z) (a := a) hw h0 8 0 0 (Nat.zero_le _) (by omega) (by omega)
    rw [g1] at e1
    exact absurd e1 (of_eq_false (nI_ne1 (by omega)))
  · have ew : w1 = w0 := by
      apply Decidable.of_not_not
      intro hne
      have := sp_uniq (L := L) (Z := Z) (a := a) hw1 hw hne h0
      have := (sp_lw8 w1 hw1).1
      omega
    subst ew
    have hs25 : ma_cal (d + 6) 142 [vR 20 0 0] (ma_mh m S T) = ma_ex (d + 5) 142 25 [some (vR 20 0 0), none, none, none] [] (ma_mh m S T) := by
      rw [en_142]
      rcases Classical.propComplete (sp_same L Z a 0 = ma_lw 0) with c | c
      · have w00 : w1 = 0 := f4.mp (of_eq_true c)
        have n4 : (S 1 = 4) = False := eq_false (fun z => hr ⟨w00, z⟩)
        simp only [bk_142_0, bk_142_5, bk_142_8, hi, c, ma_mh_F, n4, ↓reduceIte, ma_bd_some, ma_bd_none, ma_tl1, ma_tl0, ma_ap1, ma_ap0, b2i_0, b2i_1, b2i_01, ma_l10, ma_l01, eq_self, true_or, or_true, not_true_eq_false, not_false_eq_true, Bool.false_eq_true]
      · simp only [bk_142_0, bk_142_5, hi, c, ↓reduceIte, ma_bd_some, ma_bd_none, ma_tl1, ma_tl0, ma_ap1, ma_ap0, b2i_0, b2i_1, b2i_01, ma_l10, ma_l01, eq_self, true_or, or_true, not_true_eq_false, not_false_eq_true, Bool.false_eq_true]
    have hne := nI_ne1 (j := w1) (by omega)
    rw [hs25]
    refine ⟨fun hb => ?_, fun hb => ?_⟩
    · rw [f3, if_pos hb] at hwd
      have hwd2 : ma_cal (d + 5) 138 [vR 20 0 0] (ma_mh m S T) = some (some (vI (nI w1)), ma_mh m (upd S 27 (nI (a + ma_lw w1 + 1))) T) := by
        rw [hwd]
        show some (some (vI (nI w1)), ma_mh m (if nI w1 = -1 then _ else upd S 27 (nI (a + (ma_lw w1 + 1)))) T) = _
        rw [if_neg (of_eq_false hne), Nat.add_assoc]
      simp only [bk_142_25, bk_142_29, bk_142_37, hwd2, hne, nI_0, ↓reduceIte, ma_bd_some, ma_bd_none, ma_tl1, ma_tl0, ma_ap1, ma_ap0, b2i_0, b2i_1, b2i_01, ma_l10, ma_l01, eq_self, true_or, or_true, not_true_eq_false, not_false_eq_true, Bool.false_eq_true]
    · rw [f3, if_neg hb, if_pos rfl] at hwd
      simp only [bk_142_25, bk_142_29, bk_142_35, hwd, ↓reduceIte, ma_bd_some, ma_bd_none, ma_tl1, ma_tl0, ma_ap1, ma_ap0, b2i_0, b2i_1, b2i_01, ma_l10, ma_l01, eq_self, true_or, or_true, not_true_eq_false, not_false_eq_true, Bool.false_eq_true]
theorem sp_NT1n {w : Nat} (h : sp_NT1 w) : w < 8 ∧ sp_NT.getD w 0 = 1 := by
  rcases h with rfl | rfl | rfl | rfl | rfl <;> exact ⟨by decide, by decide⟩
theorem sp_NT2n {w : Nat} (h : sp_NT2 w) : w < 8 ∧ sp_NT.getD w 0 = 2 := by
  rcases h with rfl | rfl | rfl <;> exact ⟨by decide, by decide⟩
/-- the shape of hso -/
def sp_hso (d i : Nat) (w : Int32) (m : ma_S) (S : Nat → Int32) (T : Nat → Nat → Int32) (so : Int32 → Bool) : Prop := ∀ (S' : Nat → Int32) (v : Int32), S' 29 = v → 0 ≤ v.toInt → v.toInt ≤ 999 → sp_f3 S S' → ma_cal (d + 5) 141 [vR 20 0 0, vI w, vI (nI i)] (ma_mh m S' T) = some (some (vI (b2i (so v = true))), ma_mh m S' T)
theorem cm_item_1 (S : Nat → Int32) (T : Nat → Nat → Int32) (a w : Nat) (so : Int32 → Bool) (l h : Int32) (hw : sp_NT1 w) (hb : a < 700) (hM : sp_MT m L Z s S T) (h27 : S 27 = nI (a + 1)) (hbl : sp_lt L Z a = 32) (hs : sp_soR so l h) (hso : sp_hso d 0 (nI w) m S T so) : (∀ f, sp_rn L Z l h a = .inl f → ∃ S', ma_ex (d + 5) 142 39 [some (vR 20 0 0), some (vI (nI w)), some (vI (nI 0)), none] [] (ma_mh m S T) = some (some (vI 0), ma_mh m S' T) ∧ S' 30 = nI f ∧ sp_f3 S S') ∧ (∀ p v, sp_rn L Z l h a = .inr (p, v) → ∃ S' u3, ma_ex (d + 5) 142 39 [some (vR 20 0 0), some (vI (nI w)), some (vI (nI 0)), none] [] (ma_mh m S T) = ma_ex (d + 5) 142 148 [some (vR 20 0 0), some (vI (nI w)), some (vI (nI 1)), u3] [] (ma_mh m S' (ma_uE T 0 14 v)) ∧ S' 27 = nI p ∧ sp_f3 S S') := by
  obtain ⟨hw8, hNT⟩ := sp_NT1n hw
  obtain ⟨r1, r2⟩ := cm_num2 d Z s m L S T a 0 (nI w) none so l h hb (by omega) hM h27 hbl hs hso
  have h39 := cm_item39 d Z s m L S T w 0 none hw8 (by omega) hM
  rw [hNT, if_neg (by decide), if_pos rfl] at h39
  rw [h39]
  refine ⟨r1, fun p v e => ?_⟩
  obtain ⟨S', i1, i2, i3⟩ := r2 p v e
  have hM' : sp_MT m L Z s S' (ma_uE T 0 14 v) := sp_MT_T Z s m L (sp_MT_S hM (i3 26 (by omega) (by omega) (by omega)) (i3 28 (by omega) (by omega) (by omega))) (fun r q hq => sp_uE14 T 0 r q v (by omega))
  have h39b := cm_item39 d Z s m L S' (ma_uE T 0 14 v) w 1 (some (vI (nI (a + 1)))) hw8 (by omega) hM'
  rw [hNT, if_pos (by decide)] at h39b
  exact ⟨S', _, i1.trans h39b, i2, i3⟩
theorem cm_item_2 (S : Nat → Int32) (T : Nat → Nat → Int32) (a w : Nat) (so0 so1 : Int32 → Bool) (l0 h0 l1 h1 : Int32) (hw : sp_NT2 w) (hb : a < 300) (hM : sp_MT m L Z s S T) (h27 : S 27 = nI (a + 1)) (hbl : sp_lt L Z a = 32) (hs0 : sp_soR so0 l0 h0) (hso0 : sp_hso d 0 (nI w) m S T so0) : (∀ f, sp_rn L Z l0 h0 a = .inl f → ∃ S', ma_ex (d + 5) 142 39 [some (vR 20 0 0), some (vI (nI w)), some (vI (nI 0)), none] [] (ma_mh m S T) = some (some (vI 0), ma_mh m S' T) ∧ S' 30 = nI f ∧ sp_f3 S S') ∧ (∀ p v, sp_rn L Z l0 h0 a = .inr (p, v) → sp_soR so1 l1 h1 → (∀ S1, sp_f3 S S1 → sp_hso d 1 (nI w) m S1 (ma_uE T 0 14 v) so1) → (∀ f, sp_rn L Z l1 h1 p = .inl f → ∃ S', ma_ex (d + 5) 142 39 [some (vR 20 0 0), some (vI (nI w)), some (vI (nI 0)), none] [] (ma_mh m S T) = some (some (vI 0), ma_mh m S' (ma_uE T 0 14 v)) ∧ S' 30 = nI f ∧ sp_f3 S S') ∧ (∀ p2 v2, sp_rn L Z l1 h1 p = .inr (p2, v2) → ∃ S' u3, ma_ex (d + 5) 142 39 [some (vR 20 0 0), some (vI (nI w)), some (vI (nI 0)), none] [] (ma_mh m S T) = ma_ex (d + 5) 142 148 [some (vR 20 0 0), some (vI (nI w)), some (vI (nI 2)), u3] [] (ma_mh m S' (ma_uE (ma_uE T 0 14 v) 1 14 v2)) ∧ S' 27 = nI p2 ∧ sp_f3 S S')) := by
  obtain ⟨hw8, hNT⟩ := sp_NT2n hw
  obtain ⟨r1, r2⟩ := cm_num2 d Z s m L S T a 0 (nI w) none so0 l0 h0 (by omega) (by omega) hM h27 hbl hs0 hso0
  have h39 := cm_item39 d Z s m L S T w 0 none hw8 (by omega) hM
  rw [hNT, if_neg (by decide), if_pos rfl] at h39
  rw [h39]
  refine ⟨r1, fun p v e hs1 hso1 => ?_⟩
  obtain ⟨S1, i1, i2, i3⟩ := r2 p v e
  have hpb := sp_rn_in e
  have hM1 : sp_MT m L Z s S1 (ma_uE T 0 14 v) := sp_MT_T Z s m L (sp_MT_S hM (i3 26 (by omega) (by omega) (by omega)) (i3 28 (by omega) (by omega) (by omega))) (fun r q hq => sp_uE14 T 0 r q v (by omega))
  have hp8 : p < 700 := by
    have := hM.2.2.1
    omega
  have h39b := cm_item39 d Z s m L S1 (ma_uE T 0 14 v) w 1 (some (vI (nI (a + 1)))) hw8 (by omega) hM1
  rw [hNT, if_neg (by decide), if_neg (by omega)] at h39b
  obtain ⟨b1, b2⟩ := cm_item53 d Z s m L S1 (ma_uE T 0 14 v) (nI w) (nI 1) (some (vI (nI (a + 1)))) p (by omega) hM1 i2
  by_cases hbp : sp_lt L Z p = 32
  · have hM2 : sp_MT m L Z s (upd S1 27 (nI (p + 1))) (ma_uE T 0 14 v) := sp_MT_S hM1 rfl rfl
    have hf2 : sp_f3 S (upd S1 27 (nI (p + 1))) := fun q a1 a2 a3 => by
      unfold upd
      rw [if_neg a1]
      exact i3 q a1 a2 a3
    obtain ⟨t1, t2⟩ := cm_num2 d Z s m L (upd S1 27 (nI (p + 1))) (ma_uE T 0 14 v) p 1 (nI w) (some (vI (nI (a + 1)))) so1 l1 h1 hp8 (by omega) hM2 rfl hbp hs1 (hso1 _ hf2)
    have hpre := (i1.trans h39b).trans (b1 hbp)
    refine ⟨fun f ef => ?_, fun p2 v2 ef => ?_⟩
    · obtain ⟨S', j1, j2, j3⟩ := t1 f ef
      exact ⟨S', hpre.trans j1, j2, sp_f3_t hf2 j3⟩
    · obtain ⟨S', j1, j2, j3⟩ := t2 p2 v2 ef
      have hM3 : sp_MT m L Z s S' (ma_uE (ma_uE T 0 14 v) 1 14 v2) := sp_MT_T Z s m L (sp_MT_S hM2 (j3 26 (by omega) (by omega) (by omega)) (j3 28 (by omega) (by omega) (by omega))) (fun r q hq => sp_uE14 _ 1 r q v2 (by omega))
      have h39c := cm_item39 d Z s m L S' (ma_uE (ma_uE T 0 14 v) 1 14 v2) w 2 (some (vI (nI (p + 1)))) hw8 (by omega) hM3
      rw [hNT, if_pos (by decide)] at h39c
      exact ⟨S', _, (hpre.trans j1).trans h39c, j2, sp_f3_t hf2 j3⟩
  · have hpre := (i1.trans h39b).trans (b2 hbp)
    have en : sp_rn L Z l1 h1 p = .inl p := if_neg hbp
    refine ⟨fun f ef => ?_, fun p2 v2 ef => ?_⟩
    · rw [en] at ef
      cases ef
      refine ⟨upd S1 30 (nI p), hpre, rfl, fun q a1 a2 a3 => ?_⟩
      unfold upd
      rw [if_neg a3]
      exact i3 q a1 a2 a3
    · rw [en] at ef
      cases ef
/-- what the last words do -/
theorem cm_fin_12 (S : Nat → Int32) (T : Nat → Nat → Int32) (w : Nat) (i : Int32) (u3 : Option ma_V) (v : Int32) (hw : w = 1 ∨ w = 2) (hv : ma_in v 4) (ht : T 0 14 = v) : ma_ex (d + 5) 142 148 [some (vR 20 0 0), some (vI (nI w)), some (vI i), u3] [] (ma_mh m S T) = some (some (vI 1), ma_mh m S (ma_uE T v.toNatClampNeg 3 (if w = 1 then 1 else 0))) := by
  have hin : ma_in (0 : Int32) 2 := ⟨by decide, by decide⟩
  have c0 : Int32.toNatClampNeg 0 = 0 := by decide
  have q1 : (2 : Int32) - 1 = 1 := by decide
  have q2 : (2 : Int32) - 2 = 0 := by decide
  have b1 : ((1 : Int32) = 0 ∨ (1 : Int32) = 1) = True := by decide
  rcases hw with rfl | rfl
  · have z1 : nI 1 = 1 := rfl
    simp (decide := true) only [bk_142_148, bk_142_212, bk_142_306, z1, ma_if_pos hin, c0, ma_mh_A, ht, ma_if_pos hv, ma_mh_uE, q1, b1, ↓reduceIte, ma_bd_some, ma_bd_none, ma_tl1, ma_tl0, ma_ap1, ma_ap0, b2i_0, b2i_1, b2i_01, ma_l10, ma_l01, eq_self, true_or, or_true, not_true_eq_false, not_false_eq_true, Bool.false_eq_true]
  · have z2 : nI 2 = 2 := rfl
    simp (decide := true) only [bk_142_148, bk_142_212, bk_142_306, z2, ma_if_pos hin, c0, ma_mh_A, ht, ma_if_pos hv, ma_mh_uE, q2, b1, ↓reduceIte, ma_bd_some, ma_bd_none, ma_tl1, ma_tl0, ma_ap1, ma_ap0, b2i_0, b2i_1, b2i_01, ma_l10, ma_l01, eq_self, true_or, or_true, not_true_eq_false, not_false_eq_true, Bool.false_eq_true]
theorem cm_fin_45 (S : Nat → Int32) (T : Nat → Nat → Int32) (w : Nat) (i : Int32) (u3 : Option ma_V) (v : Int32) (hw : w = 4 ∨ w = 5) (ht : T 0 14 = v) : ma_ex (d + 5) 142 148 [some (vR 20 0 0), some (vI (nI w)), some (vI i), u3] [] (ma_mh m S T) = some (some (vI 1), ma_mh m (upd S w v) T) := by
  have hin : ma_in (0 : Int32) 2 := ⟨by decide, by decide⟩
  have c0 : Int32.toNatClampNeg 0 = 0 := by decide
  have b1 : ((1 : Int32) = 0 ∨ (1 : Int32) = 1) = True := by decide
  rcases hw with rfl | rfl
  · have z1 : nI 4 = 4 := rfl
    have q : (4 : Int32) - 4 = 0 := by decide
    simp (decide := true) only [bk_142_148, bk_142_252, bk_142_265, bk_142_306, en_134, bk_134_0, bk_134_4, bk_134_11, bk_134_16, bk_134_23, bk_134_28, bk_134_35, bk_134_39, bk_134_68, bk_134_76, bk_134_84, bk_134_92, bk_134_97, z1, q, ma_if_pos hin, c0, ma_mh_A, ht, ma_mh_uF, b1, ↓reduceIte, ma_bd_some, ma_bd_none, ma_tl1, ma_tl0, ma_ap1, ma_ap0, b2i_0, b2i_1, b2i_01, ma_l10, ma_l01, eq_self, true_or, or_true, not_true_eq_false, not_false_eq_true, Bool.false_eq_true]
  · have z2 : nI 5 = 5 := rfl
    have q : (5 : Int32) - 4 = 1 := by decide
    simp (decide := true) only [bk_142_148, bk_142_252, bk_142_265, bk_142_306, en_134, bk_134_0, bk_134_4, bk_134_11, bk_134_16, bk_134_23, bk_134_28, bk_134_35, bk_134_39, bk_134_68, bk_134_76, bk_134_84, bk_134_92, bk_134_97, z2, q, ma_if_pos hin, c0, ma_mh_A, ht, ma_mh_uF, b1, ↓reduceIte, ma_bd_some, ma_bd_none, ma_tl1, ma_tl0, ma_ap1, ma_ap0, b2i_0, b2i_1, b2i_01, ma_l10, ma_l01, eq_self, true_or, or_true, not_true_eq_false, not_false_eq_true, Bool.false_eq_true]
theorem cm_fin_0 (S : Nat → Int32) (T : Nat → Nat → Int32) (n : Nat) (i : Int32) (u3 : Option ma_V) (v v2 : Int32) (hF : S 1 = nI n) (hn : n < 4) (ht : T 0 14 = v) (ht2 : T 1 14 = v2) : ma_ex (d + 5) 142 148 [some (vR 20 0 0), some (vI (nI 0)), some (vI i), u3] [] (ma_mh m S T) = some (some (vI 1), ma_mh m (upd S 1 (nI (n + 1))) (ma_uG T n (sp_newR v v2 (T n)))) := by
  have hin : ma_in (0 : Int32) 2 := ⟨by decide, by decide⟩
  have hin1 : ma_in (1 : Int32) 2 := ⟨by decide, by decide⟩
  have c0 : Int32.toNatClampNeg 0 = 0 := by decide
  have c1 : Int32.toNatClampNeg 1 = 1 := by decide
  have b1 : ((1 : Int32) = 0 ∨ (1 : Int32) = 1) = True := by decide
  have ha := cm_adds (d + 4) n v v2 m S T hF hn
  simp (decide := true) only [bk_142_148, bk_142_192, bk_142_208, bk_142_306, nI_0, ma_if_pos hin, ma_if_pos hin1, c0, c1, ma_mh_A, ht, ht2, ha, b1, ↓reduceIte, ma_bd_some, ma_bd_none, ma_tl1, ma_tl0, ma_ap1, ma_ap0, b2i_0, b2i_1, b2i_01, ma_l10, ma_l01, eq_self, true_or, or_true, not_true_eq_false, not_false_eq_true, Bool.false_eq_true]
theorem cm_fin_3 (S : Nat → Int32) (T : Nat → Nat → Int32) (i : Int32) (u3 : Option ma_V) (v v2 : Int32) (ht : T 0 14 = v) (ht2 : T 1 14 = v2) : ma_ex (d + 5) 142 148 [some (vR 20 0 0), some (vI (nI 3)), some (vI i), u3] [] (ma_mh m S T) = some (some (vI 1), ma_mh m (upd (upd S 2 v) 3 v2) T) := by
  have hin : ma_in (0 : Int32) 2 := ⟨by decide, by decide⟩
  have hin1 : ma_in (1 : Int32) 2 := ⟨by decide, by decide⟩
  have c0 : Int32.toNatClampNeg 0 = 0 := by decide
  have c1 : Int32.toNatClampNeg 1 = 1 := by decide
  have b1 : ((1 : Int32) = 0 ∨ (1 : Int32) = 1) = True := by decide
  have z3 : nI 3 = 3 := rfl
  simp (decide := true) only [bk_142_148, bk_142_229, bk_142_306, z3, ma_if_pos hin, ma_if_pos hin1, c0, c1, ma_mh_A, ma_mh_uF, ht, ht2, b1, ↓reduceIte, ma_bd_some, ma_bd_none, ma_tl1, ma_tl0, ma_ap1, ma_ap0, b2i_0, b2i_1, b2i_01, ma_l10, ma_l01, eq_self, true_or, or_true, not_true_eq_false, not_false_eq_true, Bool.false_eq_true]
theorem cm_fin_6 (S : Nat → Int32) (T : Nat → Nat → Int32) (i : Int32) (u3 : Option ma_V) (v v2 : Int32) (ht : T 0 14 = v) (ht2 : T 1 14 = v2) : ma_ex (d + 5) 142 148 [some (vR 20 0 0), some (vI (nI 6)), some (vI i), u3] [] (ma_mh m S T) = some (some (vI 1), ma_mh m (upd (upd S 6 v) 7 v2) T) := by
  have hin : ma_in (0 : Int32) 2 := ⟨by decide, by decide⟩
  have hin1 : ma_in (1 : Int32) 2 := ⟨by decide, by decide⟩
  have c0 : Int32.toNatClampNeg 0 = 0 := by decide
  have c1 : Int32.toNatClampNeg 1 = 1 := by decide
  have b1 : ((1 : Int32) = 0 ∨ (1 : Int32) = 1) = True := by decide
  have z3 : nI 6 = 6 := rfl
  simp (decide := true) only [bk_142_148, bk_142_269, bk_142_280, bk_142_292, bk_142_306, en_134, bk_134_0, bk_134_4, bk_134_11, bk_134_16, bk_134_23, bk_134_28, bk_134_35, bk_134_39, bk_134_68, bk_134_76, bk_134_84, bk_134_92, bk_134_97, z3, ma_if_pos hin, ma_if_pos hin1, c0, c1, ma_mh_A, ma_mh_uF, ht, ht2, b1, ↓reduceIte, ma_bd_some, ma_bd_none, ma_tl1, ma_tl0, ma_ap1, ma_ap0, b2i_0, b2i_1, b2i_01, ma_l10, ma_l01, eq_self, true_or, or_true, not_true_eq_false, not_false_eq_true, Bool.false_eq_true]
theorem cm_fin_7 (S : Nat → Int32) (T : Nat → Nat → Int32) (i : Int32) (u3 : Option ma_V) (v : Int32) (ht : T 0 14 = v) (hk : sp_ok S T) (hv : sp_isM (S 1) v = true) : ma_ex (d + 5) 142 148 [some (vR 20 0 0), some (vI (nI 7)), some (vI i), u3] [] (ma_mh m S T) = some (some (vI 1), ma_mh m (sp_mvF S T v) (sp_mvG S T v)) := by
  have hin : ma_in (0 : Int32) 2 := ⟨by decide, by decide⟩
  have c0 : Int32.toNatClampNeg 0 = 0 := by decide
  have b1 : ((1 : Int32) = 0 ∨ (1 : Int32) = 1) = True := by decide
  have z3 : nI 7 = 7 := rfl
  have hm := cm_mhMoves (d + 1) v m S T hk hv
  simp (decide := true) only [bk_142_148, bk_142_296, bk_142_306, z3, ma_if_pos hin, c0, ma_mh_A, ht, hm, b1, ↓reduceIte, ma_bd_some, ma_bd_none, ma_tl1, ma_tl0, ma_ap1, ma_ap0, b2i_0, b2i_1, b2i_01, ma_l10, ma_l01, eq_self, true_or, or_true, not_true_eq_false, not_false_eq_true, Bool.false_eq_true]
end MJ
