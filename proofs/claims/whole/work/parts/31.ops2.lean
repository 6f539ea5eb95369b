/-! PART 31: calls: seed, ask, sledges, riderOf, tell. -/
theorem sp_ok_uF {F : Nat → Int32} {G : Nat → Nat → Int32} {k : Nat} {v : Int32} (hk : sp_ok F G) (h1 : 2 ≤ k) (h4 : k = 4 → 0 ≤ v.toInt ∧ v.toInt ≤ 999) (h6 : k = 6 ∨ k = 7 → 1 ≤ v.toInt ∧ v.toInt ≤ 9) : sp_ok (upd F k v) G := by
  obtain ⟨a1, a2, a3, a4, a5, a6, a7, a8, hr⟩ := hk
  have e1 : upd F k v 1 = F 1 := if_neg (by omega)
  unfold sp_ok
  rw [e1]
  refine ⟨a1, a2, ?_, ?_, ?_, ?_, ?_, ?_, hr⟩
  all_goals
    unfold upd
    split
    · rename_i e; subst e; have := h4; have := h6; simp at *; omega
    · assumption
theorem ma_IvH_uF {t k : Nat} {v : Int32} {F S : Nat → Int32} {G T : Nat → Nat → Int32} (h1 : 2 ≤ k) (hok : sp_ok (upd F k v) G) (hi : ma_IvH t F G S T) : ma_IvH t (upd F k v) G (upd S k v) T := by
  have e1 : upd F k v 1 = F 1 := if_neg (by omega)
  refine ⟨⟨fun q a b => ?_, fun r hr => hi.1.2 r (by rw [e1] at hr; exact hr)⟩, hok, fun r hr => hi.2.2.1 r (by rw [e1] at hr; exact hr), hi.2.2.2⟩
  unfold upd
  split
  · rfl
  · exact hi.1.1 q a b
theorem ma_sh_u (σ : ma_S) (i k : Nat) (v : Int32) : ma_u σ 2 i 0 k v = ma_sh σ i (upd (σ.1 2 i 0) k v) (σ.1 4 i) := by
  have h := ma_sh_uF σ i k (σ.1 2 i 0) (σ.1 4 i) v
  rw [ma_sh_id] at h
  exact h
theorem ma_sh_ur (σ : ma_S) (i r k : Nat) (v : Int32) : ma_u σ 4 i r k v = ma_sh σ i (σ.1 2 i 0) (ma_uG (σ.1 4 i) r (upd (σ.1 4 i r) k v)) := by
  have h := ma_sh_uG σ i r k (σ.1 2 i 0) (σ.1 4 i) v
  rw [ma_sh_id] at h
  exact h
theorem ma_mh_ur (σ : ma_S) (r k : Nat) (v : Int32) : ma_u σ 50 k 0 r v = ma_mh σ (σ.1 20 0 0) (ma_uG (ma_G σ) r (upd (ma_G σ r) k v)) := by
  have h := ma_mh_uA σ k r (σ.1 20 0 0) (ma_G σ) v
  rw [ma_mh_id] at h
  exact h
theorem ma_Iv_uF {t k : Nat} {x m : ma_S} {v : Int32} (h1 : 2 ≤ k) (h8 : k ≤ 8) (h4 : k = 4 → 0 ≤ v.toInt ∧ v.toInt ≤ 999) (h6 : k = 6 ∨ k = 7 → 1 ≤ v.toInt ∧ v.toInt ≤ 9) (hi : ma_Iv t x m) : ma_Iv t (ma_u x 2 0 0 k v) (ma_u m 20 0 0 k v) := by
  rw [ma_sh_u, ma_mh_u]
  have e1 : upd (x.1 2 0 0) k v 1 = x.1 2 0 0 1 := if_neg (by omega)
  exact ma_Iv_hill (Nat.le_refl t) hi (ma_IvH_uF h1 (sp_ok_uF hi.1.2.1 h1 h4 h6) hi.1) (by rw [e1]; exact Int.le_refl _) (fun q hq => if_neg (by omega)) (fun _ _ _ => rfl)
theorem ma_Iv_uG {t r k : Nat} {x m : ma_S} {v : Int32} (hk3 : 3 ≤ k) (hk4 : k ≤ 4) (h3 : k = 3 → v = 0 ∨ v = 1) (h4 : k = 4 → 0 ≤ v.toInt ∧ v.toInt ≤ 99) (hi : ma_Iv t x m) : ma_Iv t (ma_u x 4 0 r k v) (ma_u m 50 k 0 r v) := by
  rw [ma_sh_ur, ma_mh_ur]
  obtain ⟨⟨⟨hF, hG⟩, hok, hrb, hnum⟩, _⟩ := hi
  rename_i hrest
  have hi2 : ma_Iv t x m := ⟨⟨⟨hF, hG⟩, hok, hrb, hnum⟩, hrest⟩
  refine ma_Iv_hill (Nat.le_refl t) hi2 ⟨⟨hF, fun q hq p a b => ?_⟩, ?_, fun q hq => ?_, fun q hq => ?_⟩ (Int.le_refl _) (fun q hq => rfl) (fun q p hp => ?_)
  · unfold ma_uG
    split
    · rename_i e; subst e
      unfold upd
      split
      · rfl
      · exact hG q hq p a b
    · exact hG q hq p a b
  · obtain ⟨a1, a2, a3, a4, a5, a6, a7, a8, hr⟩ := hok
    refine ⟨a1, a2, a3, a4, a5, a6, a7, a8, fun q hq => ?_⟩
    obtain ⟨b1, b2, b3, b4⟩ := hr q hq
    unfold ma_uG
    split
    · rename_i e; subst e
      have u1 : upd (x.1 4 0 q) k v 1 = x.1 4 0 q 1 := if_neg (by omega)
      have u2 : upd (x.1 4 0 q) k v 2 = x.1 4 0 q 2 := if_neg (by omega)
      rw [u1, u2]
      refine ⟨b1, b2, ?_, ?_⟩
      · unfold upd
        split
        · exact h3 (by omega)
        · exact b3
      · unfold upd
        split
        · exact h4 (by omega)
        · exact b4
    · exact ⟨b1, b2, b3, b4⟩
  · have u5 : ma_uG (x.1 4 0) r (upd (x.1 4 0 r) k v) q 5 = x.1 4 0 q 5 := by
      unfold ma_uG
      split
      · rename_i e; subst e; exact if_neg (by omega)
      · rfl
    rw [u5]
    exact hrb q hq
  · have u0 : ma_uG (x.1 4 0) r (upd (x.1 4 0 r) k v) q 0 = x.1 4 0 q 0 := by
      unfold ma_uG
      split
      · rename_i e; subst e; exact if_neg (by omega)
      · rfl
    rw [u0]
    exact hnum q hq
  · unfold ma_uG
    split
    · rename_i e; subst e; exact if_neg (by omega)
    · rfl
theorem op_seed (d t : Nat) (x m : ma_S) (v : Int32) (hi : ma_Iv t x m) : ma_Op (d + 1) 92 193 [vI v] t x m := by
  unfold ma_Op
  rw [en_92, en_193]
  refine ⟨some (vI (x.1 2 0 0 8)), _, _, ?_, ?_, ma_Iv_uF (k := 8) (v := v) (by omega) (by omega) (by omega) (by omega) (ma_Iv_s hi)⟩
  · simp only [bk_92_0]
  · simp only [bk_193_0, ma_Iv_F hi 8 (by omega) (by omega)]
theorem op_sledges (d t : Nat) (x m : ma_S) (f v : Int32) (hi : ma_Iv t x m) : ma_Op (d + 2) 70 132 [vI f, vI v] t x m := by
  have e0 : (0 : Int32).toInt = 0 := rfl
  have e3 : (3 : Int32).toInt = 3 := rfl
  have hc : (0 ≤ f ∧ 0 ≤ v ∧ f ≤ 3 ∧ v ≤ 3 ∧ f + v ≤ 3) ↔ ((0 ≤ f ∧ f ≤ 3) ∧ (0 ≤ v ∧ v ≤ 3 - f)) := by
    simp only [ma_le]
    rw [e0, e3]
    constructor
    · rintro ⟨h1, h2, h3, h4, h5⟩
      have := ma_add (a := f) (b := v) (by omega) (by omega)
      have s := ma_sub (a := 3) (b := f) (by omega) (by omega)
      omega
    · rintro ⟨⟨h1, h2⟩, h3, h4⟩
      have s := ma_sub (a := 3) (b := f) (by omega) (by omega)
      have := ma_add (a := f) (b := v) (by omega) (by omega)
      omega
  unfold ma_Op
  rw [en_70, en_132]
  by_cases c1 : 0 ≤ f ∧ f ≤ 3
  · by_cases c2 : 0 ≤ v ∧ v ≤ 3 - f
    · refine ⟨some (vI (f + v)), _, _, ?_, ?_, ma_Iv_uF (k := 3) (v := v) (by omega) (by omega) (by omega) (by omega) (ma_Iv_uF (k := 2) (v := f) (by omega) (by omega) (by omega) (by omega) (ma_Iv_s hi))⟩
      · simp only [bk_70_0, bk_70_6, bk_70_9, bk_70_17, bk_70_20, bk_70_26, bk_70_27, cx_isIn, c1, c2, ↓reduceIte, ma_bd_some, ma_bd_none, ma_tl1, ma_tl0, ma_ap1, ma_ap0, b2i_0, b2i_1, b2i_01, ma_l10, ma_l01, eq_self, true_or, or_true, not_true_eq_false, not_false_eq_true, Bool.false_eq_true, and_self]
      · simp only [bk_132_0, bk_132_6, bk_132_9, bk_132_15, bk_132_16, cm_areSledges, eq_true (hc.mpr ⟨c1, c2⟩), ↓reduceIte, ma_bd_some, ma_bd_none, ma_tl1, ma_tl0, ma_ap1, ma_ap0, b2i_0, b2i_1, b2i_01, ma_l10, ma_l01, eq_self, true_or, or_true, not_true_eq_false, not_false_eq_true, Bool.false_eq_true]
    · refine ⟨some (vI (-6)), sp_rx x (-6), sp_rm m (-6), ?_, ?_, ma_Iv_no sp_isb6 (ma_Iv_s hi)⟩
      · simp only [bk_70_0, bk_70_6, bk_70_9, bk_70_17, bk_70_20, bk_70_26, bk_70_27, cx_isIn, c1, c2, cx_refuse _ _ _ sp_isb6, ↓reduceIte, ma_bd_some, ma_bd_none, ma_tl1, ma_tl0, ma_ap1, ma_ap0, b2i_0, b2i_1, b2i_01, ma_l10, ma_l01, eq_self, true_or, or_true, not_true_eq_false, not_false_eq_true, Bool.false_eq_true, and_self]
      · simp only [bk_132_0, bk_132_6, bk_132_9, bk_132_15, bk_132_16, cm_areSledges, eq_false (fun z => c2 (hc.mp z).2), cm_no _ _ _ sp_isb6, ↓reduceIte, ma_bd_some, ma_bd_none, ma_tl1, ma_tl0, ma_ap1, ma_ap0, b2i_0, b2i_1, b2i_01, ma_l10, ma_l01, eq_self, true_or, or_true, not_true_eq_false, not_false_eq_true, Bool.false_eq_true]
  · refine ⟨some (vI (-6)), sp_rx x (-6), sp_rm m (-6), ?_, ?_, ma_Iv_no sp_isb6 (ma_Iv_s hi)⟩
    · simp only [bk_70_0, bk_70_6, bk_70_9, bk_70_17, bk_70_20, bk_70_26, bk_70_27, cx_isIn, c1, cx_refuse _ _ _ sp_isb6, ↓reduceIte, ma_bd_some, ma_bd_none, ma_tl1, ma_tl0, ma_ap1, ma_ap0, b2i_0, b2i_1, b2i_01, ma_l10, ma_l01, eq_self, true_or, or_true, not_true_eq_false, not_false_eq_true, Bool.false_eq_true]
    · simp only [bk_132_0, bk_132_6, bk_132_9, bk_132_15, bk_132_16, cm_areSledges, eq_false (fun z => c1 (hc.mp z).1), cm_no _ _ _ sp_isb6, ↓reduceIte, ma_bd_some, ma_bd_none, ma_tl1, ma_tl0, ma_ap1, ma_ap0, b2i_0, b2i_1, b2i_01, ma_l10, ma_l01, eq_self, true_or, or_true, not_true_eq_false, not_false_eq_true, Bool.false_eq_true]
theorem ma_Iv_G {t : Nat} {x m : ma_S} (hi : ma_Iv t x m) (r : Nat) (hr : (r : Int) < (x.1 2 0 0 1).toInt) (k : Nat) (h1 : 1 ≤ k) (h2 : k ≤ 6) : m.1 50 k 0 r = x.1 4 0 r k := (hi.1.1.2 r hr k h1 h2).symm
theorem op_riderOf (d t : Nat) (x m : ma_S) (r w : Int32) (hi : ma_Iv t x m) : ma_Op (d + 2) 68 129 [vI r, vI w] t x m := by
  have e1 := ma_Iv_F hi 1 (by omega) (by omega)
  unfold ma_Op
  rw [en_68, en_129]
  by_cases h : 0 ≤ r ∧ r < x.1 2 0 0 1
  · have h1 := ma_le.mp h.1
    have h2 := ma_lt.mp h.2
    have e0 : (0 : Int32).toInt = 0 := rfl
    have h4 := (ma_Iv_ok hi).2.1
    have hin : ma_in r 4 := ma_inI (by omega) (by omega)
    have hc := ma_clN (x := r)
    have hG := ma_Iv_G hi r.toNatClampNeg (by omega)
    have hT := eq_true h
    rcases Classical.propComplete (w = 0) with c0 | c0 <;> rcases Classical.propComplete (w = 1) with c1 | c1 <;> rcases Classical.propComplete (w = 2) with c2 | c2 <;> rcases Classical.propComplete (w = 3) with c3 | c3 <;> rcases Classical.propComplete (w = 4) with c4 | c4 <;> rcases Classical.propComplete (w = 5) with c5 | c5
    all_goals
      first
        | (refine ⟨some (vI (-5)), sp_rx x (-5), sp_rm m (-5), ?_, ?_, ma_Iv_no sp_isb5 (ma_Iv_s hi)⟩ <;> simp only [bk_68_0, bk_68_8, bk_68_11, bk_68_17, bk_68_18, bk_68_68, bk_68_73, bk_68_78, bk_68_83, bk_68_88, bk_68_93, bk_68_98, bk_68_104, bk_129_0, bk_129_5, bk_129_8, bk_129_14, bk_129_15, bk_129_56, bk_129_63, bk_129_70, bk_129_77, bk_129_84, bk_129_91, bk_129_98, bk_129_104, cx_has, cm_isRider, e1, hT, ma_if_pos hin, c0, c1, c2, c3, c4, c5, cx_refuse _ _ _ sp_isb5, cm_no _ _ _ sp_isb5, ↓reduceIte, ma_bd_some, ma_bd_none, ma_tl1, ma_tl0, ma_ap1, ma_ap0, b2i_0, b2i_1, b2i_01, ma_l10, ma_l01, eq_self, true_or, or_true, not_true_eq_false, not_false_eq_true, Bool.false_eq_true] <;> done)
        | (refine ⟨_, x, m, by simp only [bk_68_0, bk_68_8, bk_68_11, bk_68_17, bk_68_18, bk_68_68, bk_68_73, bk_68_78, bk_68_83, bk_68_88, bk_68_93, bk_68_98, bk_68_104, cx_has, hT, ma_if_pos hin, c0, c1, c2, c3, c4, c5, ↓reduceIte, ma_bd_some, ma_bd_none, ma_tl1, ma_tl0, ma_ap1, ma_ap0, b2i_0, b2i_1, b2i_01, ma_l10, ma_l01, eq_self, true_or, or_true, not_true_eq_false, not_false_eq_true, Bool.false_eq_true]; rfl, ?_, ma_Iv_s hi⟩; simp only [bk_129_0, bk_129_5, bk_129_8, bk_129_14, bk_129_15, bk_129_56, bk_129_63, bk_129_70, bk_129_77, bk_129_84, bk_129_91, bk_129_98, bk_129_104, cm_isRider, e1, hT, ma_if_pos hin, c0, c1, c2, c3, c4, c5, hG 1 (by omega) (by omega), hG 2 (by omega) (by omega), hG 3 (by omega) (by omega), hG 4 (by omega) (by omega), hG 5 (by omega) (by omega), hG 6 (by omega) (by omega), ↓reduceIte, ma_bd_some, ma_bd_none, ma_tl1, ma_tl0, ma_ap1, ma_ap0, b2i_0, b2i_1, b2i_01, ma_l10, ma_l01, eq_self, true_or, or_true, not_true_eq_false, not_false_eq_true, Bool.false_eq_true] <;> done)
  · refine ⟨some (vI (-5)), sp_rx x (-5), sp_rm m (-5), ?_, ?_, ma_Iv_no sp_isb5 (ma_Iv_s hi)⟩
    · simp only [bk_68_0, bk_68_8, bk_68_11, bk_68_17, bk_68_18, bk_68_68, bk_68_73, bk_68_78, bk_68_83, bk_68_88, bk_68_93, bk_68_98, bk_68_104, cx_has, h, cx_refuse _ _ _ sp_isb5, ↓reduceIte, ma_bd_some, ma_bd_none, ma_tl1, ma_tl0, ma_ap1, ma_ap0, b2i_0, b2i_1, b2i_01, ma_l10, ma_l01, eq_self, true_or, or_true, not_true_eq_false, not_false_eq_true, Bool.false_eq_true]
    · simp only [bk_129_0, bk_129_5, bk_129_8, bk_129_14, bk_129_15, bk_129_56, bk_129_63, bk_129_70, bk_129_77, bk_129_84, bk_129_91, bk_129_98, bk_129_104, cm_isRider, e1, h, cm_no _ _ _ sp_isb5, ↓reduceIte, ma_bd_some, ma_bd_none, ma_tl1, ma_tl0, ma_ap1, ma_ap0, b2i_0, b2i_1, b2i_01, ma_l10, ma_l01, eq_self, true_or, or_true, not_true_eq_false, not_false_eq_true, Bool.false_eq_true]
theorem op_tell (d t : Nat) (x m : ma_S) (r w v : Int32) (hi : ma_Iv t x m) : ma_Op (d + 2) 69 130 [vI r, vI w, vI v] t x m := by
  have e1 := ma_Iv_F hi 1 (by omega) (by omega)
  have e0 : (0 : Int32).toInt = 0 := rfl
  have e1' : (1 : Int32).toInt = 1 := rfl
  have e99 : (99 : Int32).toInt = 99 := rfl
  unfold ma_Op
  rw [en_69, en_130]
  by_cases h : 0 ≤ r ∧ r < x.1 2 0 0 1
  · have h1 := ma_le.mp h.1
    have h2 := ma_lt.mp h.2
    have h4 := (ma_Iv_ok hi).2.1
    have hin : ma_in r 4 := ma_inI (by omega) (by omega)
    have hc := ma_clN (x := r)
    have hG := ma_Iv_G hi r.toNatClampNeg (by omega)
    have g3 := hG 3 (by omega) (by omega)
    have g4 := hG 4 (by omega) (by omega)
    have hT := eq_true h
    have n10 : ((1 : Int32) = 0) = False := by decide
    by_cases w0 : w = 0
    · subst w0
      have a1 : ((0 : Int32) < 0) = False := by decide
      have a2 : ((1 : Int32) < 0) = False := by decide
      have a3 : ((0 : Int32) = 1) = False := by decide
      by_cases c : 0 ≤ v ∧ v ≤ 1
      · have hv : v = 0 ∨ v = 1 := by
          obtain ⟨c1, c2⟩ := c
          rw [ma_le] at c1 c2
          rw [ma_eq, ma_eq]; omega
        have b1 : (v < 0) = False := eq_false (fun z => by have := ma_lt.mp z; have := ma_le.mp c.1; omega)
        have b2 : (v ≤ 1) = True := eq_true c.2
        refine ⟨some (vI (x.1 4 0 r.toNatClampNeg 3)), _, _, ?_, ?_, ma_Iv_uG (k := 3) (r := r.toNatClampNeg) (v := v) (by omega) (by omega) (fun _ => hv) (by omega) (ma_Iv_s hi)⟩
        · simp only [bk_69_0, bk_69_8, bk_69_11, bk_69_16, bk_69_17, bk_69_32, bk_69_38, bk_69_41, bk_69_57, bk_69_62, bk_69_69, bk_69_72, bk_69_88, bk_69_94, bk_69_95, cx_has, cx_isIn, eq_true c, hT, ma_if_pos hin, ↓reduceIte, ma_bd_some, ma_bd_none, ma_tl1, ma_tl0, ma_ap1, ma_ap0, b2i_0, b2i_1, b2i_01, ma_l10, ma_l01, eq_self, true_or, or_true, not_true_eq_false, not_false_eq_true, Bool.false_eq_true]
        · simp only [bk_130_0, bk_130_5, bk_130_8, bk_130_13, bk_130_14, bk_130_18, bk_130_23, bk_130_27, bk_130_32, bk_130_36, bk_130_38, bk_130_41, bk_130_47, bk_130_48, bk_130_52, bk_130_61, bk_130_67, bk_130_73, bk_130_83, bk_130_90, cm_isRider, e1, hT, ma_if_pos hin, a1, a2, b1, b2, g3, ↓reduceIte, ma_bd_some, ma_bd_none, ma_tl1, ma_tl0, ma_ap1, ma_ap0, b2i_0, b2i_1, b2i_01, ma_l10, ma_l01, eq_self, true_or, or_true, not_true_eq_false, not_false_eq_true, Bool.false_eq_true]
      · refine ⟨some (vI (-6)), sp_rx x (-6), sp_rm m (-6), ?_, ?_, ma_Iv_no sp_isb6 (ma_Iv_s hi)⟩
        · simp only [bk_69_0, bk_69_8, bk_69_11, bk_69_16, bk_69_17, bk_69_32, bk_69_38, bk_69_41, bk_69_57, bk_69_62, bk_69_69, bk_69_72, bk_69_88, bk_69_94, bk_69_95, cx_has, cx_isIn, eq_false c, hT, ma_if_pos hin, a3, cx_refuse _ _ _ sp_isb6, ↓reduceIte, ma_bd_some, ma_bd_none, ma_tl1, ma_tl0, ma_ap1, ma_ap0, b2i_0, b2i_1, b2i_01, ma_l10, ma_l01, eq_self, true_or, or_true, not_true_eq_false, not_false_eq_true, Bool.false_eq_true]
        · by_cases b1 : v < 0
          · simp only [bk_130_0, bk_130_5, bk_130_8, bk_130_13, bk_130_14, bk_130_18, bk_130_23, bk_130_27, bk_130_32, bk_130_36, bk_130_38, bk_130_41, bk_130_47, bk_130_48, bk_130_52, bk_130_61, bk_130_67, bk_130_73, bk_130_83, bk_130_90, cm_isRider, e1, hT, a1, a2, b1, cm_no _ _ _ sp_isb6, ↓reduceIte, ma_bd_some, ma_bd_none, ma_tl1, ma_tl0, ma_ap1, ma_ap0, b2i_0, b2i_1, b2i_01, ma_l10, ma_l01, eq_self, true_or, or_true, not_true_eq_false, not_false_eq_true, Bool.false_eq_true]
          · have b2 : (v ≤ 1) = False := eq_false (fun z => c ⟨by rw [ma_le]; rw [ma_lt] at b1; omega, z⟩)
            simp only [bk_130_0, bk_130_5, bk_130_8, bk_130_13, bk_130_14, bk_130_18, bk_130_23, bk_130_27, bk_130_32, bk_130_36, bk_130_38, bk_130_41, bk_130_47, bk_130_48, bk_130_52, bk_130_61, bk_130_67, bk_130_73, bk_130_83, bk_130_90, cm_isRider, e1, hT, a1, a2, b1, b2, cm_no _ _ _ sp_isb6, ↓reduceIte, ma_bd_some, ma_bd_none, ma_tl1, ma_tl0, ma_ap1, ma_ap0, b2i_0, b2i_1, b2i_01, ma_l10, ma_l01, eq_self, true_or, or_true, not_true_eq_false, not_false_eq_true, Bool.false_eq_true]
    by_cases w1 : w = 1
    · subst w1
      have a1 : ((1 : Int32) < 0) = False := by decide
      have a2 : ((1 : Int32) < 1) = False := by decide
      by_cases c : 0 ≤ v ∧ v ≤ 99
      · have hv : 0 ≤ v.toInt ∧ v.toInt ≤ 99 := by
          obtain ⟨c1, c2⟩ := c
          rw [ma_le] at c1 c2
          omega
        have b1 : (v < 0) = False := eq_false (fun z => by have := ma_lt.mp z; omega)
        have b2 : (v ≤ 99) = True := eq_true c.2
        refine ⟨some (vI (x.1 4 0 r.toNatClampNeg 4)), _, _, ?_, ?_, ma_Iv_uG (k := 4) (r := r.toNatClampNeg) (v := v) (by omega) (by omega) (by omega) (fun _ => hv) (ma_Iv_s hi)⟩
        · simp only [bk_69_0, bk_69_8, bk_69_11, bk_69_16, bk_69_17, bk_69_32, bk_69_38, bk_69_41, bk_69_57, bk_69_62, bk_69_69, bk_69_72, bk_69_88, bk_69_94, bk_69_95, cx_has, cx_isIn, eq_true c, hT, ma_if_pos hin, n10, ↓reduceIte, ma_bd_some, ma_bd_none, ma_tl1, ma_tl0, ma_ap1, ma_ap0, b2i_0, b2i_1, b2i_01, ma_l10, ma_l01, eq_self, true_or, or_true, not_true_eq_false, not_false_eq_true, Bool.false_eq_true]
        · simp only [bk_130_0, bk_130_5, bk_130_8, bk_130_13, bk_130_14, bk_130_18, bk_130_23, bk_130_27, bk_130_32, bk_130_36, bk_130_38, bk_130_41, bk_130_47, bk_130_48, bk_130_52, bk_130_61, bk_130_67, bk_130_73, bk_130_83, bk_130_90, cm_isRider, e1, hT, ma_if_pos hin, a1, a2, b1, b2, g4, n10, ↓reduceIte, ma_bd_some, ma_bd_none, ma_tl1, ma_tl0, ma_ap1, ma_ap0, b2i_0, b2i_1, b2i_01, ma_l10, ma_l01, eq_self, true_or, or_true, not_true_eq_false, not_false_eq_true, Bool.false_eq_true]
      · refine ⟨some (vI (-6)), sp_rx x (-6), sp_rm m (-6), ?_, ?_, ma_Iv_no sp_isb6 (ma_Iv_s hi)⟩
        · simp only [bk_69_0, bk_69_8, bk_69_11, bk_69_16, bk_69_17, bk_69_32, bk_69_38, bk_69_41, bk_69_57, bk_69_62, bk_69_69, bk_69_72, bk_69_88, bk_69_94, bk_69_95, cx_has, cx_isIn, eq_false c, hT, ma_if_pos hin, n10, cx_refuse _ _ _ sp_isb6, ↓reduceIte, ma_bd_some, ma_bd_none, ma_tl1, ma_tl0, ma_ap1, ma_ap0, b2i_0, b2i_1, b2i_01, ma_l10, ma_l01, eq_self, true_or, or_true, not_true_eq_false, not_false_eq_true, Bool.false_eq_true]
        · by_cases b1 : v < 0
          · simp only [bk_130_0, bk_130_5, bk_130_8, bk_130_13, bk_130_14, bk_130_18, bk_130_23, bk_130_27, bk_130_32, bk_130_36, bk_130_38, bk_130_41, bk_130_47, bk_130_48, bk_130_52, bk_130_61, bk_130_67, bk_130_73, bk_130_83, bk_130_90, cm_isRider, e1, hT, a1, a2, b1, n10, cm_no _ _ _ sp_isb6, ↓reduceIte, ma_bd_some, ma_bd_none, ma_tl1, ma_tl0, ma_ap1, ma_ap0, b2i_0, b2i_1, b2i_01, ma_l10, ma_l01, eq_self, true_or, or_true, not_true_eq_false, not_false_eq_true, Bool.false_eq_true]
          · have b2 : (v ≤ 99) = False := eq_false (fun z => c ⟨by rw [ma_le]; rw [ma_lt] at b1; omega, z⟩)
            simp only [bk_130_0, bk_130_5, bk_130_8, bk_130_13, bk_130_14, bk_130_18, bk_130_23, bk_130_27, bk_130_32, bk_130_36, bk_130_38, bk_130_41, bk_130_47, bk_130_48, bk_130_52, bk_130_61, bk_130_67, bk_130_73, bk_130_83, bk_130_90, cm_isRider, e1, hT, a1, a2, b1, b2, n10, cm_no _ _ _ sp_isb6, ↓reduceIte, ma_bd_some, ma_bd_none, ma_tl1, ma_tl0, ma_ap1, ma_ap0, b2i_0, b2i_1, b2i_01, ma_l10, ma_l01, eq_self, true_or, or_true, not_true_eq_false, not_false_eq_true, Bool.false_eq_true]
    · refine ⟨some (vI (-6)), sp_rx x (-6), sp_rm m (-6), ?_, ?_, ma_Iv_no sp_isb6 (ma_Iv_s hi)⟩
      · simp only [bk_69_0, bk_69_8, bk_69_11, bk_69_16, bk_69_17, bk_69_32, bk_69_38, bk_69_41, bk_69_57, bk_69_62, bk_69_69, bk_69_72, bk_69_88, bk_69_94, bk_69_95, cx_has, w0, w1, hT, ma_if_pos hin, cx_refuse _ _ _ sp_isb6, ↓reduceIte, ma_bd_some, ma_bd_none, ma_tl1, ma_tl0, ma_ap1, ma_ap0, b2i_0, b2i_1, b2i_01, ma_l10, ma_l01, eq_self, true_or, or_true, not_true_eq_false, not_false_eq_true, Bool.false_eq_true]
      · by_cases b1 : w < 0
        · simp only [bk_130_0, bk_130_5, bk_130_8, bk_130_13, bk_130_14, bk_130_18, bk_130_23, bk_130_27, bk_130_32, bk_130_36, bk_130_38, bk_130_41, bk_130_47, bk_130_48, bk_130_52, bk_130_61, bk_130_67, bk_130_73, bk_130_83, bk_130_90, cm_isRider, e1, hT, b1, cm_no _ _ _ sp_isb6, ↓reduceIte, ma_bd_some, ma_bd_none, ma_tl1, ma_tl0, ma_ap1, ma_ap0, b2i_0, b2i_1, b2i_01, ma_l10, ma_l01, eq_self, true_or, or_true, not_true_eq_false, not_false_eq_true, Bool.false_eq_true]
        · have b2 : (1 < w) = True := eq_true (by
            rw [ma_lt] at b1 ⊢
            rw [ma_eq] at w0 w1
            omega)
          simp only [bk_130_0, bk_130_5, bk_130_8, bk_130_13, bk_130_14, bk_130_18, bk_130_23, bk_130_27, bk_130_32, bk_130_36, bk_130_38, bk_130_41, bk_130_47, bk_130_48, bk_130_52, bk_130_61, bk_130_67, bk_130_73, bk_130_83, bk_130_90, cm_isRider, e1, hT, b1, b2, cm_no _ _ _ sp_isb6, ↓reduceIte, ma_bd_some, ma_bd_none, ma_tl1, ma_tl0, ma_ap1, ma_ap0, b2i_0, b2i_1, b2i_01, ma_l10, ma_l01, eq_self, true_or, or_true, not_true_eq_false, not_false_eq_true, Bool.false_eq_true]
  · refine ⟨some (vI (-1)), sp_rx x (-1), sp_rm m (-1), ?_, ?_, ma_Iv_no sp_isb1 (ma_Iv_s hi)⟩
    · simp only [bk_69_0, bk_69_8, bk_69_11, bk_69_16, bk_69_17, bk_69_32, bk_69_38, bk_69_41, bk_69_57, bk_69_62, bk_69_69, bk_69_72, bk_69_88, bk_69_94, bk_69_95, cx_has, h, cx_refuse _ _ _ sp_isb1, ↓reduceIte, ma_bd_some, ma_bd_none, ma_tl1, ma_tl0, ma_ap1, ma_ap0, b2i_0, b2i_1, b2i_01, ma_l10, ma_l01, eq_self, true_or, or_true, not_true_eq_false, not_false_eq_true, Bool.false_eq_true]
    · simp only [bk_130_0, bk_130_5, bk_130_8, bk_130_13, bk_130_14, bk_130_18, bk_130_23, bk_130_27, bk_130_32, bk_130_36, bk_130_38, bk_130_41, bk_130_47, bk_130_48, bk_130_52, bk_130_61, bk_130_67, bk_130_73, bk_130_83, bk_130_90, cm_isRider, e1, h, cm_no _ _ _ sp_isb1, ↓reduceIte, ma_bd_some, ma_bd_none, ma_tl1, ma_tl0, ma_ap1, ma_ap0, b2i_0, b2i_1, b2i_01, ma_l10, ma_l01, eq_self, true_or, or_true, not_true_eq_false, not_false_eq_true, Bool.false_eq_true]
