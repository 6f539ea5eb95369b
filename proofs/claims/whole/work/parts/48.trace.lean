/-! PART 48: the trace of an ACT: one body more. -/
def sp_tx (σ : ma_S) (b : Int32) : ma_S := if (20 : Int32) ≤ σ.1 13 0 0 1 then ma_u σ 13 0 0 1 (σ.1 13 0 0 1 + 1) else ma_u (ma_u σ 50 123 0 (σ.1 13 0 0 1).toNatClampNeg b) 13 0 0 1 (σ.1 13 0 0 1 + 1)
def sp_tm (σ : ma_S) (b : Int32) : ma_S := if (20 : Int32) ≤ σ.1 20 0 0 45 then ma_u σ 20 0 0 45 (σ.1 20 0 0 45 + 1) else ma_u (ma_u σ 50 21 0 (σ.1 20 0 0 45).toNatClampNeg b) 20 0 0 45 (σ.1 20 0 0 45 + 1)
theorem cx_note (d : Nat) (b : Int32) (σ : ma_S) (h : 0 ≤ (σ.1 13 0 0 1).toInt) : ma_cal (d + 1) 58 [vR 13 0 0, vI b] σ = some (none, sp_tx σ b) := by
  rw [en_58]
  have e0 : (0 : Int32).toInt = 0 := rfl
  have e20 : (20 : Int32).toInt = 20 := rfl
  have b1 : (σ.1 13 0 0 1 < 0) = False := eq_false (by rw [ma_lt]; omega)
  unfold sp_tx
  by_cases c : (20 : Int32) ≤ σ.1 13 0 0 1
  · rw [if_pos c]
    simp only [bk_58_0, bk_58_7, bk_58_16, bk_58_26, b1, eq_true c, ↓reduceIte, ma_bd_some, ma_bd_none, ma_tl1, ma_tl0, ma_ap1, ma_ap0, b2i_0, b2i_1, b2i_01, ma_l10, ma_l01, eq_self, true_or, or_true, not_true_eq_false, not_false_eq_true, Bool.false_eq_true]
  · have l := c
    rw [ma_le] at l
    have hin : ma_in (σ.1 13 0 0 1) 20 := ma_inI h (by omega)
    have g : ∀ τ : ma_S, ∀ k w, (ma_u τ 50 123 0 k w).1 13 = τ.1 13 := fun τ k w => ma_u_g (by decide) τ 123 0 k w
    rw [if_neg c]
    simp only [bk_58_0, bk_58_7, bk_58_16, bk_58_26, b1, eq_false c, ma_if_pos hin, g, ↓reduceIte, ma_bd_some, ma_bd_none, ma_tl1, ma_tl0, ma_ap1, ma_ap0, b2i_0, b2i_1, b2i_01, ma_l10, ma_l01, eq_self, true_or, or_true, not_true_eq_false, not_false_eq_true, Bool.false_eq_true]
theorem cm_body (d : Nat) (b : Int32) (σ : ma_S) (h : 0 ≤ (σ.1 20 0 0 45).toInt) : ma_cal (d + 1) 194 [vR 20 0 0, vI b] σ = some (none, sp_tm σ b) := by
  rw [en_194]
  have e20 : (20 : Int32).toInt = 20 := rfl
  unfold sp_tm
  by_cases c : (20 : Int32) ≤ σ.1 20 0 0 45
  · rw [if_pos c]
    simp only [bk_194_0, bk_194_9, bk_194_19, eq_true c, ↓reduceIte, ma_bd_some, ma_bd_none, ma_tl1, ma_tl0, ma_ap1, ma_ap0, b2i_0, b2i_1, b2i_01, ma_l10, ma_l01, eq_self, true_or, or_true, not_true_eq_false, not_false_eq_true, Bool.false_eq_true]
  · have l := c
    rw [ma_le] at l
    have hin : ma_in (σ.1 20 0 0 45) 20 := ma_inI h (by omega)
    have g : ∀ τ : ma_S, ∀ k w, (ma_u τ 50 21 0 k w).1 20 = τ.1 20 := fun τ k w => ma_u_g (by decide) τ 21 0 k w
    rw [if_neg c]
    simp only [bk_194_0, bk_194_9, bk_194_19, eq_false c, ma_if_pos hin, g, ↓reduceIte, ma_bd_some, ma_bd_none, ma_tl1, ma_tl0, ma_ap1, ma_ap0, b2i_0, b2i_1, b2i_01, ma_l10, ma_l01, eq_self, true_or, or_true, not_true_eq_false, not_false_eq_true, Bool.false_eq_true]
theorem ma_IvT_s {r : Int32} {f g : Nat → Int32} {b : Int32} (h : ma_IvT r r f g) (hr : r.toInt < 1000) (f' g' : Nat → Int32) (hf : f' = if (20 : Int32) ≤ r then f else upd f r.toNatClampNeg b) (hg : g' = if (20 : Int32) ≤ r then g else upd g r.toNatClampNeg b) : ma_IvT (r + 1) (r + 1) f' g' := by
  obtain ⟨_, h1, h2, h3⟩ := h
  have e1 : (1 : Int32).toInt = 1 := rfl
  have e20 : (20 : Int32).toInt = 20 := rfl
  have ha := ma_add (a := r) (b := 1) (by omega) (by omega)
  have hc := ma_clN (x := r)
  refine ⟨rfl, by omega, by omega, fun j hj hl => ?_⟩
  rw [hf, hg]
  by_cases c : (20 : Int32) ≤ r
  · have l := ma_le.mp c
    rw [if_pos c, if_pos c]
    exact h3 j hj (by omega)
  · rw [if_neg c, if_neg c]
    unfold upd
    by_cases e : j = r.toNatClampNeg
    · rw [if_pos e, if_pos e]
    · rw [if_neg e, if_neg e]
      exact h3 j hj (by omega)
theorem ma_Iv_tr {t : Nat} {x m : ma_S} (b : Int32) (hi : ma_Iv t x m) (hr : (x.1 13 0 0 1).toInt < 1000) : ma_Iv t (sp_tx x b) (sp_tm m b) := by
  obtain ⟨h1, h2, h3, h4, h5, h6⟩ := hi
  have q : x.1 13 0 0 1 = m.1 20 0 0 45 := h4.1
  have x13 : (sp_tx x b).1 13 0 0 1 = x.1 13 0 0 1 + 1 := by
    unfold sp_tx
    split <;> rw [ma_u_k, if_pos rfl]
  have m45 : (sp_tm m b).1 20 0 0 45 = m.1 20 0 0 45 + 1 := by
    unfold sp_tm
    split <;> rw [ma_u_k, if_pos rfl]
  have gx : ∀ g, g ≠ 13 → g ≠ 50 → (sp_tx x b).1 g = x.1 g := fun g a c => by
    unfold sp_tx
    split
    · rw [ma_u_g a]
    · rw [ma_u_g a, ma_u_g c]
  have gx50 : ∀ i, i ≠ 123 → (sp_tx x b).1 50 i = x.1 50 i := fun i a => by
    unfold sp_tx
    split
    · rw [ma_u_g (by decide)]
    · rw [ma_u_g (by decide), ma_u_i a]
  have gm20 : ∀ k, k ≠ 45 → (sp_tm m b).1 20 0 0 k = m.1 20 0 0 k := fun k a => by
    unfold sp_tm
    split
    · rw [ma_u_k, if_neg a]
    · rw [ma_u_k, if_neg a, ma_u_g (by decide)]
  have gm50 : ∀ i, i ≠ 21 → (sp_tm m b).1 50 i = m.1 50 i := fun i a => by
    unfold sp_tm
    split
    · rw [ma_u_g (by decide)]
    · rw [ma_u_g (by decide), ma_u_i a]
  have x2 : (sp_tx x b).2 = x.2 := by unfold sp_tx; split <;> rfl
  have m2 : (sp_tm m b).2 = m.2 := by unfold sp_tm; split <;> rfl
  unfold ma_Iv
  rw [gx 2 (by decide) (by decide), gx 4 (by decide) (by decide), gx 16 (by decide) (by decide), gx 1 (by decide) (by decide), x2, m2, gx50 124 (by decide), x13, m45, gm50 7 (by decide), gm50 8 (by decide), gm50 9 (by decide), gm50 10 (by decide), gm50 11 (by decide), gm50 12 (by decide), gm50 13 (by decide), gm50 16 (by decide), gm20 46 (by decide), gm20 9 (by decide)]
  refine ⟨ma_IvH_S h1 (fun k a c => gm20 k (by omega)) (fun r k a c => by unfold ma_G; rw [gm50 k (by omega)]), h2, h3, ?_, h5, h6⟩
  rw [← q]
  rw [← q] at h4
  refine ma_IvT_s (b := b) h4 hr _ _ ?_ ?_
  · unfold sp_tx
    split
    · rw [ma_u_g (by decide)]
    · rw [ma_u_g (by decide)]
      funext k
      rw [ma_u_k]
      rfl
  · unfold sp_tm
    rw [← q]
    split
    · rw [ma_u_g (by decide)]
    · rw [ma_u_g (by decide)]
      funext k
      rw [ma_u_k]
      rfl
