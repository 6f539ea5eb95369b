/-! PART 18: the model's all(): its hill is kept in an array and taken back. -/
/-- the int array a of the model anew, from f on four elements -/
theorem cm_carries_put (d a b f : Nat) (σ : ma_S) (ha : ma_la a = 4) (hb : f + 4 ≤ ma_la b) (hbm : ma_la b ≤ 160) (hab : a ≠ b) : ma_cal (d + 1) 143 [vR 20 0 0, vR 50 a 0, vR 50 b 0, vI (nI f), vI 0] σ = some (some (vI (nI (f + 4))), ma_u (ma_u (ma_u (ma_u σ 50 b 0 f (σ.1 50 a 0 0)) 50 b 0 (f + 1) (σ.1 50 a 0 1)) 50 b 0 (f + 2) (σ.1 50 a 0 2)) 50 b 0 (f + 3) (σ.1 50 a 0 3)) := by
  rw [en_143]
  have i4 : ∀ k, k < 4 → ma_in (nI k) (ma_la a) := fun k hk => by rw [ha]; exact sp_nIin hk (Nat.le_refl _)
  have ib : ∀ k, k < 4 → ma_in (nI (f + k)) (ma_la b) := fun k hk => by
    have := nI_toInt (n := f + k) (by omega)
    exact ma_inI (by omega) (by omega)
  have a1 : nI f + 1 = nI (f + 1) := (nI_succ f).symm
  have a2 : nI f + 2 = nI (f + 2) := by rw [nI_succ, nI_succ, Int32.add_assoc]; rfl
  have a3 : nI f + 3 = nI (f + 3) := by rw [nI_succ, nI_succ, nI_succ, Int32.add_assoc, Int32.add_assoc]; rfl
  have a4 : nI f + 4 = nI (f + 4) := by rw [nI_succ, nI_succ, nI_succ, nI_succ, Int32.add_assoc, Int32.add_assoc, Int32.add_assoc]; rfl
  have a0 : nI f + 0 = nI f := Int32.add_zero _
  have c : ∀ k, k < 4 → (nI (f + k)).toNatClampNeg = f + k := fun k hk => nI_clamp (by omega)
  have c0 := c 0 (by omega)
  have c1 := c 1 (by omega)
  have c2 := c 2 (by omega)
  have c3 := c 3 (by omega)
  have i0 := ib 0 (by omega)
  have i1 := ib 1 (by omega)
  have i2 := ib 2 (by omega)
  have i3 := ib 3 (by omega)
  simp only [Nat.add_zero] at c0 i0
  have j0 : ma_in 0 (ma_la a) := i4 0 (by omega)
  have j1 : ma_in 1 (ma_la a) := i4 1 (by omega)
  have j2 : ma_in 2 (ma_la a) := i4 2 (by omega)
  have j3 : ma_in 3 (ma_la a) := i4 3 (by omega)
  have k0 : ((4 : Int32) ≤ 0) = False := by decide
  have k1 : ((4 : Int32) ≤ 1) = False := by decide
  have k2 : ((4 : Int32) ≤ 2) = False := by decide
  have k3 : ((4 : Int32) ≤ 3) = False := by decide
  have k4 : ((4 : Int32) ≤ 4) = True := by decide
  have l1 : (0 : Int32) + 1 = 1 := by decide
  have l2 : (1 : Int32) + 1 = 2 := by decide
  have l3 : (2 : Int32) + 1 = 3 := by decide
  have l4 : (3 : Int32) + 1 = 4 := by decide
  have m0 : (0 : Int32).toNatClampNeg = 0 := by decide
  have m1 : (1 : Int32).toNatClampNeg = 1 := by decide
  have m2 : (2 : Int32).toNatClampNeg = 2 := by decide
  have m3 : (3 : Int32).toNatClampNeg = 3 := by decide
  have q : ∀ (σ : ma_S) (p r : Nat) (v : Int32), (ma_u σ 50 b 0 p v).1 50 a 0 r = σ.1 50 a 0 r := fun σ p r v => by
    simp only [ma_u]
    rw [if_neg (fun z => hab z.2.1)]
  simp only [bk_143_0, bk_143_3, bk_143_9, bk_143_14, bk_143_27, bk_143_37, bk_143_43, k0, k1, k2, k3, k4, l1, l2, l3, l4, m0, m1, m2, m3, c0, c1, c2, c3, a0, a1, a2, a3, a4, ma_if_pos i0, ma_if_pos i1, ma_if_pos i2, ma_if_pos i3, ma_if_pos j0, ma_if_pos j1, ma_if_pos j2, ma_if_pos j3, q, ↓reduceIte, ma_bd_some, ma_bd_none, ma_tl1, ma_tl0, ma_ap1, ma_ap0, b2i_0, b2i_1, b2i_01, ma_l10, ma_l01, eq_self, true_or, or_true, not_true_eq_false, not_false_eq_true, Bool.false_eq_true]
theorem cm_carries_get (d a b f : Nat) (σ : ma_S) (ha : ma_la a = 4) (hb : f + 4 ≤ ma_la b) (hbm : ma_la b ≤ 160) (hab : a ≠ b) : ma_cal (d + 1) 143 [vR 20 0 0, vR 50 a 0, vR 50 b 0, vI (nI f), vI 1] σ = some (some (vI (nI (f + 4))), ma_u (ma_u (ma_u (ma_u σ 50 a 0 0 (σ.1 50 b 0 f)) 50 a 0 1 (σ.1 50 b 0 (f + 1))) 50 a 0 2 (σ.1 50 b 0 (f + 2))) 50 a 0 3 (σ.1 50 b 0 (f + 3))) := by
  rw [en_143]
  have i4 : ∀ k, k < 4 → ma_in (nI k) (ma_la a) := fun k hk => by rw [ha]; exact sp_nIin hk (Nat.le_refl _)
  have ib : ∀ k, k < 4 → ma_in (nI (f + k)) (ma_la b) := fun k hk => by
    have := nI_toInt (n := f + k) (by omega)
    exact ma_inI (by omega) (by omega)
  have a1 : nI f + 1 = nI (f + 1) := (nI_succ f).symm
  have a2 : nI f + 2 = nI (f + 2) := by rw [nI_succ, nI_succ, Int32.add_assoc]; rfl
  have a3 : nI f + 3 = nI (f + 3) := by rw [nI_succ, nI_succ, nI_succ, Int32.add_assoc, Int32.add_assoc]; rfl
  have a4 : nI f + 4 = nI (f + 4) := by rw [nI_succ, nI_succ, nI_succ, nI_succ, Int32.add_assoc, Int32.add_assoc, Int32.add_assoc]; rfl
  have a0 : nI f + 0 = nI f := Int32.add_zero _
  have c : ∀ k, k < 4 → (nI (f + k)).toNatClampNeg = f + k := fun k hk => nI_clamp (by omega)
  have c0 := c 0 (by omega)
  have c1 := c 1 (by omega)
  have c2 := c 2 (by omega)
  have c3 := c 3 (by omega)
  have i0 := ib 0 (by omega)
  have i1 := ib 1 (by omega)
  have i2 := ib 2 (by omega)
  have i3 := ib 3 (by omega)
  simp only [Nat.add_zero] at c0 i0
  have j0 : ma_in 0 (ma_la a) := i4 0 (by omega)
  have j1 : ma_in 1 (ma_la a) := i4 1 (by omega)
  have j2 : ma_in 2 (ma_la a) := i4 2 (by omega)
  have j3 : ma_in 3 (ma_la a) := i4 3 (by omega)
  have k0 : ((4 : Int32) ≤ 0) = False := by decide
  have k1 : ((4 : Int32) ≤ 1) = False := by decide
  have k2 : ((4 : Int32) ≤ 2) = False := by decide
  have k3 : ((4 : Int32) ≤ 3) = False := by decide
  have k4 : ((4 : Int32) ≤ 4) = True := by decide
  have l1 : (0 : Int32) + 1 = 1 := by decide
  have l2 : (1 : Int32) + 1 = 2 := by decide
  have l3 : (2 : Int32) + 1 = 3 := by decide
  have l4 : (3 : Int32) + 1 = 4 := by decide
  have m0 : (0 : Int32).toNatClampNeg = 0 := by decide
  have m1 : (1 : Int32).toNatClampNeg = 1 := by decide
  have m2 : (2 : Int32).toNatClampNeg = 2 := by decide
  have m3 : (3 : Int32).toNatClampNeg = 3 := by decide
  have q : ∀ (σ : ma_S) (p r : Nat) (v : Int32), (ma_u σ 50 a 0 p v).1 50 b 0 r = σ.1 50 b 0 r := fun σ p r v => by
    simp only [ma_u]
    rw [if_neg (fun z => hab z.2.1.symm)]
  simp only [bk_143_0, bk_143_3, bk_143_9, bk_143_14, bk_143_27, bk_143_37, bk_143_43, k0, k1, k2, k3, k4, l1, l2, l3, l4, m0, m1, m2, m3, c0, c1, c2, c3, a0, a1, a2, a3, a4, ma_if_pos i0, ma_if_pos i1, ma_if_pos i2, ma_if_pos i3, ma_if_pos j0, ma_if_pos j1, ma_if_pos j2, ma_if_pos j3, q, ↓reduceIte, ma_bd_some, ma_bd_none, ma_tl1, ma_tl0, ma_ap1, ma_ap0, b2i_0, b2i_1, b2i_01, ma_l10, ma_l01, eq_self, true_or, or_true, not_true_eq_false, not_false_eq_true, Bool.false_eq_true]
