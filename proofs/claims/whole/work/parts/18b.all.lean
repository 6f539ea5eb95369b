/-! PART 18b: all() as a whole. -/
def ma_uE (G : Nat → Nat → Int32) (r k : Nat) (v : Int32) : Nat → Nat → Int32 := fun r' k' => if r' = r ∧ k' = k then v else G r' k'
theorem ma_mh_uE (σ : ma_S) (k r : Nat) (F : Nat → Int32) (G : Nat → Nat → Int32) (v : Int32) : ma_u (ma_mh σ F G) 50 k 0 r v = ma_mh σ F (ma_uE G r k v) := by
  rw [ma_mh_uA]
  congr 1
  funext r' k'
  simp only [ma_uG, ma_uE]
  by_cases h : r' = r
  · subst h; simp [upd]
  · simp [h]
def sp_pc (G : Nat → Nat → Int32) (a b f : Nat) : Nat → Nat → Int32 := fun r k => if k = b ∧ f ≤ r ∧ r < f + 4 then G (r - f) a else G r k
def sp_gc (G : Nat → Nat → Int32) (a b f : Nat) : Nat → Nat → Int32 := fun r k => if k = a ∧ r < 4 then G (f + r) b else G r k
theorem cm_carries_p (d a b f : Nat) (σ : ma_S) (F : Nat → Int32) (G : Nat → Nat → Int32) (ha : ma_la a = 4) (hb : f + 4 ≤ ma_la b) (hbm : ma_la b ≤ 160) (hab : a ≠ b) : ma_cal (d + 1) 143 [vR 20 0 0, vR 50 a 0, vR 50 b 0, vI (nI f), vI 0] (ma_mh σ F G) = some (some (vI (nI (f + 4))), ma_mh σ F (sp_pc G a b f)) := by
  rw [cm_carries_put d a b f _ ha hb hbm hab]
  simp only [ma_mh_uE, ma_mh_A]
  congr 3
  funext r k
  simp only [ma_uE, sp_pc]
  by_cases hk : k = b
  · subst hk
    simp only [and_true, true_and]
    by_cases r0 : r = f
    · subst r0; simp
    by_cases r1 : r = f + 1
    · subst r1; simp
    by_cases r2 : r = f + 2
    · subst r2; simp
    by_cases r3 : r = f + 3
    · subst r3; simp
    · rw [if_neg r3, if_neg r2, if_neg r1, if_neg r0, if_neg (by omega)]
  · simp only [hk, and_false, false_and, if_false]
theorem cm_carries_g (d a b f : Nat) (σ : ma_S) (F : Nat → Int32) (G : Nat → Nat → Int32) (ha : ma_la a = 4) (hb : f + 4 ≤ ma_la b) (hbm : ma_la b ≤ 160) (hab : a ≠ b) : ma_cal (d + 1) 143 [vR 20 0 0, vR 50 a 0, vR 50 b 0, vI (nI f), vI 1] (ma_mh σ F G) = some (some (vI (nI (f + 4))), ma_mh σ F (sp_gc G a b f)) := by
  rw [cm_carries_get d a b f _ ha hb hbm hab]
  simp only [ma_mh_uE, ma_mh_A]
  congr 3
  funext r k
  simp only [ma_uE, sp_gc]
  by_cases hk : k = a
  · subst hk
    simp only [and_true, true_and]
    by_cases r0 : r = 0
    · subst r0; simp
    by_cases r1 : r = 1
    · subst r1; simp
    by_cases r2 : r = 2
    · subst r2; simp
    by_cases r3 : r = 3
    · subst r3; simp
    · rw [if_neg r3, if_neg r2, if_neg r1, if_neg r0, if_neg (by omega)]
  · simp only [hk, and_false, false_and, if_false]
/-- the model's hill in an array, and taken back -/
def sp_put (F : Nat → Int32) (G : Nat → Nat → Int32) (b f : Nat) : Nat → Nat → Int32 := fun r k => if k = b ∧ f ≤ r ∧ r < f + 32 then (if r < f + 24 then G ((r - f) % 4) ((r - f) / 4 + 1) else F (r - f - 23)) else G r k
def sp_getF (F : Nat → Int32) (G : Nat → Nat → Int32) (b f : Nat) : Nat → Int32 := fun k => if 1 ≤ k ∧ k ≤ 8 then G (f + 23 + k) b else F k
def sp_getG (G : Nat → Nat → Int32) (b f : Nat) : Nat → Nat → Int32 := fun r k => if 1 ≤ k ∧ k ≤ 6 ∧ r < 4 then G (f + 4 * (k - 1) + r) b else G r k
def sp_pc6 (G : Nat → Nat → Int32) (b f : Nat) : Nat → Nat → Int32 := sp_pc (sp_pc (sp_pc (sp_pc (sp_pc (sp_pc G 1 b f) 2 b (f + 4)) 3 b (f + 8)) 4 b (f + 12)) 5 b (f + 16)) 6 b (f + 20)
def sp_gc6 (G : Nat → Nat → Int32) (b f : Nat) : Nat → Nat → Int32 := sp_gc (sp_gc (sp_gc (sp_gc (sp_gc (sp_gc G 1 b f) 2 b (f + 4)) 3 b (f + 8)) 4 b (f + 12)) 5 b (f + 16)) 6 b (f + 20)
theorem sp_put6 (F : Nat → Int32) (G : Nat → Nat → Int32) (b f : Nat) (hb : 6 < b) : ma_uE (ma_uE (ma_uE (ma_uE (ma_uE (ma_uE (ma_uE (ma_uE (sp_pc6 G b f) (f + 24) b (F 1)) (f + 25) b (F 2)) (f + 26) b (F 3)) (f + 27) b (F 4)) (f + 28) b (F 5)) (f + 29) b (F 6)) (f + 30) b (F 7)) (f + 31) b (F 8) = sp_put F G b f := by
  funext r k
  by_cases hk : k = b
  · subst hk
    by_cases hr : f ≤ r ∧ r < f + 32
    · obtain ⟨j, rfl⟩ : ∃ j, r = f + j := ⟨r - f, by omega⟩
      have hj : j < 32 := by omega
      have n1 : ¬ (1 = k) := by omega
      have n2 : ¬ (2 = k) := by omega
      have n3 : ¬ (3 = k) := by omega
      have n4 : ¬ (4 = k) := by omega
      have n5 : ¬ (5 = k) := by omega
      have n6 : ¬ (6 = k) := by omega
      have s : ∀ a b, f + a - (f + b) = a - b := fun a b => Nat.add_sub_add_left f a b
      have s0 : ∀ a, f + a - f = a := fun a => Nat.add_sub_cancel_left f a
      rcases j with _|_|_|_|_|_|_|_|_|_|_|_|_|_|_|_|_|_|_|_|_|_|_|_|_|_|_|_|_|_|_|_|j
      all_goals first | omega | (simp [ma_uE, sp_put, sp_pc6, sp_pc, n1, n2, n3, n4, n5, n6, s, s0]; done) | (simp [ma_uE, sp_put, sp_pc6, sp_pc, n1, n2, n3, n4, n5, n6, s, s0]; rw [if_neg (by omega), if_neg (by omega), if_neg (by omega), if_neg (by omega), if_neg (by omega)])
    · have e : ∀ j, j < 32 → (r = f + j) = False := fun j hj => eq_false (fun z => hr (by omega))
      simp only [ma_uE, e 24 (by omega), e 25 (by omega), e 26 (by omega), e 27 (by omega), e 28 (by omega), e 29 (by omega), e 30 (by omega), e 31 (by omega), false_and, if_false, sp_pc6, sp_pc, sp_put]
      rw [if_neg (by omega), if_neg (by omega), if_neg (by omega), if_neg (by omega), if_neg (by omega), if_neg (by omega), if_neg (by omega)]
  · simp only [ma_uE, sp_put, sp_pc6, sp_pc, hk, and_false, false_and, if_false]
theorem sp_get6 (G : Nat → Nat → Int32) (b f : Nat) (hb : 6 < b) : sp_gc6 G b f = sp_getG G b f := by
  have n1 : ¬ (b = 1) := by omega
  have n2 : ¬ (b = 2) := by omega
  have n3 : ¬ (b = 3) := by omega
  have n4 : ¬ (b = 4) := by omega
  have n5 : ¬ (b = 5) := by omega
  have n6 : ¬ (b = 6) := by omega
  funext r k
  by_cases hr : r < 4
  · rcases k with _|_|_|_|_|_|_|k
    all_goals simp [sp_gc6, sp_gc, sp_getG, hr, n1, n2, n3, n4, n5, n6]
  · simp [sp_gc6, sp_gc, sp_getG, hr]
theorem cm_all_put (d b f : Nat) (σ : ma_S) (F : Nat → Int32) (G : Nat → Nat → Int32) (hb : 6 < b) (hf : f + 32 ≤ ma_la b) (hbm : ma_la b ≤ 160) : ma_cal (d + 2) 144 [vR 20 0 0, vR 50 b 0, vI (nI f), vI 0] (ma_mh σ F G) = some (none, ma_mh σ F (sp_put F G b f)) := by
  rw [en_144]
  have ib : ∀ k, k < 32 → ma_in (nI (f + k)) (ma_la b) := fun k hk => by
    have := nI_toInt (n := f + k) (by omega)
    exact ma_inI (by omega) (by omega)
  have c : ∀ k, k < 32 → (nI (f + k)).toNatClampNeg = f + k := fun k hk => nI_clamp (by omega)
  have hp : ∀ a g G, ma_la a = 4 → a ≠ b → g + 4 ≤ ma_la b → ma_cal (d + 1) 143 [vR 20 0 0, vR 50 a 0, vR 50 b 0, vI (nI g), vI 0] (ma_mh σ F G) = some (some (vI (nI (g + 4))), ma_mh σ F (sp_pc G a b g)) := fun a g G ha hab hg => cm_carries_p d a b g σ F G ha hg hbm hab
  have p1 := hp 1 f G rfl (by omega) (by omega)
  have p2 := hp 2 (f + 4) (sp_pc G 1 b f) rfl (by omega) (by omega)
  have p3 := hp 3 (f + 8) (sp_pc (sp_pc G 1 b f) 2 b (f + 4)) rfl (by omega) (by omega)
  have p4 := hp 4 (f + 12) (sp_pc (sp_pc (sp_pc G 1 b f) 2 b (f + 4)) 3 b (f + 8)) rfl (by omega) (by omega)
  have p5 := hp 5 (f + 16) (sp_pc (sp_pc (sp_pc (sp_pc G 1 b f) 2 b (f + 4)) 3 b (f + 8)) 4 b (f + 12)) rfl (by omega) (by omega)
  have p6 := hp 6 (f + 20) (sp_pc (sp_pc (sp_pc (sp_pc (sp_pc G 1 b f) 2 b (f + 4)) 3 b (f + 8)) 4 b (f + 12)) 5 b (f + 16)) rfl (by omega) (by omega)
  simp only [Nat.add_assoc, Nat.reduceAdd] at p2 p3 p4 p5 p6
  have a1 : nI (f + 24) + 1 = nI (f + 25) := (nI_succ (f + 24)).symm
  have a2 : nI (f + 24) + 2 = nI (f + 26) := by rw [nI_succ (f + 25), nI_succ (f + 24), Int32.add_assoc]; rfl
  have a3 : nI (f + 24) + 3 = nI (f + 27) := by rw [nI_succ (f + 26), nI_succ (f + 25), nI_succ (f + 24), Int32.add_assoc, Int32.add_assoc]; rfl
  have a4 : nI (f + 24) + 4 = nI (f + 28) := by rw [nI_succ (f + 27), nI_succ (f + 26), nI_succ (f + 25), nI_succ (f + 24), Int32.add_assoc, Int32.add_assoc, Int32.add_assoc]; rfl
  have a5 : nI (f + 24) + 5 = nI (f + 29) := by rw [nI_succ (f + 28), ← a4, Int32.add_assoc]; rfl
  have a6 : nI (f + 24) + 6 = nI (f + 30) := by rw [nI_succ (f + 29), ← a5, Int32.add_assoc]; rfl
  have a7 : nI (f + 24) + 7 = nI (f + 31) := by rw [nI_succ (f + 30), ← a6, Int32.add_assoc]; rfl
  have b0 : ((0 : Int32) = 0 ∨ (0 : Int32) = 1) := Or.inl rfl
  rw [← sp_put6 F G b f hb]
  unfold sp_pc6
  simp only [bk_144_0, bk_144_11, bk_144_25, bk_144_39, bk_144_53, bk_144_67, bk_144_81, bk_144_87, bk_144_170, bk_144_250, p1, p2, p3, p4, p5, p6, a1, a2, a3, a4, a5, a6, a7, ma_if_pos (ib 24 (by omega)), ma_if_pos (ib 25 (by omega)), ma_if_pos (ib 26 (by omega)), ma_if_pos (ib 27 (by omega)), ma_if_pos (ib 28 (by omega)), ma_if_pos (ib 29 (by omega)), ma_if_pos (ib 30 (by omega)), ma_if_pos (ib 31 (by omega)), c 24 (by omega), c 25 (by omega), c 26 (by omega), c 27 (by omega), c 28 (by omega), c 29 (by omega), c 30 (by omega), c 31 (by omega), ma_mh_F, ma_mh_uE, ↓reduceIte, ma_bd_some, ma_bd_none, ma_tl1, ma_tl0, ma_ap1, ma_ap0, b2i_0, b2i_1, b2i_01, ma_l10, ma_l01, eq_self, true_or, or_true, not_true_eq_false, not_false_eq_true, Bool.false_eq_true]
theorem cm_all_get (d b f : Nat) (σ : ma_S) (F : Nat → Int32) (G : Nat → Nat → Int32) (hb : 6 < b) (hf : f + 32 ≤ ma_la b) (hbm : ma_la b ≤ 160) : ma_cal (d + 2) 144 [vR 20 0 0, vR 50 b 0, vI (nI f), vI 1] (ma_mh σ F G) = some (none, ma_mh σ (sp_getF F G b f) (sp_getG G b f)) := by
  rw [en_144]
  have ib : ∀ k, k < 32 → ma_in (nI (f + k)) (ma_la b) := fun k hk => by
    have := nI_toInt (n := f + k) (by omega)
    exact ma_inI (by omega) (by omega)
  have c : ∀ k, k < 32 → (nI (f + k)).toNatClampNeg = f + k := fun k hk => nI_clamp (by omega)
  have hp : ∀ a g G, ma_la a = 4 → a ≠ b → g + 4 ≤ ma_la b → ma_cal (d + 1) 143 [vR 20 0 0, vR 50 a 0, vR 50 b 0, vI (nI g), vI 1] (ma_mh σ F G) = some (some (vI (nI (g + 4))), ma_mh σ F (sp_gc G a b g)) := fun a g G ha hab hg => cm_carries_g d a b g σ F G ha hg hbm hab
  have p1 := hp 1 f G rfl (by omega) (by omega)
  have p2 := hp 2 (f + 4) (sp_gc G 1 b f) rfl (by omega) (by omega)
  have p3 := hp 3 (f + 8) (sp_gc (sp_gc G 1 b f) 2 b (f + 4)) rfl (by omega) (by omega)
  have p4 := hp 4 (f + 12) (sp_gc (sp_gc (sp_gc G 1 b f) 2 b (f + 4)) 3 b (f + 8)) rfl (by omega) (by omega)
  have p5 := hp 5 (f + 16) (sp_gc (sp_gc (sp_gc (sp_gc G 1 b f) 2 b (f + 4)) 3 b (f + 8)) 4 b (f + 12)) rfl (by omega) (by omega)
  have p6 := hp 6 (f + 20) (sp_gc (sp_gc (sp_gc (sp_gc (sp_gc G 1 b f) 2 b (f + 4)) 3 b (f + 8)) 4 b (f + 12)) 5 b (f + 16)) rfl (by omega) (by omega)
  have g6 := sp_get6 G b f hb
  unfold sp_gc6 at g6
  rw [g6] at p6
  simp only [Nat.add_assoc, Nat.reduceAdd] at p2 p3 p4 p5 p6
  have a1 : nI (f + 24) + 1 = nI (f + 25) := (nI_succ (f + 24)).symm
  have a2 : nI (f + 24) + 2 = nI (f + 26) := by rw [nI_succ (f + 25), nI_succ (f + 24), Int32.add_assoc]; rfl
  have a3 : nI (f + 24) + 3 = nI (f + 27) := by rw [nI_succ (f + 26), nI_succ (f + 25), nI_succ (f + 24), Int32.add_assoc, Int32.add_assoc]; rfl
  have a4 : nI (f + 24) + 4 = nI (f + 28) := by rw [nI_succ (f + 27), nI_succ (f + 26), nI_succ (f + 25), nI_succ (f + 24), Int32.add_assoc, Int32.add_assoc, Int32.add_assoc]; rfl
  have a5 : nI (f + 24) + 5 = nI (f + 29) := by rw [nI_succ (f + 28), ← a4, Int32.add_assoc]; rfl
  have a6 : nI (f + 24) + 6 = nI (f + 30) := by rw [nI_succ (f + 29), ← a5, Int32.add_assoc]; rfl
  have a7 : nI (f + 24) + 7 = nI (f + 31) := by rw [nI_succ (f + 30), ← a6, Int32.add_assoc]; rfl
  have e10 : ((1 : Int32) = 0) = False := by decide
  have q : ∀ j, j < 8 → sp_getG G b f (f + 24 + j) b = G (f + 24 + j) b := fun j hj => by
    simp only [sp_getG]; rw [if_neg (by omega)]
  have q0 := q 0 (by omega)
  have q1 := q 1 (by omega)
  have q2 := q 2 (by omega)
  have q3 := q 3 (by omega)
  have q4 := q 4 (by omega)
  have q5 := q 5 (by omega)
  have q6 := q 6 (by omega)
  have q7 := q 7 (by omega)
  simp only [Nat.add_assoc, Nat.reduceAdd] at q0 q1 q2 q3 q4 q5 q6 q7
  simp only [bk_144_0, bk_144_11, bk_144_25, bk_144_39, bk_144_53, bk_144_67, bk_144_81, bk_144_87, bk_144_170, bk_144_250, p1, p2, p3, p4, p5, p6, a1, a2, a3, a4, a5, a6, a7, ma_if_pos (ib 24 (by omega)), ma_if_pos (ib 25 (by omega)), ma_if_pos (ib 26 (by omega)), ma_if_pos (ib 27 (by omega)), ma_if_pos (ib 28 (by omega)), ma_if_pos (ib 29 (by omega)), ma_if_pos (ib 30 (by omega)), ma_if_pos (ib 31 (by omega)), c 24 (by omega), c 25 (by omega), c 26 (by omega), c 27 (by omega), c 28 (by omega), c 29 (by omega), c 30 (by omega), c 31 (by omega), ma_mh_A, ma_mh_uF, e10, q0, q1, q2, q3, q4, q5, q6, q7, ↓reduceIte, ma_bd_some, ma_bd_none, ma_tl1, ma_tl0, ma_ap1, ma_ap0, b2i_0, b2i_1, b2i_01, ma_l10, ma_l01, eq_self, true_or, or_true, not_true_eq_false, not_false_eq_true, Bool.false_eq_true]
  congr 3
  funext k
  rcases k with _|_|_|_|_|_|_|_|_|k
  all_goals simp [upd, sp_getF, Nat.add_assoc]
