/-! PART 22: what holds between two calls. -/
def ma_IvH (t : Nat) (F : Nat → Int32) (G : Nat → Nat → Int32) (S : Nat → Int32) (T : Nat → Nat → Int32) : Prop := ma_Re F S G T ∧ sp_ok F G ∧ sp_rb2 (200 * t) F G ∧ ∀ r, r < 4 → G r 0 = nI r
def ma_IvS (n : Int32) (C : Nat → Nat → Nat → Int32) (J : Nat → Nat → Int64) (H O Z W : Nat → Int32) (E : Nat → Int64) : Prop := ∀ s, s < 8 →
  (H s = 0 ∧ C s 0 1 = -1 ∧ C s 0 2 = 0) ∨
  (H s = 2 ∧ C s 0 1 = W s ∧ C s 0 2 = 0 ∧ 0 ≤ (W s).toInt ∧ (W s).toInt < n.toInt) ∨
  (H s = 1 ∧ C s 0 1 = 100 + O s ∧ 0 ≤ (O s).toInt ∧ (O s).toInt ≤ 3 ∧ C s 0 2 = Z s ∧ 0 ≤ (Z s).toInt ∧ (Z s).toInt ≤ 160 ∧ ∀ i, i < 160 → J s i = E (160 * s + i))
def ma_IvR (f g : Nat → Int32) : Prop := ∀ j, j < 7 → f j = g (j + 1)
def ma_IvT (r r' : Int32) (f g : Nat → Int32) : Prop := r = r' ∧ 0 ≤ r.toInt ∧ r.toInt ≤ 1000 ∧ ∀ j : Nat, j < 20 → (j : Int) < r.toInt → f j = g j
/-- the hill that the array a keeps -/
def sp_dcF (a : Nat → Int32) : Nat → Int32 := fun k => a (23 + k)
def sp_dcG (a : Nat → Int32) : Nat → Nat → Int32 := fun r k => a (4 * (k - 1) + r)
def ma_IvK (t : Nat) (h h' : Int32) (F : Nat → Int32) (G : Nat → Nat → Int32) (a : Nat → Int32) : Prop := h = h' ∧ (h = 0 ∨ (h = 1 ∧ ma_Re F (sp_dcF a) G (sp_dcG a) ∧ sp_ok F G ∧ sp_rb2 (200 * t) F G))
/-- the words and how many numbers each has, as the model keeps them -/
def sp_WT : List Int32 := [114, 105, 100, 101, 114, 32, 0, 116, 111, 112, 32, 0, 102, 111, 111, 116, 32, 0, 115, 108, 101, 100, 103, 101, 115, 32, 0, 109, 105, 110, 117, 116, 101, 115, 32, 0, 112, 101, 110, 110, 105, 101, 115, 32, 0, 104, 105, 108, 108, 32, 0, 109, 111, 118, 101, 32, 0]
def sp_NT : List Int32 := [2, 1, 1, 2, 1, 1, 2, 1]
def ma_IvW (W N : Nat → Int32) : Prop := (∀ k, k < 57 → W k = sp_WT.getD k 0) ∧ (∀ k, k < 8 → N k = sp_NT.getD k 0)
def ma_Iv (t : Nat) (x m : ma_S) : Prop :=
  ma_IvH t (x.1 2 0 0) (x.1 4 0) (m.1 20 0 0) (ma_G m) ∧
  ma_IvS (x.1 2 0 0 1) (x.1 16) x.2 (m.1 50 8 0) (m.1 50 9 0) (m.1 50 10 0) (m.1 50 11 0) (m.2 10) ∧
  ma_IvR (x.1 50 124 0) (m.1 50 7 0) ∧
  ma_IvT (x.1 13 0 0 1) (m.1 20 0 0 45) (x.1 50 123 0) (m.1 50 21 0) ∧
  ma_IvK t (x.1 1 0 0 3) (m.1 20 0 0 46) (x.1 2 2 0) (x.1 4 2) (m.1 50 16 0) ∧
  (x.1 1 0 0 10 = m.1 20 0 0 9 ∧ ma_IvW (m.1 50 12 0) (m.1 50 13 0))
theorem ma_IvH_mono {t t' : Nat} {F S : Nat → Int32} {G T : Nat → Nat → Int32} (h : t ≤ t') (hi : ma_IvH t F G S T) : ma_IvH t' F G S T := ⟨hi.1, hi.2.1, fun r hr => by
  have := hi.2.2.1 r hr
  omega, hi.2.2.2⟩
theorem ma_Iv_mono {t t' : Nat} {x m : ma_S} (h : t ≤ t') (hi : ma_Iv t x m) : ma_Iv t' x m := by
  obtain ⟨h1, h2, h3, h4, h5, h6⟩ := hi
  refine ⟨ma_IvH_mono h h1, h2, h3, h4, ⟨h5.1, ?_⟩, h6⟩
  rcases h5.2 with e | ⟨e, e1, e2, e3⟩
  · exact Or.inl e
  · refine Or.inr ⟨e, e1, e2, fun r hr => ?_⟩
    have := e3 r hr
    omega
/-- what the invariant reads is as it was -/
def ma_sx (x y : ma_S) : Prop := y.1 2 0 = x.1 2 0 ∧ y.1 4 0 = x.1 4 0 ∧ y.1 2 2 = x.1 2 2 ∧ y.1 4 2 = x.1 4 2 ∧ y.1 16 = x.1 16 ∧ y.2 = x.2 ∧ y.1 1 = x.1 1 ∧ y.1 13 = x.1 13 ∧ y.1 50 123 = x.1 50 123 ∧ y.1 50 124 = x.1 50 124
def ma_sm (m n : ma_S) : Prop := (∀ k, (1 ≤ k ∧ k ≤ 9) ∨ k = 45 ∨ k = 46 → n.1 20 0 0 k = m.1 20 0 0 k) ∧ (∀ k r, 1 ≤ k → (k ≤ 6 ∧ r < 4) ∨ (7 ≤ k ∧ k ≤ 13) ∨ k = 16 ∨ k = 21 → n.1 50 k 0 r = m.1 50 k 0 r) ∧ n.2 10 = m.2 10
theorem ma_sx_refl (x : ma_S) : ma_sx x x := ⟨rfl, rfl, rfl, rfl, rfl, rfl, rfl, rfl, rfl, rfl⟩
theorem ma_sm_refl (m : ma_S) : ma_sm m m := ⟨fun _ _ => rfl, fun _ _ _ _ => rfl, rfl⟩
theorem ma_sx_trans {x y z : ma_S} (h : ma_sx x y) (h' : ma_sx y z) : ma_sx x z := by
  obtain ⟨a1, a2, a3, a4, a5, a6, a7, a8, a9, a10⟩ := h
  obtain ⟨b1, b2, b3, b4, b5, b6, b7, b8, b9, b10⟩ := h'
  exact ⟨b1.trans a1, b2.trans a2, b3.trans a3, b4.trans a4, b5.trans a5, b6.trans a6, b7.trans a7, b8.trans a8, b9.trans a9, b10.trans a10⟩
theorem ma_sm_trans {x y z : ma_S} (h : ma_sm x y) (h' : ma_sm y z) : ma_sm x z := ⟨fun k hk => (h'.1 k hk).trans (h.1 k hk), fun k r h1 hk => (h'.2.1 k r h1 hk).trans (h.2.1 k r h1 hk), h'.2.2.trans h.2.2⟩
theorem ma_Iv_x {t : Nat} {x y m : ma_S} (h : ma_sx x y) (hi : ma_Iv t x m) : ma_Iv t y m := by
  obtain ⟨a1, a2, a3, a4, a5, a6, a7, a8, a9, a10⟩ := h
  unfold ma_Iv
  rw [a1, a2, a3, a4, a5, a6, a7, a8, a9, a10]
  exact hi
theorem ma_Re_S {F S S' : Nat → Int32} {G T T' : Nat → Nat → Int32} (h : ma_Re F S G T) (h1 : ∀ k, 1 ≤ k → k ≤ 8 → S' k = S k) (h2 : ∀ r k, 1 ≤ k → k ≤ 6 → T' r k = T r k) : ma_Re F S' G T' :=
  ⟨fun k a b => (h.1 k a b).trans (h1 k a b).symm, fun r hr k a b => (h.2 r hr k a b).trans (h2 r k a b).symm⟩
theorem ma_IvH_S {t : Nat} {F S S' : Nat → Int32} {G T T' : Nat → Nat → Int32} (h : ma_IvH t F G S T) (h1 : ∀ k, 1 ≤ k → k ≤ 8 → S' k = S k) (h2 : ∀ r k, 1 ≤ k → k ≤ 6 → T' r k = T r k) : ma_IvH t F G S' T' := ⟨ma_Re_S h.1 h1 h2, h.2⟩
theorem ma_IvH_S4 {t : Nat} {F S S' : Nat → Int32} {G T T' : Nat → Nat → Int32} (h : ma_IvH t F G S T) (h1 : ∀ k, 1 ≤ k → k ≤ 8 → S' k = S k) (h2 : ∀ r k, r < 4 → 1 ≤ k → k ≤ 6 → T' r k = T r k) : ma_IvH t F G S' T' :=
  ⟨⟨fun k a b => (h.1.1 k a b).trans (h1 k a b).symm, fun r hr k a b => (h.1.2 r hr k a b).trans (h2 r k (by have := h.2.1.2.1; omega) a b).symm⟩, h.2⟩
theorem ma_Iv_m {t : Nat} {x m n : ma_S} (h : ma_sm m n) (hi : ma_Iv t x m) : ma_Iv t x n := by
  obtain ⟨b1, b2, b3⟩ := h
  obtain ⟨h1, h2, h3, h4, h5, h6⟩ := hi
  have ef : ∀ k, (7 ≤ k ∧ k ≤ 13) ∨ k = 16 ∨ k = 21 → n.1 50 k 0 = m.1 50 k 0 := fun k b => by funext r; exact b2 k r (by omega) (Or.inr b)
  unfold ma_Iv
  rw [b1 45 (by omega), b1 46 (by omega), b1 9 (by omega), b3, ef 7 (by omega), ef 8 (by omega), ef 9 (by omega), ef 10 (by omega), ef 11 (by omega), ef 12 (by omega), ef 13 (by omega), ef 16 (by omega), ef 21 (by omega)]
  exact ⟨ma_IvH_S4 h1 (fun k a b => b1 k (by omega)) (fun r k hr a b => b2 k r a (by omega)), h2, h3, h4, h5, h6⟩
/-- an update outside -/
theorem ma_u_g {g' g : Nat} (h : g' ≠ g) (σ : ma_S) (i j k : Nat) (v : Int32) : (ma_u σ g i j k v).1 g' = σ.1 g' := by funext i' j' k'; simp [ma_u, h]
theorem ma_u_i {i' i : Nat} (h : i' ≠ i) (σ : ma_S) (g j k : Nat) (v : Int32) : (ma_u σ g i j k v).1 g i' = σ.1 g i' := by funext j' k'; simp [ma_u, h]
theorem ma_u_2 (σ : ma_S) (g i j k : Nat) (v : Int32) : (ma_u σ g i j k v).2 = σ.2 := rfl
theorem ma_u_k (σ : ma_S) (g i j k k' : Nat) (v : Int32) : (ma_u σ g i j k v).1 g i j k' = if k' = k then v else σ.1 g i j k' := by simp [ma_u]
/-- a refusal -/
theorem ma_Iv_no {t : Nat} {x m : ma_S} {b : Int32} (hb : sp_isb b) (hi : ma_Iv t x m) : ma_Iv t (sp_rx x b) (sp_rm m b) := by
  obtain ⟨h1, h2, h3, h4, h5, h6⟩ := hi
  obtain ⟨n1, n2⟩ := sp_isb_n hb
  obtain ⟨l1, l2⟩ := hb
  have c1 : (-b - 1).toNatClampNeg < 7 := by rw [ma_clN]; omega
  have c2 : (-b).toNatClampNeg = (-b - 1).toNatClampNeg + 1 := by rw [ma_clN, ma_clN]; omega
  unfold sp_rx sp_rm
  rw [c2]
  generalize (-b - 1).toNatClampNeg = p at c1
  refine ⟨?_, ?_, ?_, ?_, ?_, ?_⟩
  · rw [ma_u_g (by decide), ma_u_g (by decide), ma_u_g (by decide)]
    exact ma_IvH_S h1 (fun _ _ _ => rfl) (fun r k a b => by unfold ma_G; rw [ma_u_i (by omega)])
  · rw [ma_u_g (by decide), ma_u_g (by decide), ma_u_i (by decide), ma_u_i (by decide), ma_u_i (by decide), ma_u_i (by decide)]
    exact h2
  · intro j hj
    rw [ma_u_k, ma_u_k]
    have := h3 j hj
    by_cases e : j = p
    · subst e; rw [if_pos rfl, if_pos rfl, this]
    · rw [if_neg e, if_neg (by omega), this]
  · rw [ma_u_g (by decide), ma_u_g (by decide), ma_u_i (by decide), ma_u_i (by decide)]
    exact h4
  · rw [ma_u_g (by decide), ma_u_g (by decide), ma_u_g (by decide), ma_u_g (by decide), ma_u_i (by decide)]
    exact h5
  · rw [ma_u_g (by decide), ma_u_g (by decide), ma_u_i (by decide), ma_u_i (by decide)]
    exact h6
/-- the hill anew on both sides -/
theorem ma_Iv_hill {t t' : Nat} {x m : ma_S} {F S : Nat → Int32} {G T : Nat → Nat → Int32} (ht : t ≤ t') (hi : ma_Iv t x m) (hh : ma_IvH t' F G S T) (hn : (x.1 2 0 0 1).toInt ≤ (F 1).toInt) (hS : ∀ k, 9 ≤ k → S k = m.1 20 0 0 k) (hT : ∀ r k, 7 ≤ k → T r k = ma_G m r k) : ma_Iv t' (ma_sh x 0 F G) (ma_mh m S T) := by
  obtain ⟨h1, h2, h3, h4, h5, h6⟩ := ma_Iv_mono ht hi
  have e16 : (ma_sh x 0 F G).1 16 = x.1 16 := by funext i j k; simp [ma_sh]
  have e1 : (ma_sh x 0 F G).1 1 = x.1 1 := by funext i j k; simp [ma_sh]
  have e13 : (ma_sh x 0 F G).1 13 = x.1 13 := by funext i j k; simp [ma_sh]
  have e50 : (ma_sh x 0 F G).1 50 = x.1 50 := by funext i j k; simp [ma_sh]
  have em : ∀ k, 7 ≤ k → (ma_mh m S T).1 50 k 0 = m.1 50 k 0 := fun k hk => by
    funext r
    rw [ma_mh_A, hT r k hk]; rfl
  unfold ma_Iv
  rw [ma_sh_F, ma_sh_G, ma_sh_neF _ _ _ _ _ (by decide), ma_sh_neG _ _ _ _ _ (by decide), e16, e1, e13, e50, em 7 (by omega), em 8 (by omega), em 9 (by omega), em 10 (by omega), em 11 (by omega), em 12 (by omega), em 13 (by omega), em 16 (by omega), em 21 (by omega), ma_mh_F1, ma_mh_G, hS 45 (by omega), hS 46 (by omega), hS 9 (by omega)]
  refine ⟨hh, ?_, h3, h4, h5, h6⟩
  intro s hs
  rcases h2 s hs with e | ⟨e, e1, e2, e3, e4⟩ | e
  · exact Or.inl e
  · exact Or.inr (Or.inl ⟨e, e1, e2, e3, by omega⟩)
  · exact Or.inr (Or.inr e)
