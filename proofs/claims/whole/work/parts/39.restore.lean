/-! PART 39: calls: restore, status. -/
def sp_bad (n c : Int32) : Bool := decide ((0 ≤ c ∧ c < 100) ∧ ¬ (0 ≤ c ∧ c < n))
def ma_xr (x : ma_S) (k : Nat) (B : Nat → Bool) : ma_S := (fun g i j q => if g = 16 ∧ i < k ∧ j = 0 ∧ B i = true then (if q = 1 then -1 else if q = 2 then 0 else x.1 g i j q) else x.1 g i j q, x.2)
theorem ma_xr_s1 (x : ma_S) (k : Nat) (B : Nat → Bool) (h : B k = true) : ma_u (ma_u (ma_xr x k B) 16 k 0 1 (-1)) 16 k 0 2 0 = ma_xr x (k + 1) B := by
  refine ma_S_ext (fun g i j q => ?_) (fun _ _ => rfl)
  simp only [ma_u, ma_xr]
  by_cases e : g = 16 ∧ j = 0
  · obtain ⟨rfl, rfl⟩ := e
    by_cases e2 : i = k
    · subst e2
      by_cases q1 : q = 1
      · subst q1; simp [h]
      by_cases q2 : q = 2
      · subst q2; simp [h]
      · simp [q1, q2]
    · have e3 : (i < k + 1) = (i < k) := by apply propext; omega
      simp [e2, e3]
  · have e2 : ¬ (g = 16 ∧ i = k ∧ j = 0 ∧ q = 2) := fun z => e ⟨z.1, z.2.2.1⟩
    have e3 : ¬ (g = 16 ∧ i = k ∧ j = 0 ∧ q = 1) := fun z => e ⟨z.1, z.2.2.1⟩
    rw [if_neg e2, if_neg e3, if_neg (fun z => e ⟨z.1, z.2.2.1⟩), if_neg (fun z => e ⟨z.1, z.2.2.1⟩)]
theorem ma_xr_s0 (x : ma_S) (k : Nat) (B : Nat → Bool) (h : ¬ B k = true) : ma_xr x k B = ma_xr x (k + 1) B := by
  refine ma_S_ext (fun g i j q => ?_) (fun _ _ => rfl)
  simp only [ma_xr]
  by_cases e2 : i = k
  · subst e2; simp [h]
  · have e3 : (i < k + 1) = (i < k) := by apply propext; omega
    simp only [e3]
theorem ma_xr_0 (x : ma_S) (B : Nat → Bool) : ma_xr x 0 B = x := by
  refine ma_S_ext (fun g i j q => ?_) (fun _ _ => rfl)
  simp only [ma_xr]
  rw [if_neg (by omega)]
theorem ma_xr_c (x : ma_S) (k q : Nat) (B : Nat → Bool) : (ma_xr x k B).1 16 k 0 q = x.1 16 k 0 q := by
  simp only [ma_xr]
  rw [if_neg (by omega)]
theorem ma_xr_2 (x : ma_S) (k i q : Nat) (B : Nat → Bool) : (ma_xr x k B).1 2 i 0 q = x.1 2 i 0 q := by
  simp [ma_xr]
theorem cx_restore_loop (d : Nat) (x : ma_S) : ∀ c k, k + c = 8 → ma_ex (d + 1) 96 27 [some (vR 1 0 0), some (vI (nI k))] [] (ma_xr x k (fun i => sp_bad (x.1 2 0 0 1) (x.1 16 i 0 1))) = ma_ex (d + 1) 96 80 [some (vR 1 0 0), some (vI (nI 8))] [] (ma_xr x 8 (fun i => sp_bad (x.1 2 0 0 1) (x.1 16 i 0 1))) := by
  intro c
  induction c with
  | zero =>
    intro k h
    have e : k = 8 := by omega
    subst e
    rw [bk_96_27, if_pos (by decide)]
  | succ c ih =>
    intro k h
    have e8 : (8 : Int32).toInt = 8 := rfl
    have hk := nI_toInt (n := k) (by omega)
    have hin : ma_in (nI k) 8 := ma_inI (by omega) (by omega)
    have hcl : (nI k).toNatClampNeg = k := nI_clamp (by omega)
    rw [← ih (k + 1) (by omega), bk_96_27, if_neg (by rw [ma_le]; omega), bk_96_33, ma_if_pos hin, hcl, cx_hasRider, ma_xr_c]
    by_cases c1 : 0 ≤ x.1 16 k 0 1 ∧ x.1 16 k 0 1 < 100
    · by_cases c2 : 0 ≤ x.1 16 k 0 1 ∧ x.1 16 k 0 1 < x.1 2 0 0 1
      · have hb : ¬ sp_bad (x.1 2 0 0 1) (x.1 16 k 0 1) = true := by
          unfold sp_bad; rw [decide_eq_true_iff]; exact fun z => z.2 c2
        rw [← ma_xr_s0 x k (fun i => sp_bad (x.1 2 0 0 1) (x.1 16 i 0 1)) hb]
        simp only [bk_96_42, bk_96_45, bk_96_61, bk_96_74, ma_if_pos hin, hcl, cx_has, ma_xr_c, ma_xr_2, eq_true c1, eq_true c2, nI_succ, ↓reduceIte, ma_bd_some, ma_bd_none, ma_tl1, ma_tl0, ma_ap1, ma_ap0, b2i_0, b2i_1, b2i_01, ma_l10, ma_l01, eq_self, true_or, or_true, not_true_eq_false, not_false_eq_true, Bool.false_eq_true]
      · have hb : sp_bad (x.1 2 0 0 1) (x.1 16 k 0 1) = true := by
          unfold sp_bad; rw [decide_eq_true_iff]; exact ⟨c1, c2⟩
        rw [← ma_xr_s1 x k (fun i => sp_bad (x.1 2 0 0 1) (x.1 16 i 0 1)) hb]
        simp only [bk_96_42, bk_96_45, bk_96_61, bk_96_64, bk_96_74, ma_if_pos hin, hcl, cx_has, cx_hold, ma_xr_c, ma_xr_2, eq_true c1, eq_false c2, nI_succ, ↓reduceIte, ma_bd_some, ma_bd_none, ma_tl1, ma_tl0, ma_ap1, ma_ap0, b2i_0, b2i_1, b2i_01, ma_l10, ma_l01, eq_self, true_or, or_true, not_true_eq_false, not_false_eq_true, Bool.false_eq_true]
    · have hb : ¬ sp_bad (x.1 2 0 0 1) (x.1 16 k 0 1) = true := by
        unfold sp_bad; rw [decide_eq_true_iff]; exact fun z => c1 z.1
      rw [← ma_xr_s0 x k (fun i => sp_bad (x.1 2 0 0 1) (x.1 16 i 0 1)) hb]
      simp only [bk_96_42, bk_96_74, eq_false c1, nI_succ, ↓reduceIte, ma_bd_some, ma_bd_none, ma_tl1, ma_tl0, ma_ap1, ma_ap0, b2i_0, b2i_1, b2i_01, ma_l10, ma_l01, eq_self, true_or, or_true, not_true_eq_false, not_false_eq_true, Bool.false_eq_true]
def sp_badm (n h w : Int32) : Bool := decide (h = 2 ∧ ¬ w < n)
def ma_mr (m : ma_S) (k : Nat) (B : Nat → Bool) : ma_S := (fun g i j q => if g = 50 ∧ i = 8 ∧ j = 0 ∧ q < k ∧ B q = true then 0 else m.1 g i j q, m.2)
theorem ma_mr_s1 (m : ma_S) (k : Nat) (B : Nat → Bool) (h : B k = true) : ma_u (ma_mr m k B) 50 8 0 k 0 = ma_mr m (k + 1) B := by
  refine ma_S_ext (fun g i j q => ?_) (fun _ _ => rfl)
  simp only [ma_u, ma_mr]
  by_cases e : g = 50 ∧ i = 8 ∧ j = 0
  · obtain ⟨rfl, rfl, rfl⟩ := e
    by_cases e2 : q = k
    · subst e2; simp [h]
    · have e3 : (q < k + 1) = (q < k) := by apply propext; omega
      simp [e2, e3]
  · rw [if_neg (fun z => e ⟨z.1, z.2.1, z.2.2.1⟩), if_neg (fun z => e ⟨z.1, z.2.1, z.2.2.1⟩), if_neg (fun z => e ⟨z.1, z.2.1, z.2.2.1⟩)]
theorem ma_mr_s0 (m : ma_S) (k : Nat) (B : Nat → Bool) (h : ¬ B k = true) : ma_mr m k B = ma_mr m (k + 1) B := by
  refine ma_S_ext (fun g i j q => ?_) (fun _ _ => rfl)
  simp only [ma_mr]
  by_cases e2 : q = k
  · subst e2; simp [h]
  · have e3 : (q < k + 1) = (q < k) := by apply propext; omega
    simp only [e3]
theorem ma_mr_0 (m : ma_S) (B : Nat → Bool) : ma_mr m 0 B = m := by
  refine ma_S_ext (fun g i j q => ?_) (fun _ _ => rfl)
  simp only [ma_mr]
  rw [if_neg (by omega)]
theorem ma_mr_c (m : ma_S) (k : Nat) (B : Nat → Bool) : (ma_mr m k B).1 50 8 0 k = m.1 50 8 0 k := by
  simp only [ma_mr]
  rw [if_neg (by omega)]
theorem ma_mr_11 (m : ma_S) (k q : Nat) (B : Nat → Bool) : (ma_mr m k B).1 50 11 0 q = m.1 50 11 0 q := by simp [ma_mr]
theorem ma_mr_20 (m : ma_S) (k q : Nat) (B : Nat → Bool) : (ma_mr m k B).1 20 0 0 q = m.1 20 0 0 q := by simp [ma_mr]
theorem cm_restore_loop (d : Nat) (m : ma_S) : ∀ c k, k + c = 8 → ma_ex (d + 1) 201 26 [some (vR 20 0 0), some (vI (nI k))] [] (ma_mr m k (fun i => sp_badm (m.1 20 0 0 1) (m.1 50 8 0 i) (m.1 50 11 0 i))) = ma_ex (d + 1) 201 68 [some (vR 20 0 0), some (vI (nI 8))] [] (ma_mr m 8 (fun i => sp_badm (m.1 20 0 0 1) (m.1 50 8 0 i) (m.1 50 11 0 i))) := by
  intro c
  induction c with
  | zero =>
    intro k h
    have e : k = 8 := by omega
    subst e
    rw [bk_201_26, if_pos (by decide)]
  | succ c ih =>
    intro k h
    have e8 : (8 : Int32).toInt = 8 := rfl
    have hk := nI_toInt (n := k) (by omega)
    have hin : ma_in (nI k) 8 := ma_inI (by omega) (by omega)
    have hcl : (nI k).toNatClampNeg = k := nI_clamp (by omega)
    rw [← ih (k + 1) (by omega), bk_201_26, if_neg (by rw [ma_le]; omega), bk_201_32, ma_if_pos hin, hcl, ma_mr_c]
    by_cases c1 : m.1 50 8 0 k = 2
    · rw [if_pos c1, bk_201_42, ma_if_pos hin, hcl, ma_mr_11, ma_mr_20]
      by_cases c2 : m.1 50 11 0 k < m.1 20 0 0 1
      · have hb : ¬ sp_badm (m.1 20 0 0 1) (m.1 50 8 0 k) (m.1 50 11 0 k) = true := by
          unfold sp_badm; rw [decide_eq_true_iff]; exact fun z => z.2 c2
        rw [if_pos c2, bk_201_62, ← nI_succ, ← ma_mr_s0 m k (fun i => sp_badm (m.1 20 0 0 1) (m.1 50 8 0 i) (m.1 50 11 0 i)) hb]
      · have hb : sp_badm (m.1 20 0 0 1) (m.1 50 8 0 k) (m.1 50 11 0 k) = true := by
          unfold sp_badm; rw [decide_eq_true_iff]; exact ⟨c1, c2⟩
        rw [if_neg c2, bk_201_55, ma_if_pos hin, hcl, bk_201_62, ← nI_succ, ← ma_mr_s1 m k (fun i => sp_badm (m.1 20 0 0 1) (m.1 50 8 0 i) (m.1 50 11 0 i)) hb]
    · have hb : ¬ sp_badm (m.1 20 0 0 1) (m.1 50 8 0 k) (m.1 50 11 0 k) = true := by
        unfold sp_badm; rw [decide_eq_true_iff]; exact fun z => c1 z.1
      rw [if_neg c1, bk_201_62, ← nI_succ, ← ma_mr_s0 m k (fun i => sp_badm (m.1 20 0 0 1) (m.1 50 8 0 i) (m.1 50 11 0 i)) hb]
theorem op_restore (d t : Nat) (x m : ma_S) (hi : ma_Iv t x m) : ma_Op (d + 3) 96 201 [] t x m := by
  unfold ma_Op
  rw [en_96, en_201]
  obtain ⟨h1, h2, h3, h4, ⟨k1, k2⟩, h6⟩ := hi
  have hi : ma_Iv t x m := ⟨h1, h2, h3, h4, ⟨k1, k2⟩, h6⟩
  have n10 : ((1 : Int32) = 0) = False := by decide
  rcases k2 with k0 | ⟨k0, kR, kok, krb⟩
  · refine ⟨some (vI (-6)), sp_rx x (-6), sp_rm m (-6), ?_, ?_, ma_Iv_no sp_isb6 (ma_Iv_s hi)⟩
    · simp only [bk_96_0, bk_96_7, bk_96_13, k0, cx_refuse _ _ _ sp_isb6, ↓reduceIte, ma_bd_some, ma_bd_none, ma_tl1, ma_tl0, ma_ap1, ma_ap0, b2i_0, b2i_1, b2i_01, ma_l10, ma_l01, eq_self, true_or, or_true, not_true_eq_false, not_false_eq_true, Bool.false_eq_true]
    · simp only [bk_201_0, bk_201_7, bk_201_13, ← k1, k0, cm_no _ _ _ sp_isb6, ↓reduceIte, ma_bd_some, ma_bd_none, ma_tl1, ma_tl0, ma_ap1, ma_ap0, b2i_0, b2i_1, b2i_01, ma_l10, ma_l01, eq_self, true_or, or_true, not_true_eq_false, not_false_eq_true, Bool.false_eq_true]
  · have hbec := cx_become d 0 2 x (by decide) kok.1 kok.2.1
    have hget := cm_all_get d 16 0 m (m.1 20 0 0) (ma_G m) (by omega) (by decide) (by decide)
    rw [nI_0, ma_mh_id] at hget
    obtain ⟨F, hF⟩ : ∃ F, sp_bF (x.1 2 0 0) (x.1 2 2 0) = F := ⟨_, rfl⟩
    obtain ⟨G, hG⟩ : ∃ G, sp_bG (x.1 2 2 0 1) (x.1 4 0) (x.1 4 2) = G := ⟨_, rfl⟩
    obtain ⟨S, hS⟩ : ∃ S, sp_getF (m.1 20 0 0) (ma_G m) 16 0 = S := ⟨_, rfl⟩
    obtain ⟨T, hT⟩ : ∃ T, sp_getG (ma_G m) 16 0 = T := ⟨_, rfl⟩
    rw [hF, hG] at hbec
    rw [hS, hT] at hget
    have f1 : F 1 = x.1 2 2 0 1 := by rw [← hF]; rfl
    have hlt4 : (F 1).toInt ≤ 4 := by rw [f1]; exact kok.2.1
    have hS1 : ∀ k, 1 ≤ k → k ≤ 8 → S k = sp_dcF (m.1 50 16 0) k := fun k a b => by
      rw [← hS]
      unfold sp_getF sp_dcF
      rw [if_pos ⟨a, b⟩, show 0 + 23 + k = 23 + k by omega]
      rfl
    have hT1 : ∀ r k, r < 4 → 1 ≤ k → k ≤ 6 → T r k = sp_dcG (m.1 50 16 0) r k := fun r k hr a b => by
      rw [← hT]
      unfold sp_getG sp_dcG
      rw [if_pos ⟨a, b, hr⟩, show 0 + 4 * (k - 1) + r = 4 * (k - 1) + r by omega]
      rfl
    have hRe0 : ma_Re (x.1 2 2 0) F (x.1 4 2) G := by
      rw [← hF, ← hG]
      exact ⟨fun k a b => (if_pos ⟨a, b⟩).symm, fun r hr k a b => by
        unfold sp_bG
        rw [if_pos hr]
        exact (if_pos ⟨a, b⟩).symm⟩
    have hH : ma_IvH (t + 1) F G S T := by
      refine ⟨ma_Re_trans (ma_Re_symm hRe0) ⟨fun k a b => ?_, fun r hr k a b => ?_⟩, sp_Re_ok hRe0 kok, fun r hr => ?_, fun r hr => ?_⟩
      · rw [hS1 k a b]; exact kR.1 k a b
      · have := kok.2.1
        rw [hT1 r k (by omega) a b]; exact kR.2 r hr k a b
      · have := sp_rb2_Re hRe0 krb r hr
        omega
      · rw [← hG]
        unfold sp_bG
        split
        · exact h1.2.2.2 r hr
        · exact h1.2.2.2 r hr
    have hlx := cx_restore_loop (d + 1) (ma_sh x 0 F G) 8 0 (by omega)
    have hlm := cm_restore_loop (d + 1) (ma_mh m S T) 8 0 (by omega)
    have x16 : (ma_sh x 0 F G).1 16 = x.1 16 := by funext i j k; simp [ma_sh]
    have T7 : ∀ r k, 7 ≤ k → T r k = ma_G m r k := fun r k hk => by
      rw [← hT]; unfold sp_getG; rw [if_neg (by omega)]
    have mk : ∀ k, 7 ≤ k → (ma_mh m S T).1 50 k 0 = m.1 50 k 0 := fun k hk => by
      funext r; rw [ma_mh_A, T7 r k hk]; rfl
    rw [ma_xr_0, nI_0, ma_sh_F, x16] at hlx
    rw [ma_mr_0, nI_0, ma_mh_F, mk 8 (by omega), mk 11 (by omega)] at hlm
    have eFS : S 1 = F 1 := (hH.1.1 1 (by omega) (by omega)).symm
    have S9 : ∀ k, 9 ≤ k → S k = m.1 20 0 0 k := fun k hk => by
      rw [← hS]; unfold sp_getF; rw [if_neg (by omega)]
    refine ⟨some (vI (F 1)), ma_xr (ma_sh x 0 F G) 8 (fun i => sp_bad (F 1) (x.1 16 i 0 1)), ma_mr (ma_mh m S T) 8 (fun i => sp_badm (S 1) (m.1 50 8 0 i) (m.1 50 11 0 i)), ?_, ?_, ?_⟩
    · simp only [bk_96_0, bk_96_14, bk_96_25, k0, n10, hbec, hlx, ↓reduceIte, ma_bd_some, ma_bd_none, ma_tl1, ma_tl0, ma_ap1, ma_ap0, b2i_0, b2i_1, b2i_01, ma_l10, ma_l01, eq_self, true_or, or_true, not_true_eq_false, not_false_eq_true, Bool.false_eq_true]
      rw [bk_96_80, ma_xr_2, ma_sh_F]
    · simp only [bk_201_0, bk_201_14, bk_201_24, ← k1, k0, n10, hget, hlm, ↓reduceIte, ma_bd_some, ma_bd_none, ma_tl1, ma_tl0, ma_ap1, ma_ap0, b2i_0, b2i_1, b2i_01, ma_l10, ma_l01, eq_self, true_or, or_true, not_true_eq_false, not_false_eq_true, Bool.false_eq_true]
      rw [bk_201_68, ma_mr_20, ma_mh_F, eFS]
    · have gx : ∀ g, g ≠ 16 → (ma_xr (ma_sh x 0 F G) 8 (fun i => sp_bad (F 1) (x.1 16 i 0 1))).1 g = (ma_sh x 0 F G).1 g := fun g hg => by
        funext i j k; simp [ma_xr, hg]
      have gm20 : (ma_mr (ma_mh m S T) 8 (fun i => sp_badm (S 1) (m.1 50 8 0 i) (m.1 50 11 0 i))).1 20 = (ma_mh m S T).1 20 := by
        funext i j k; simp [ma_mr]
      have gm50 : ∀ i, i ≠ 8 → (ma_mr (ma_mh m S T) 8 (fun i => sp_badm (S 1) (m.1 50 8 0 i) (m.1 50 11 0 i))).1 50 i = (ma_mh m S T).1 50 i := fun i hi => by
        funext j k; simp [ma_mr, hi]
      have e1 : (ma_sh x 0 F G).1 1 = x.1 1 := by funext i j k; simp [ma_sh]
      have e13 : (ma_sh x 0 F G).1 13 = x.1 13 := by funext i j k; simp [ma_sh]
      have e50 : (ma_sh x 0 F G).1 50 = x.1 50 := by funext i j k; simp [ma_sh]
      have hmG : ∀ r k, 1 ≤ k → k ≤ 6 → ma_G (ma_mr (ma_mh m S T) 8 (fun i => sp_badm (S 1) (m.1 50 8 0 i) (m.1 50 11 0 i))) r k = T r k := fun r k a b => by
        unfold ma_G
        rw [gm50 k (by omega), ma_mh_A]
      unfold ma_Iv
      rw [gx 2 (by decide), gx 4 (by decide), gx 50 (by decide), gx 13 (by decide), gx 1 (by decide), ma_sh_F, ma_sh_G, ma_sh_neF _ _ _ _ _ (by decide), ma_sh_neG _ _ _ _ _ (by decide), e1, e13, e50, gm20, ma_mh_F1, gm50 9 (by decide), gm50 10 (by decide), gm50 11 (by decide), gm50 7 (by decide), gm50 21 (by decide), gm50 16 (by decide), gm50 12 (by decide), gm50 13 (by decide), mk 12 (by omega), mk 13 (by omega), mk 9 (by omega), mk 10 (by omega), mk 11 (by omega), mk 7 (by omega), mk 21 (by omega), mk 16 (by omega), S9 45 (by omega), S9 46 (by omega), S9 9 (by omega)]
      refine ⟨ma_IvH_S hH (fun _ _ _ => rfl) hmG, ?_, h3, h4, ⟨k1, Or.inr ⟨k0, kR, kok, fun r hr => ?_⟩⟩, h6⟩
      · intro s hs
        have z8 : (ma_mr (ma_mh m S T) 8 (fun i => sp_badm (S 1) (m.1 50 8 0 i) (m.1 50 11 0 i))).1 50 8 0 s = if sp_badm (S 1) (m.1 50 8 0 s) (m.1 50 11 0 s) = true then 0 else m.1 50 8 0 s := by
          have : (ma_mh m S T).1 50 8 0 s = m.1 50 8 0 s := congrFun (mk 8 (by omega)) s
          simp [ma_mr, hs, this]
        have z1 : ∀ q, (ma_xr (ma_sh x 0 F G) 8 (fun i => sp_bad (F 1) (x.1 16 i 0 1))).1 16 s 0 q = if sp_bad (F 1) (x.1 16 s 0 1) = true then (if q = 1 then -1 else if q = 2 then 0 else x.1 16 s 0 q) else x.1 16 s 0 q := fun q => by
          simp [ma_xr, hs, x16]
        have e0 : (0 : Int32).toInt = 0 := rfl
        have e100 : (100 : Int32).toInt = 100 := rfl
        rw [z8, z1, z1, eFS]
        have n4 := h1.2.1.2.1
        rcases h2 s hs with ⟨a, b, c⟩ | ⟨a, b, c, c1, c2⟩ | ⟨a, b, c1, c2, c3⟩
        · have q1 : ¬ sp_bad (F 1) (x.1 16 s 0 1) = true := by rw [b]; unfold sp_bad; rw [decide_eq_true_iff]; exact fun z => absurd z.1.1 (by decide)
          have q2 : ¬ sp_badm (F 1) (m.1 50 8 0 s) (m.1 50 11 0 s) = true := by rw [a]; unfold sp_badm; rw [decide_eq_true_iff]; exact fun z => absurd z.1 (by decide)
          rw [if_neg q1, if_neg q1, if_neg q2]
          exact Or.inl ⟨a, b, c⟩
        · by_cases w : m.1 50 11 0 s < F 1
          · have q1 : ¬ sp_bad (F 1) (x.1 16 s 0 1) = true := by rw [b]; unfold sp_bad; rw [decide_eq_true_iff]; exact fun z => z.2 ⟨z.1.1, w⟩
            have q2 : ¬ sp_badm (F 1) (m.1 50 8 0 s) (m.1 50 11 0 s) = true := by rw [a]; unfold sp_badm; rw [decide_eq_true_iff]; exact fun z => z.2 w
            rw [if_neg q1, if_neg q1, if_neg q2]
            exact Or.inr (Or.inl ⟨a, b, c, c1, ma_lt.mp w⟩)
          · have q1 : sp_bad (F 1) (x.1 16 s 0 1) = true := by rw [b]; unfold sp_bad; rw [decide_eq_true_iff]; exact ⟨⟨ma_le.mpr (by omega), ma_lt.mpr (by omega)⟩, fun z => w z.2⟩
            have q2 : sp_badm (F 1) (m.1 50 8 0 s) (m.1 50 11 0 s) = true := by rw [a]; unfold sp_badm; rw [decide_eq_true_iff]; exact ⟨rfl, w⟩
            rw [if_pos q1, if_pos q1, if_pos q2]
            exact Or.inl ⟨rfl, rfl, rfl⟩
        · have hadd := ma_add (a := 100) (b := m.1 50 9 0 s) (by omega) (by omega)
          have q1 : ¬ sp_bad (F 1) (x.1 16 s 0 1) = true := by rw [b]; unfold sp_bad; rw [decide_eq_true_iff]; exact fun z => by have := ma_lt.mp z.1.2; omega
          have q2 : ¬ sp_badm (F 1) (m.1 50 8 0 s) (m.1 50 11 0 s) = true := by rw [a]; unfold sp_badm; rw [decide_eq_true_iff]; exact fun z => absurd z.1 (by decide)
          rw [if_neg q1, if_neg q1, if_neg q2]
          exact Or.inr (Or.inr ⟨a, b, c1, c2, c3⟩)
      · have := krb r hr
        omega
