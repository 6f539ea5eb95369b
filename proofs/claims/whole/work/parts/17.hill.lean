/-! PART 17: a HILL of the class: taken over, a new day, sums. -/
theorem ma_sh_neF (σ : ma_S) (i j : Nat) (F : Nat → Int32) (G : Nat → Nat → Int32) (h : j ≠ i) : (ma_sh σ i F G).1 2 j 0 = σ.1 2 j 0 := by funext k; simp [ma_sh, h]
theorem ma_sh_neG (σ : ma_S) (i j : Nat) (F : Nat → Int32) (G : Nat → Nat → Int32) (h : j ≠ i) : (ma_sh σ i F G).1 4 j = σ.1 4 j := by funext r k; simp [ma_sh, h]
/-- a rider taken over -/
def sp_rb (R S : Nat → Int32) : Nat → Int32 := fun k => if 1 ≤ k ∧ k ≤ 6 then S k else R k
theorem cx_riderBecome (d i r j q : Nat) (σ : ma_S) (h : ¬ (j = i ∧ q = r)) : ma_cal (d + 1) 35 [vR 4 i r, vR 4 j q] σ = some (none, ma_sr σ i r (sp_rb (σ.1 4 i r) (σ.1 4 j q))) := by
  rw [en_35]
  obtain ⟨R, hR⟩ : ∃ R, σ.1 4 i r = R := ⟨_, rfl⟩
  have hσ : σ = ma_sr σ i r R := by rw [← hR, ma_sr_id]
  obtain ⟨S, hS⟩ : ∃ S, σ.1 4 j q = S := ⟨_, rfl⟩
  have hj : ∀ R', (ma_sr σ i r R').1 4 j q = S := fun R' => by rw [← hS]; funext k; simp only [ma_sr]; rw [if_neg (fun z => h ⟨z.2.1, z.2.2⟩)]
  rw [hR, hS]
  generalize hτ : ma_sr σ i r (sp_rb R S) = τ
  rw [hσ]
  simp only [bk_35_0, ma_sr_u, ma_sr_at, hj]
  rw [← hτ]
  congr 3
  funext k
  simp only [upd, sp_rb]
  by_cases k1 : k = 1
  · subst k1; simp
  by_cases k2 : k = 2
  · subst k2; simp
  by_cases k3 : k = 3
  · subst k3; simp
  by_cases k4 : k = 4
  · subst k4; simp
  by_cases k5 : k = 5
  · subst k5; simp
  by_cases k6 : k = 6
  · subst k6; simp
  · rw [if_neg k6, if_neg k5, if_neg k4, if_neg k3, if_neg k2, if_neg k1, if_neg (by omega)]
/-- a hill taken over, its first k riders -/
def sp_bF (F T : Nat → Int32) : Nat → Int32 := fun k => if 1 ≤ k ∧ k ≤ 8 then T k else F k
def sp_bGk (n : Nat) (G T : Nat → Nat → Int32) : Nat → Nat → Int32 := fun r => if r < n then sp_rb (G r) (T r) else G r
def sp_bG (T1 : Int32) (G T : Nat → Nat → Int32) : Nat → Nat → Int32 := fun r => if (r : Int) < T1.toInt then sp_rb (G r) (T r) else G r
theorem sp_bGk_s (k : Nat) (G T : Nat → Nat → Int32) : ma_uG (sp_bGk k G T) k (sp_rb (sp_bGk k G T k) (T k)) = sp_bGk (k + 1) G T := by
  have e0 : sp_bGk k G T k = G k := by simp [sp_bGk]
  rw [e0]
  funext r
  simp only [ma_uG, sp_bGk]
  by_cases e : r = k
  · subst e; rw [if_pos rfl, if_pos (Nat.lt_succ_self _)]
  · rw [if_neg e]
    by_cases e2 : r < k
    · rw [if_pos e2, if_pos (by omega)]
    · rw [if_neg e2, if_neg (by omega)]
theorem cx_become_loop (d i j n : Nat) (σ : ma_S) (F : Nat → Int32) (G T : Nat → Nat → Int32) (hij : j ≠ i) (hF : F 1 = nI n) (hn : n ≤ 4) (hT : σ.1 4 j = T) :
    ∀ c k, n - k = c → k ≤ n → ma_ex (d + 1) 0 10 [some (vR 2 i 0), some (vR 2 j 0), some (vI (nI k))] [] (ma_sh σ i F (sp_bGk k G T)) = ma_ex (d + 1) 0 39 [some (vR 2 i 0), some (vR 2 j 0), some (vI (nI n))] [] (ma_sh σ i F (sp_bGk n G T)) := by
  intro c
  induction c with
  | zero =>
    intro k hj hk
    have : k = n := by omega
    subst this
    rw [bk_0_10, if_pos (by rw [ma_sh_F, hF]; exact nI_le (Nat.le_refl _) (by omega))]
  | succ c ih =>
    intro k hj hk
    have hlt : k < n := by omega
    have hin := sp_nIin hlt hn
    have hcl : (nI k).toNatClampNeg = k := nI_clamp (by omega)
    have hb := cx_riderBecome d i k j k (ma_sh σ i F (sp_bGk k G T)) (fun z => hij z.1)
    rw [ma_sh_G, ma_sh_neG _ _ _ _ _ hij, hT, ma_sh_sr, sp_bGk_s] at hb
    rw [← ih (k + 1) (by omega) (by omega), bk_0_10, if_neg (by rw [ma_sh_F, hF]; exact nI_ge hlt (by omega))]
    simp only [bk_0_18, bk_0_33, ma_if_pos hin, hcl, hb, nI_succ, ma_bd_some, ma_bd_none, ma_tl1, ma_tl0, ma_ap1, ma_ap0, b2i_0, b2i_1, b2i_01, ma_l10, ma_l01, eq_self, if_true, if_false, true_or, or_true, not_true_eq_false, not_false_eq_true, Bool.false_eq_true]
theorem cx_become (d i j : Nat) (σ : ma_S) (hij : j ≠ i) (h0 : 0 ≤ (σ.1 2 j 0 1).toInt) (h4 : (σ.1 2 j 0 1).toInt ≤ 4) : ma_cal (d + 2) 0 [vR 2 i 0, vR 2 j 0] σ = some (none, ma_sh σ i (sp_bF (σ.1 2 i 0) (σ.1 2 j 0)) (sp_bG (σ.1 2 j 0 1) (σ.1 4 i) (σ.1 4 j))) := by
  rw [en_0]
  obtain ⟨n, hn, hF⟩ : ∃ n : Nat, n ≤ 4 ∧ σ.1 2 j 0 1 = nI n := ⟨(σ.1 2 j 0 1).toInt.toNat, by omega, ma_nI (by omega) (by omega)⟩
  have hni : (nI n).toInt = n := nI_toInt (by omega)
  have hg : sp_bGk n (σ.1 4 i) (σ.1 4 j) = sp_bG (σ.1 2 j 0 1) (σ.1 4 i) (σ.1 4 j) := by
    funext r
    simp only [sp_bGk, sp_bG, hF, hni]
    by_cases e : r < n
    · rw [if_pos e, if_pos (by omega)]
    · rw [if_neg e, if_neg (by omega)]
  have hl := cx_become_loop d i j n σ (upd (σ.1 2 i 0) 1 (σ.1 2 j 0 1)) (σ.1 4 i) (σ.1 4 j) hij hF hn rfl n 0 (by omega) (Nat.zero_le _)
  have e0 : sp_bGk 0 (σ.1 4 i) (σ.1 4 j) = σ.1 4 i := by funext r; simp [sp_bGk]
  have e1 := ma_sh_uF σ i 1 (σ.1 2 i 0) (σ.1 4 i) (σ.1 2 j 0 1)
  rw [ma_sh_id] at e1
  rw [e0, ← e1, nI_0] at hl
  rw [bk_0_0, hl, bk_0_39, hg]
  simp only [ma_sh_neF _ _ _ _ _ hij, ma_sh_uF]
  congr 3
  funext k
  simp only [upd, sp_bF]
  by_cases k1 : k = 1
  · subst k1; simp
  by_cases k2 : k = 2
  · subst k2; simp
  by_cases k3 : k = 3
  · subst k3; simp
  by_cases k4 : k = 4
  · subst k4; simp
  by_cases k5 : k = 5
  · subst k5; simp
  by_cases k6 : k = 6
  · subst k6; simp
  by_cases k7 : k = 7
  · subst k7; simp
  by_cases k8 : k = 8
  · subst k8; simp
  · rw [if_neg k8, if_neg k7, if_neg k6, if_neg k5, if_neg k4, if_neg k3, if_neg k2, if_neg k1, if_neg (by omega)]
def sp_sum (f : Nat → Int32) : Nat → Int32
  | 0 => 0
  | n + 1 => sp_sum f n + f n
theorem cx_allRuns_loop (d i n : Nat) (σ : ma_S) (hF : σ.1 2 i 0 1 = nI n) (hn : n ≤ 4) :
    ∀ c k, n - k = c → k ≤ n → ma_ex d 6 4 [some (vR 2 i 0), some (vI (sp_sum (fun r => σ.1 4 i r 5) k)), some (vI (nI k))] [] σ = some (some (vI (sp_sum (fun r => σ.1 4 i r 5) n)), σ) := by
  intro c
  induction c with
  | zero =>
    intro k hj hk
    have : k = n := by omega
    subst this
    rw [bk_6_4, if_pos (by rw [hF]; exact nI_le (Nat.le_refl _) (by omega)), bk_6_30]
  | succ c ih =>
    intro k hj hk
    have hlt : k < n := by omega
    rw [← ih (k + 1) (by omega) (by omega), bk_6_4, if_neg (by rw [hF]; exact nI_ge hlt (by omega)), bk_6_12, ma_if_pos (sp_nIin hlt hn), nI_clamp (by omega), nI_succ]
    rfl
theorem cx_allRuns (d i n : Nat) (σ : ma_S) (hF : σ.1 2 i 0 1 = nI n) (hn : n ≤ 4) : ma_cal (d + 1) 6 [vR 2 i 0] σ = some (some (vI (sp_sum (fun r => σ.1 4 i r 5) n)), σ) := by
  rw [en_6, bk_6_0, ← cx_allRuns_loop d i n σ hF hn n 0 (by omega) (by omega), nI_0]
  rfl
theorem cx_allWaited_loop (d i n : Nat) (σ : ma_S) (hF : σ.1 2 i 0 1 = nI n) (hn : n ≤ 4) :
    ∀ c k, n - k = c → k ≤ n → ma_ex d 7 4 [some (vR 2 i 0), some (vI (sp_sum (fun r => σ.1 4 i r 6) k)), some (vI (nI k))] [] σ = some (some (vI (sp_sum (fun r => σ.1 4 i r 6) n)), σ) := by
  intro c
  induction c with
  | zero =>
    intro k hj hk
    have : k = n := by omega
    subst this
    rw [bk_7_4, if_pos (by rw [hF]; exact nI_le (Nat.le_refl _) (by omega)), bk_7_30]
  | succ c ih =>
    intro k hj hk
    have hlt : k < n := by omega
    rw [← ih (k + 1) (by omega) (by omega), bk_7_4, if_neg (by rw [hF]; exact nI_ge hlt (by omega)), bk_7_12, ma_if_pos (sp_nIin hlt hn), nI_clamp (by omega), nI_succ]
    rfl
theorem cx_allWaited (d i n : Nat) (σ : ma_S) (hF : σ.1 2 i 0 1 = nI n) (hn : n ≤ 4) : ma_cal (d + 1) 7 [vR 2 i 0] σ = some (some (vI (sp_sum (fun r => σ.1 4 i r 6) n)), σ) := by
  rw [en_7, bk_7_0, ← cx_allWaited_loop d i n σ hF hn n 0 (by omega) (by omega), nI_0]
  rfl
theorem cm_allOf_loop (d a n : Nat) (σ : ma_S) (hF : σ.1 20 0 0 1 = nI n) (hn : n ≤ 4) (ha : ma_la a = 4) :
    ∀ c k, n - k = c → k ≤ n → ma_ex d 163 4 [some (vR 20 0 0), some (vR 50 a 0), some (vI (sp_sum (fun r => σ.1 50 a 0 r) k)), some (vI (nI k))] [] σ = some (some (vI (sp_sum (fun r => σ.1 50 a 0 r) n)), σ) := by
  intro c
  induction c with
  | zero =>
    intro k hj hk
    have : k = n := by omega
    subst this
    rw [bk_163_4, if_pos (by rw [hF]; exact nI_le (Nat.le_refl _) (by omega)), bk_163_24]
  | succ c ih =>
    intro k hj hk
    have hlt : k < n := by omega
    rw [← ih (k + 1) (by omega) (by omega), bk_163_4, if_neg (by rw [hF]; exact nI_ge hlt (by omega)), bk_163_12, ma_if_pos (by rw [ha]; exact sp_nIin hlt hn), nI_clamp (by omega), nI_succ]
    rfl
theorem cm_allOf (d a n : Nat) (σ : ma_S) (hF : σ.1 20 0 0 1 = nI n) (hn : n ≤ 4) (ha : ma_la a = 4) : ma_cal (d + 1) 163 [vR 20 0 0, vR 50 a 0] σ = some (some (vI (sp_sum (fun r => σ.1 50 a 0 r) n)), σ) := by
  rw [en_163, bk_163_0, ← cm_allOf_loop d a n σ hF hn ha n 0 (by omega) (by omega), nI_0]
  rfl
