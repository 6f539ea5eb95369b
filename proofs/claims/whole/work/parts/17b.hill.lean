/-! PART 17b: a new day, one more rider, who is at the top, how far the runs are apart. -/
def sp_dayR (R : Nat → Int32) : Nat → Int32 := fun k => if k = 3 ∨ k = 4 ∨ k = 5 ∨ k = 6 then 0 else R k
theorem ma_sr_day (σ : ma_S) (i r : Nat) (R : Nat → Int32) : ma_u (ma_u (ma_u (ma_u (ma_sr σ i r R) 4 i r 3 0) 4 i r 4 0) 4 i r 5 0) 4 i r 6 0 = ma_sr σ i r (sp_dayR R) := by
  simp only [ma_sr_u]
  congr 1
  funext k
  simp only [upd, sp_dayR]
  by_cases k3 : k = 3
  · subst k3; simp
  by_cases k4 : k = 4
  · subst k4; simp
  by_cases k5 : k = 5
  · subst k5; simp
  by_cases k6 : k = 6
  · subst k6; simp
  · rw [if_neg k6, if_neg k5, if_neg k4, if_neg k3, if_neg (by omega)]
theorem cx_riderDay (d i r : Nat) (σ : ma_S) : ma_cal (d + 1) 34 [vR 4 i r] σ = some (none, ma_sr σ i r (sp_dayR (σ.1 4 i r))) := by
  rw [en_34, bk_34_0]
  have h := ma_sr_day σ i r (σ.1 4 i r)
  rw [ma_sr_id] at h
  rw [h]
def sp_dGk (n : Nat) (G : Nat → Nat → Int32) : Nat → Nat → Int32 := fun r => if r < n then sp_dayR (G r) else G r
theorem sp_dGk_s (k : Nat) (G : Nat → Nat → Int32) : ma_uG (sp_dGk k G) k (sp_dayR (sp_dGk k G k)) = sp_dGk (k + 1) G := by
  have e0 : sp_dGk k G k = G k := by simp [sp_dGk]
  rw [e0]
  funext r
  simp only [ma_uG, sp_dGk]
  by_cases e : r = k
  · subst e; rw [if_pos rfl, if_pos (Nat.lt_succ_self _)]
  · rw [if_neg e]
    by_cases e2 : r < k
    · rw [if_pos e2, if_pos (by omega)]
    · rw [if_neg e2, if_neg (by omega)]
theorem cx_day_loop (d i n : Nat) (v : Int32) (σ : ma_S) (F : Nat → Int32) (G : Nat → Nat → Int32) (hF : F 1 = nI n) (hn : n ≤ 4) :
    ∀ c k, n - k = c → k ≤ n → ma_ex (d + 1) 1 2 [some (vR 2 i 0), some (vI v), some (vI (nI k))] [] (ma_sh σ i F (sp_dGk k G)) = ma_ex (d + 1) 1 25 [some (vR 2 i 0), some (vI v), some (vI (nI n))] [] (ma_sh σ i F (sp_dGk n G)) := by
  intro c
  induction c with
  | zero =>
    intro k hj hk
    have : k = n := by omega
    subst this
    rw [bk_1_2, if_pos (by rw [ma_sh_F, hF]; exact nI_le (Nat.le_refl _) (by omega))]
  | succ c ih =>
    intro k hj hk
    have hlt : k < n := by omega
    have hin := sp_nIin hlt hn
    have hcl : (nI k).toNatClampNeg = k := nI_clamp (by omega)
    have hb := cx_riderDay d i k (ma_sh σ i F (sp_dGk k G))
    rw [ma_sh_G, ma_sh_sr, sp_dGk_s] at hb
    rw [← ih (k + 1) (by omega) (by omega), bk_1_2, if_neg (by rw [ma_sh_F, hF]; exact nI_ge hlt (by omega))]
    simp only [bk_1_10, bk_1_19, ma_if_pos hin, hcl, hb, nI_succ, ma_bd_some, ma_bd_none, ma_tl1, ma_tl0, ma_ap1, ma_ap0, b2i_0, b2i_1, b2i_01, ma_l10, ma_l01, eq_self, if_true, if_false, true_or, or_true, not_true_eq_false, not_false_eq_true, Bool.false_eq_true]
def sp_dF (v : Int32) (F : Nat → Int32) : Nat → Int32 := fun k => if k = 2 then F 2 + F 3 else if k = 3 then 0 else if k = 4 then v else F k
theorem cx_beginDay (d i n : Nat) (v : Int32) (σ : ma_S) (hF : σ.1 2 i 0 1 = nI n) (hn : n ≤ 4) : ma_cal (d + 2) 1 [vR 2 i 0, vI v] σ = some (none, ma_sh σ i (sp_dF v (σ.1 2 i 0)) (sp_dGk n (σ.1 4 i))) := by
  rw [en_1]
  have hl := cx_day_loop d i n v σ (σ.1 2 i 0) (σ.1 4 i) hF hn n 0 (by omega) (Nat.zero_le _)
  have e0 : sp_dGk 0 (σ.1 4 i) = σ.1 4 i := by funext r; simp [sp_dGk]
  rw [e0, ma_sh_id, nI_0] at hl
  rw [bk_1_0, hl, bk_1_25]
  simp only [ma_sh_F, ma_sh_uF]
  congr 3
  funext k
  simp only [upd, sp_dF]
  by_cases k2 : k = 2
  · subst k2; simp
  by_cases k3 : k = 3
  · subst k3; simp
  by_cases k4 : k = 4
  · subst k4; simp
  · simp [k2, k3, k4]
/-- one more rider -/
def sp_newR (kind a : Int32) (R : Nat → Int32) : Nat → Int32 := fun k => if k = 1 then kind else if k = 2 then a else if k = 3 ∨ k = 4 ∨ k = 5 ∨ k = 6 then 0 else R k
theorem cx_riderBegin (d i r : Nat) (kind a : Int32) (σ : ma_S) : ma_cal (d + 2) 33 [vR 4 i r, vI kind, vI a] σ = some (none, ma_sr σ i r (sp_newR kind a (σ.1 4 i r))) := by
  rw [en_33]
  have h := ma_sr_u σ i r 1 (σ.1 4 i r) kind
  rw [ma_sr_id] at h
  simp only [bk_33_0, bk_33_14, cx_riderDay, h, ma_sr_u, ma_sr_at, ma_bd_some, ma_bd_none, ma_tl1, ma_tl0, ma_ap1, ma_ap0, b2i_0, b2i_1, b2i_01, ma_l10, ma_l01, eq_self, if_true, if_false, true_or, or_true, not_true_eq_false, not_false_eq_true, Bool.false_eq_true]
  have e : ∀ R R', ma_sr (ma_sr σ i r R) i r R' = ma_sr σ i r R' := fun R R' => by
    refine ma_S_ext (fun g i' j k => ?_) (fun _ _ => rfl)
    simp only [ma_sr]; split <;> rfl
  rw [e]
  congr 3
  funext k
  simp only [upd, sp_dayR, sp_newR]
  by_cases k1 : k = 1
  · subst k1; simp
  by_cases k2 : k = 2
  · subst k2; simp
  · simp [k1, k2]
theorem cx_addRider (d i n : Nat) (kind a : Int32) (σ : ma_S) (hF : σ.1 2 i 0 1 = nI n) (hn : n < 4) : ma_cal (d + 3) 4 [vR 2 i 0, vI kind, vI a] σ = some (some (vI (nI n)), ma_sh σ i (upd (σ.1 2 i 0) 1 (nI (n + 1))) (ma_uG (σ.1 4 i) n (sp_newR kind a (σ.1 4 i n)))) := by
  rw [en_4]
  have hin : ma_in (nI n) 4 := sp_nIin hn (Nat.le_refl _)
  have hcl : (nI n).toNatClampNeg = n := nI_clamp (by omega)
  have h4 : (nI n < 4) = True := eq_true (by rw [ma_lt, nI_toInt (by omega)]; have : (4 : Int32).toInt = 4 := rfl; omega)
  have e := ma_sh_sr σ i n (σ.1 2 i 0) (σ.1 4 i) (sp_newR kind a (σ.1 4 i n))
  rw [ma_sh_id] at e
  have hs : nI n + 1 - 1 = nI n := Int32.add_sub_cancel _ _
  simp only [bk_4_0, bk_4_4, bk_4_7, bk_4_9, bk_4_23, cx_hasRoom, cx_riderBegin, hF, h4, hcl, e, ma_if_pos hin, ma_bd_some, ma_bd_none, ma_tl1, ma_tl0, ma_ap1, ma_ap0, b2i_0, b2i_1, b2i_01, ma_l10, ma_l01, eq_self, if_true, if_false, true_or, or_true, not_true_eq_false, not_false_eq_true, Bool.false_eq_true, ma_sh_F, ma_sh_uF, upd, hs, nI_succ]
