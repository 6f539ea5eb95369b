/-! PART 14: make() of the class. -/
def sp_Gk (m t : Int32) (k : Nat) (G : Nat → Nat → Int32) : Nat → Nat → Int32 := fun r => if r < k then sp_step m t r (G r) else G r
theorem sp_Gk_0 (m t : Int32) (G : Nat → Nat → Int32) : sp_Gk m t 0 G = G := by funext r; simp [sp_Gk]
theorem sp_Gk_at (m t : Int32) (k : Nat) (G : Nat → Nat → Int32) : sp_Gk m t k G k = G k := by simp [sp_Gk]
theorem sp_Gk_succ {m t : Int32} {k : Nat} {G : Nat → Nat → Int32} {R : Nat → Int32} (h : R = sp_step m t k (G k)) : ma_uG (sp_Gk m t k G) k R = sp_Gk m t (k + 1) G := by
  funext r
  simp only [ma_uG, sp_Gk]
  by_cases e : r = k
  · subst e; rw [if_pos rfl, if_pos (Nat.lt_succ_self _), h]
  · rw [if_neg e]
    by_cases e2 : r < k
    · rw [if_pos e2, if_pos (by omega)]
    · rw [if_neg e2, if_neg (by omega)]
theorem sp_nIin {k n : Nat} (h : k < n) (hn : n ≤ 4) : ma_in (nI k) 4 := by
  have := nI_toInt (n := k) (by omega)
  exact ma_inI (by omega) (by omega)
theorem ma_uG_uG (G : Nat → Nat → Int32) (r : Nat) (R R' : Nat → Int32) : ma_uG (ma_uG G r R) r R' = ma_uG G r R' := by
  funext r'; simp only [ma_uG]; split <;> rfl
theorem ma_uG_at (G : Nat → Nat → Int32) (r : Nat) (R : Nat → Int32) : ma_uG G r R r = R := if_pos rfl
theorem cx_make_loop (d i n : Nat) (m t : Int32) (σ : ma_S) (F : Nat → Int32) (G : Nat → Nat → Int32) (hF : F 1 = nI n) (hn : n ≤ 4) (ht : 0 ≤ t.toInt) (hG : ∀ r, r < n → 0 ≤ (G r 4).toInt) :
    ∀ j k, n - k = j → k ≤ n → ma_ex (d + 3) 17 24 [some (vR 2 i 0), some (vI m), some (vI t), some (vI (m / 100)), some (vI (nI k))] [] (ma_sh σ i F (sp_Gk m t k G)) = ma_ex (d + 3) 17 99 [some (vR 2 i 0), some (vI m), some (vI t), some (vI (m / 100)), some (vI (nI n))] [] (ma_sh σ i F (sp_Gk m t n G)) := by
  intro j
  induction j with
  | zero =>
    intro k hj hk
    have : k = n := by omega
    subst this
    rw [bk_17_24, if_pos (by rw [ma_sh_F, hF]; exact nI_le (Nat.le_refl _) (by omega))]
  | succ j ih =>
    intro k hj hk
    have hlt : k < n := by omega
    have hin := sp_nIin hlt hn
    rw [← ih (k + 1) (by omega) (by omega), bk_17_24, if_neg (by rw [ma_sh_F, hF]; exact nI_ge hlt (by omega))]
    have hcl : (nI k).toNatClampNeg = k := nI_clamp (by omega)
    have h4 : 0 ≤ ((ma_sh σ i F (sp_Gk m t k G)).1 4 i k 4).toInt := by rw [ma_sh_G, sp_Gk_at]; exact hG k hlt
    have h4' := cx_recover (d + 2) i k t (ma_sh σ i F (sp_Gk m t k G)) h4 ht
    by_cases hp : sp_tk m (nI k) = true
    · have e := sp_Gk_succ (m := m) (t := t) (k := k) (G := G) (R := sp_along (m / 100) (G k)) (by unfold sp_step; rw [if_pos hp])
      simp only [bk_17_0, bk_17_5, bk_17_8, bk_17_10, bk_17_15, bk_17_20, bk_17_33, bk_17_39, bk_17_42, bk_17_53, bk_17_56, bk_17_67, bk_17_84, bk_17_88, bk_17_89, bk_17_93, bk_17_99, bk_17_114, cx_takesPart, hp, ma_if_pos hin, hcl, cx_comeAlong, ma_sh_sr, ma_sh_G, sp_Gk_at, nI_succ, ma_bd_some, ma_bd_none, ma_tl1, ma_tl0, ma_ap1, ma_ap0, b2i_0, b2i_1, b2i_01, ma_l10, ma_l01, eq_self, if_true, if_false, true_or, or_true, not_true_eq_false, not_false_eq_true, Bool.false_eq_true, e]
    · have e := sp_Gk_succ (m := m) (t := t) (k := k) (G := G) (R := sp_rest (m / 100) t (G k)) (by unfold sp_step; rw [if_neg hp])
      by_cases h7 : m / 100 = 7
      · have e2 : upd (upd (G k) 4 (sp_sub (G k 4) t)) 6 (G k 6 + 0) = sp_rest (m / 100) t (G k) := by
          funext q
          simp only [upd, sp_rest, h7, if_true]
          by_cases q6 : q = 6
          · subst q6; simp
          · simp [q6]
        simp only [bk_17_0, bk_17_5, bk_17_8, bk_17_10, bk_17_15, bk_17_20, bk_17_33, bk_17_39, bk_17_42, bk_17_53, bk_17_56, bk_17_67, bk_17_84, bk_17_88, bk_17_89, bk_17_93, bk_17_99, bk_17_114, cx_takesPart, hp, ma_if_pos hin, hcl, h4', ma_sh_uG, ma_uG_at, ma_uG_uG, ma_sh_G, sp_Gk_at, nI_succ, ma_bd_some, ma_bd_none, ma_tl1, ma_tl0, ma_ap1, ma_ap0, b2i_0, b2i_1, b2i_01, ma_l10, ma_l01, eq_self, if_true, if_false, true_or, or_true, not_true_eq_false, not_false_eq_true, Bool.false_eq_true, h7]
        have e3 : upd (G k) 4 (sp_sub (G k 4) t) 6 = G k 6 := rfl
        rw [h7] at e2 e
        simp only [e3, e2, e]
      · have e2 : upd (upd (G k) 4 (sp_sub (G k 4) t)) 6 (G k 6 + t) = sp_rest (m / 100) t (G k) := by
          funext q
          simp only [upd, sp_rest, h7, if_false]
          by_cases q6 : q = 6
          · subst q6; simp
          · simp [q6]
        simp only [bk_17_0, bk_17_5, bk_17_8, bk_17_10, bk_17_15, bk_17_20, bk_17_33, bk_17_39, bk_17_42, bk_17_53, bk_17_56, bk_17_67, bk_17_84, bk_17_88, bk_17_89, bk_17_93, bk_17_99, bk_17_114, cx_takesPart, hp, ma_if_pos hin, hcl, h4', ma_sh_uG, ma_uG_at, ma_uG_uG, ma_sh_G, sp_Gk_at, nI_succ, ma_bd_some, ma_bd_none, ma_tl1, ma_tl0, ma_ap1, ma_ap0, b2i_0, b2i_1, b2i_01, ma_l10, ma_l01, eq_self, if_true, if_false, true_or, or_true, not_true_eq_false, not_false_eq_true, Bool.false_eq_true, h7]
        have e3 : upd (G k) 4 (sp_sub (G k 4) t) 6 = G k 6 := rfl
        simp only [e3, e2, e]
theorem sp_n_of {F : Nat → Int32} {G : Nat → Nat → Int32} (h : sp_ok F G) : ∃ n : Nat, n ≤ 4 ∧ F 1 = nI n := by
  refine ⟨(F 1).toInt.toNat, by have := h.1; have := h.2.1; omega, ?_⟩
  have := h.1
  have := h.2.1
  exact ma_nI (by omega) (by omega)
theorem cx_make (d i : Nat) (m : Int32) (σ : ma_S) (hk : sp_ok (σ.1 2 i 0) (σ.1 4 i)) : ma_cal (d + 4) 17 [vR 2 i 0, vI m] σ = if sp_may (σ.1 2 i 0) (σ.1 4 i) m = true then some (some (vI 1), ma_sh σ i (sp_mvF (σ.1 2 i 0) (σ.1 4 i) m) (sp_mvG (σ.1 2 i 0) (σ.1 4 i) m)) else some (some (vI 0), σ) := by
  rw [en_17]
  by_cases hm : sp_may (σ.1 2 i 0) (σ.1 4 i) m = true
  · rw [if_pos hm]
    have hI := (sp_may_iff _ _ _).mp hm
    have hp := sp_last_pos hk hI.1
    obtain ⟨n, hn, hF⟩ := sp_n_of hk
    have hni : (nI n).toInt = n := nI_toInt (by omega)
    have hl := cx_make_loop d i n m (sp_last (σ.1 2 i 0) (σ.1 4 i) m) σ (σ.1 2 i 0) (σ.1 4 i) hF hn (by omega) (fun r hr => (hk.2.2.2.2.2.2.2.2 r (by rw [hF, hni]; omega)).2.2.2.1) n 0 (by omega) (Nat.zero_le _)
    rw [sp_Gk_0, ma_sh_id] at hl
    have hg : sp_Gk m (sp_last (σ.1 2 i 0) (σ.1 4 i) m) n (σ.1 4 i) = sp_mvG (σ.1 2 i 0) (σ.1 4 i) m := by
      funext r
      simp only [sp_Gk, sp_mvG, hF, hni]
      by_cases e : r < n
      · rw [if_pos e, if_pos (by omega)]
      · rw [if_neg e, if_neg (by omega)]
    rw [hg] at hl
    simp only [bk_17_0, bk_17_5, bk_17_10, bk_17_15, bk_17_20, cx_mayBe _ _ _ _ hk, cx_minutesOf _ _ _ _ hk.2.1, cx_sortOf, hm, hI.1, ma_bd_some, ma_bd_none, ma_tl1, ma_tl0, ma_ap1, ma_ap0, b2i_0, b2i_1, b2i_01, ma_l10, ma_l01, eq_self, if_true, if_false, true_or, or_true, not_true_eq_false, not_false_eq_true, Bool.false_eq_true]
    rw [show (0 : Int32) = nI 0 from nI_0.symm, hl]
    simp only [bk_17_99, bk_17_114, ma_sh_F, ma_sh_uF, cx_bringSledge, ma_bd_some, ma_bd_none, ma_tl1, ma_tl0, ma_ap1, ma_ap0, b2i_0, b2i_1, b2i_01, ma_l10, ma_l01, eq_self, if_true, if_false, true_or, or_true, not_true_eq_false, not_false_eq_true, Bool.false_eq_true]
    rfl
  · rw [if_neg hm]
    simp only [bk_17_0, bk_17_5, bk_17_8, cx_mayBe _ _ _ _ hk, hm, ma_bd_some, ma_bd_none, ma_tl1, ma_tl0, ma_ap1, ma_ap0, b2i_0, b2i_1, b2i_01, ma_l10, ma_l01, eq_self, if_true, if_false, true_or, or_true, not_true_eq_false, not_false_eq_true, Bool.false_eq_true]
