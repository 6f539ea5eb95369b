/-! PART 47: call: winter. -/
theorem sp_L_8 (F : Nat → Int32) (G : Nat → Nat → Int32) (v : Int32) : sp_L (upd F 8 v) G 0 = sp_L F G 0 := rfl
theorem cm_winter_step (d : Nat) (n v : Int32) (k : Nat) (u4 : Option ma_V) (σ : ma_S) (F : Nat → Int32) (G : Nat → Nat → Int32) (hk : sp_ok F G) (hlt : ¬ n ≤ nI k) : ∃ (u4' : Option ma_V), ma_ex (d + 6) 191 29 [some (vR 20 0 0), some (vI n), some (vI v), some (vI (nI k)), u4] [] (ma_mh σ F G) = ma_ex (d + 6) 191 29 [some (vR 20 0 0), some (vI n), some (vI v), some (vI (nI (k + 1))), u4'] [] (ma_mh σ (sp_wF F G) (sp_wG F G)) := by
  obtain ⟨N, hN, hF⟩ := sp_n_of hk
  have hL := cm_countMoves d (ma_mh σ F G) (by rw [ma_mh_F1, ma_mh_G]; exact hk)
  rw [ma_mh_F1, ma_mh_G] at hL
  have h40 := sp_L_len (G := G) hF hN
  have hl : (nI (sp_L F G 0).length).toInt = (sp_L F G 0).length := nI_toInt (by omega)
  have e0 : (0 : Int32).toInt = 0 := rfl
  refine ⟨some (vI (nI (sp_L F G 0).length)), ?_⟩
  by_cases c : (sp_L F G 0).length = 0
  · have b1 : (nI (sp_L F G 0).length ≤ 0) = True := eq_true (by rw [ma_le]; omega)
    unfold sp_wF sp_wG
    rw [if_pos c, if_pos c, bk_191_29, if_neg hlt]
    simp only [bk_191_34, bk_191_38, bk_191_59, hL, b1, ↓reduceIte, ma_bd_some, ma_bd_none, ma_tl1, ma_tl0, ma_ap1, ma_ap0, b2i_0, b2i_1, b2i_01, ma_l10, ma_l01, eq_self, true_or, or_true, not_true_eq_false, not_false_eq_true, Bool.false_eq_true]
    rw [nI_succ]
  · have b1 : (nI (sp_L F G 0).length ≤ 0) = False := eq_false (by rw [ma_le]; omega)
    obtain ⟨p1, p2, p3⟩ := sp_pk_may hk c
    have hd := cm_draw (d + 5) (nI (sp_L F G 0).length) (ma_mh σ F G) (by omega)
    rw [ma_mh_F, ma_mh_uF] at hd
    have hat := cm_moveAt d (sp_dr (sp_sd (F 8)) (nI (sp_L F G 0).length)) (ma_mh σ (upd F 8 (sp_sd (F 8))) G) (by rw [ma_mh_F1, ma_mh_G]; exact hk) (sp_dr_b _ _ (by omega)).1
    rw [ma_mh_F1, ma_mh_G, sp_L_8] at hat
    have hpk : sp_at (sp_L F G 0) (sp_dr (sp_sd (F 8)) (nI (sp_L F G 0).length)).toNatClampNeg = sp_pk F G := rfl
    rw [hpk] at hat
    have hm := cm_moves (d + 2) (sp_pk F G) (ma_mh σ (upd F 8 (sp_sd (F 8))) G) (by rw [ma_mh_F1, ma_mh_G]; exact hk) (by rw [ma_mh_F]; exact ((sp_may_iff _ _ _).mp p3).1)
    rw [ma_mh_F1, ma_mh_G, ma_mh_mh] at hm
    unfold sp_wF sp_wG
    rw [if_neg c, if_neg c, bk_191_29, if_neg hlt]
    simp only [bk_191_34, bk_191_38, bk_191_45, bk_191_53, bk_191_56, bk_191_59, hL, b1, hd, hat, hm, ↓reduceIte, ma_bd_some, ma_bd_none, ma_tl1, ma_tl0, ma_ap1, ma_ap0, b2i_0, b2i_1, b2i_01, ma_l10, ma_l01, eq_self, true_or, or_true, not_true_eq_false, not_false_eq_true, Bool.false_eq_true]
    rw [nI_succ]
theorem sp_wF_ok {b : Int} {F : Nat → Int32} {G : Nat → Nat → Int32} (hb : b < 1000000) (hk : sp_ok F G) (hr : sp_rb2 b F G) : sp_ok (sp_wF F G) (sp_wG F G) ∧ sp_rb2 (b + 1) (sp_wF F G) (sp_wG F G) ∧ sp_wF F G 1 = F 1 ∧ (∀ q, 9 ≤ q → sp_wF F G q = F q) ∧ (∀ r q, 7 ≤ q → sp_wG F G r q = G r q) ∧ (∀ r, sp_wG F G r 0 = G r 0) := by
  unfold sp_wF sp_wG
  by_cases c : (sp_L F G 0).length = 0
  · rw [if_pos c, if_pos c]
    refine ⟨hk, fun r h => ?_, rfl, fun _ _ => rfl, fun _ _ _ => rfl, fun _ => rfl⟩
    have := hr r h
    omega
  · rw [if_neg c, if_neg c]
    obtain ⟨_, _, p3⟩ := sp_pk_may hk c
    exact ⟨sp_mv_ok (F := upd F 8 (sp_sd (F 8))) hk p3, sp_rb2_mv (F := upd F 8 (sp_sd (F 8))) _ (by omega) hr, rfl, fun q hq => (ma_mvF_9 _ _ _ _ hq).trans (if_neg (by omega)), fun r q hq => ma_mvG_7 _ _ _ _ _ hq, fun r => ma_mvG_0 _ _ _ _⟩
theorem sp_wF_Re {F S : Nat → Int32} {G T : Nat → Nat → Int32} (hk : sp_ok F G) (h : ma_Re F S G T) : ma_Re (sp_wF F G) (sp_wF S T) (sp_wG F G) (sp_wG S T) := by
  have hL := sp_Re_L h 0
  have e8 := h.1 8 (by omega) (by omega)
  have hpk : sp_pk F G = sp_pk S T := by unfold sp_pk; rw [hL, e8]
  unfold sp_wF sp_wG
  rw [← hL]
  by_cases c : (sp_L F G 0).length = 0
  · rw [if_pos c, if_pos c, if_pos c, if_pos c]
    exact h
  · rw [if_neg c, if_neg c, if_neg c, if_neg c, ← hpk, ← e8]
    obtain ⟨_, _, p3⟩ := sp_pk_may hk c
    refine sp_Re_mv ⟨fun q a b => ?_, fun r hr => h.2 r hr⟩ ((sp_may_iff _ _ _).mp p3).1
    unfold upd
    split
    · rfl
    · exact h.1 q a b
