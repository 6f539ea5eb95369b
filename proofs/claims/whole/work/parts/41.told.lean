/-! PART 41: told afternoons: the first MOVE that may not be. -/
def sp_fw (A : Nat → Int32) : Nat → Nat → (Nat → Int32) → (Nat → Nat → Int32) → Int32 × (Nat → Int32) × (Nat → Nat → Int32)
  | 0, _, F, G => (-1, F, G)
  | c + 1, k, F, G => if sp_may F G (A k) = true then sp_fw A c (k + 1) (sp_mvF F G (A k)) (sp_mvG F G (A k)) else (nI k, F, G)
theorem sp_fw_Re (A B : Nat → Int32) : ∀ c k F G S T, (∀ j, k ≤ j → j < k + c → A j = B j) → ma_Re F S G T → (sp_fw A c k F G).1 = (sp_fw B c k S T).1 ∧ ma_Re (sp_fw A c k F G).2.1 (sp_fw B c k S T).2.1 (sp_fw A c k F G).2.2 (sp_fw B c k S T).2.2 := by
  intro c
  induction c with
  | zero => intro k F G S T _ h; exact ⟨rfl, h⟩
  | succ c ih =>
    intro k F G S T hA h
    have e := hA k (Nat.le_refl _) (by omega)
    have hm := sp_Re_may (A k) h
    unfold sp_fw
    rw [← e, ← hm]
    by_cases hp : sp_may F G (A k) = true
    · rw [if_pos hp, if_pos hp]
      exact ih (k + 1) _ _ _ _ (fun j h1 h2 => hA j (by omega) (by omega)) (sp_Re_mv h ((sp_may_iff _ _ _).mp hp).1)
    · rw [if_neg hp, if_neg hp]
      exact ⟨rfl, h⟩
theorem sp_fw_ok (A : Nat → Int32) : ∀ (c k : Nat) (b : Int) (F : Nat → Int32) (G : Nat → Nat → Int32), b + c < 1000000 → sp_ok F G → sp_rb2 b F G → sp_ok (sp_fw A c k F G).2.1 (sp_fw A c k F G).2.2 ∧ sp_rb2 (b + c) (sp_fw A c k F G).2.1 (sp_fw A c k F G).2.2 ∧ (sp_fw A c k F G).2.1 1 = F 1 ∧ (∀ q, 9 ≤ q → (sp_fw A c k F G).2.1 q = F q) ∧ (∀ r q, 7 ≤ q → (sp_fw A c k F G).2.2 r q = G r q) ∧ (∀ r, (sp_fw A c k F G).2.2 r 0 = G r 0) := by
  intro c
  induction c with
  | zero =>
    intro k b F G _ h1 h2
    refine ⟨h1, fun r hr => ?_, rfl, fun _ _ => rfl, fun _ _ _ => rfl, fun _ => rfl⟩
    have := h2 r hr
    show 0 ≤ (G r 5).toInt ∧ (G r 5).toInt ≤ b + (0 : Nat)
    omega
  | succ c ih =>
    intro k b F G hb h1 h2
    unfold sp_fw
    by_cases hp : sp_may F G (A k) = true
    · rw [if_pos hp]
      obtain ⟨a1, a2, a3, a4, a5, a6⟩ := ih (k + 1) (b + 1) _ _ (by omega) (sp_mv_ok h1 hp) (sp_rb2_mv (A k) (by omega) h2)
      refine ⟨a1, fun r hr => ?_, a3, fun q hq => (a4 q hq).trans (ma_mvF_9 _ _ _ _ hq), fun r q hq => (a5 r q hq).trans (ma_mvG_7 _ _ _ _ _ hq), fun r => (a6 r).trans (ma_mvG_0 _ _ _ _)⟩
      have := a2 r hr
      omega
    · rw [if_neg hp]
      refine ⟨h1, fun r hr => ?_, rfl, fun _ _ => rfl, fun _ _ _ => rfl, fun _ => rfl⟩
      have := h2 r hr
      show 0 ≤ (G r 5).toInt ∧ (G r 5).toInt ≤ b + (c + 1 : Nat)
      omega
theorem ma_sh_16 (σ : ma_S) (i s k : Nat) (F : Nat → Int32) (G : Nat → Nat → Int32) : (ma_sh σ i F G).1 16 s 0 k = σ.1 16 s 0 k := by simp [ma_sh]
theorem cx_wrong_loop (d s N : Nat) (n : Int32) (σ : ma_S) (hs : s < 8) (hN : n.toInt = N) (hz : (N : Int) ≤ (σ.1 16 s 0 2).toInt) (hz2 : (σ.1 16 s 0 2).toInt ≤ 160) : ∀ c k F G, k + c = N → sp_ok F G → ma_ex (d + 4) 110 13 [some (vR 1 0 0), some (vR 16 s 0), some (vI n), some (vI (nI k))] [] (ma_sh σ 1 F G) = some (some (vI (sp_fw (fun k => Int64.toInt32 (σ.2 s k)) c k F G).1), ma_sh σ 1 (sp_fw (fun k => Int64.toInt32 (σ.2 s k)) c k F G).2.1 (sp_fw (fun k => Int64.toInt32 (σ.2 s k)) c k F G).2.2) := by
  intro c
  induction c with
  | zero =>
    intro k F G h hok
    have hk := nI_toInt (n := k) (by omega)
    rw [bk_110_13, if_pos (by rw [ma_le]; omega), bk_110_41]
    rfl
  | succ c ih =>
    intro k F G h hok
    have hk := nI_toInt (n := k) (by omega)
    have hcl : (nI k).toNatClampNeg = k := nI_clamp (by omega)
    have ha := cx_asInt (d + 2) s (nI k) (ma_sh σ 1 F G) hs (by rw [ma_sh_16]; exact hz2)
    have e0 : (0 : Int32).toInt = 0 := rfl
    rw [ma_sh_16, if_pos ⟨by rw [ma_le]; omega, by rw [ma_lt]; omega⟩, hcl] at ha
    have hm := cx_make d 1 (Int64.toInt32 (σ.2 s k)) (ma_sh σ 1 F G) (by rw [ma_sh_F, ma_sh_G]; exact hok)
    rw [ma_sh_F, ma_sh_G, ma_sh_sh] at hm
    have e2 : (ma_sh σ 1 F G).2 = σ.2 := rfl
    rw [e2] at ha
    unfold sp_fw
    by_cases hp : sp_may F G (Int64.toInt32 (σ.2 s k)) = true
    · rw [if_pos hp] at hm
      rw [if_pos hp, ← ih (k + 1) _ _ (by omega) (sp_mv_ok hok hp), bk_110_13, if_neg (by rw [ma_le]; omega)]
      have n10 : ((1 : Int32) = 0) = False := by decide
      simp only [bk_110_18, bk_110_27, bk_110_30, bk_110_35, ha, hm, n10, nI_succ, ↓reduceIte, ma_bd_some, ma_bd_none, ma_tl1, ma_tl0, ma_ap1, ma_ap0, b2i_0, b2i_1, b2i_01, ma_l10, ma_l01, eq_self, true_or, or_true, not_true_eq_false, not_false_eq_true, Bool.false_eq_true]
    · rw [if_neg hp] at hm
      rw [if_neg hp, bk_110_13, if_neg (by rw [ma_le]; omega)]
      simp only [bk_110_18, bk_110_27, bk_110_30, bk_110_33, ha, hm, ↓reduceIte, ma_bd_some, ma_bd_none, ma_tl1, ma_tl0, ma_ap1, ma_ap0, b2i_0, b2i_1, b2i_01, ma_l10, ma_l01, eq_self, true_or, or_true, not_true_eq_false, not_false_eq_true, Bool.false_eq_true]
theorem cm_intAt (d : Nat) (s i : Int32) (σ : ma_S) (hs : 0 ≤ s.toInt ∧ s.toInt < 8) (hi : 0 ≤ i.toInt ∧ i.toInt < 160) : ma_cal (d + 1) 125 [vR 20 0 0, vI s, vI i] σ = some (some (vI (Int64.toInt32 (σ.2 10 (160 * s.toNatClampNeg + i.toNatClampNeg)))), σ) := by
  obtain ⟨q1, q2⟩ := sp_cell hs hi
  rw [en_125]
  simp only [bk_125_0, ma_if_pos q1, q2]
theorem cm_wrong_loop (d N : Nat) (s n : Int32) (σ : ma_S) (hs : 0 ≤ s.toInt ∧ s.toInt < 8) (hN : n.toInt = N) (hz : N ≤ 160) : ∀ c k F G, k + c = N → sp_ok F G → ma_ex (d + 4) 177 2 [some (vR 20 0 0), some (vI s), some (vI n), some (vI (nI k))] [] (ma_mh σ F G) = some (some (vI (sp_fw (fun k => Int64.toInt32 (σ.2 10 (160 * s.toNatClampNeg + k))) c k F G).1), ma_mh σ (sp_fw (fun k => Int64.toInt32 (σ.2 10 (160 * s.toNatClampNeg + k))) c k F G).2.1 (sp_fw (fun k => Int64.toInt32 (σ.2 10 (160 * s.toNatClampNeg + k))) c k F G).2.2) := by
  intro c
  induction c with
  | zero =>
    intro k F G h hok
    have hk := nI_toInt (n := k) (by omega)
    rw [bk_177_2, if_pos (by rw [ma_le]; omega), bk_177_38]
    rfl
  | succ c ih =>
    intro k F G h hok
    have hk := nI_toInt (n := k) (by omega)
    have hcl : (nI k).toNatClampNeg = k := nI_clamp (by omega)
    have ha := cm_intAt (d + 3) s (nI k) (ma_mh σ F G) hs (by omega)
    have e2 : (ma_mh σ F G).2 = σ.2 := rfl
    rw [hcl, e2] at ha
    have hmay := cm_mayBe d (Int64.toInt32 (σ.2 10 (160 * s.toNatClampNeg + k))) (ma_mh σ F G) (by rw [ma_mh_F1, ma_mh_G]; exact hok)
    rw [ma_mh_F1, ma_mh_G] at hmay
    unfold sp_fw
    by_cases hp : sp_may F G (Int64.toInt32 (σ.2 10 (160 * s.toNatClampNeg + k))) = true
    · have hm := cm_moves d (Int64.toInt32 (σ.2 10 (160 * s.toNatClampNeg + k))) (ma_mh σ F G) (by rw [ma_mh_F1, ma_mh_G]; exact hok) (by rw [ma_mh_F]; exact ((sp_may_iff _ _ _).mp hp).1)
      rw [ma_mh_F1, ma_mh_G, ma_mh_mh] at hm
      rw [if_pos hp, ← ih (k + 1) _ _ (by omega) (sp_mv_ok hok hp), bk_177_2, if_neg (by rw [ma_le]; omega)]
      simp only [bk_177_7, bk_177_14, bk_177_17, bk_177_22, bk_177_29, bk_177_32, ha, hmay, hm, hp, nI_succ, ↓reduceIte, ma_bd_some, ma_bd_none, ma_tl1, ma_tl0, ma_ap1, ma_ap0, b2i_0, b2i_1, b2i_01, ma_l10, ma_l01, eq_self, true_or, or_true, not_true_eq_false, not_false_eq_true, Bool.false_eq_true]
    · rw [if_neg hp, bk_177_2, if_neg (by rw [ma_le]; omega)]
      simp only [bk_177_7, bk_177_14, bk_177_17, bk_177_20, ha, hmay, hp, ↓reduceIte, ma_bd_some, ma_bd_none, ma_tl1, ma_tl0, ma_ap1, ma_ap0, b2i_0, b2i_1, b2i_01, ma_l10, ma_l01, eq_self, true_or, or_true, not_true_eq_false, not_false_eq_true, Bool.false_eq_true]
