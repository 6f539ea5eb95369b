/-! PART 43: calls: judge, done. -/
theorem sp_bF_Re (F T : Nat → Int32) (G V : Nat → Nat → Int32) : ma_Re T (sp_bF F T) V (sp_bG (T 1) G V) := ⟨fun k a b => (if_pos ⟨a, b⟩).symm, fun r hr k a b => by
  unfold sp_bG
  rw [if_pos hr]
  exact (if_pos ⟨a, b⟩).symm⟩
theorem told_core (d t : Nat) (x m : ma_S) (s n : Int32) (ht : t < 1000) (hi : ma_Iv t x m) (kn : Bool) (h0 : sp_td (sp_Q m s) (m.1 50 10 0 s.toNatClampNeg) n kn = 0) : ∃ (v : Int32) (F : Nat → Int32) (G : Nat → Nat → Int32) (S : Nat → Int32) (T : Nat → Nat → Int32), ma_cal (d + 5) 110 [vR 1 0 0, vR 16 s.toNatClampNeg 0, vI n] x = some (some (vI v), ma_sh x 1 F G) ∧ ma_cal (d + 5) 177 [vR 20 0 0, vI s, vI n] (ma_mh m (m.1 20 0 0) (sp_put (m.1 20 0 0) (ma_G m) 17 0)) = some (some (vI v), ma_mh m S T) ∧ ma_Re F S G T ∧ sp_ok F G ∧ sp_rb2 (200 * t + 60) F G ∧ F 1 = x.1 2 0 0 1 ∧ (∀ q, 9 ≤ q → S q = m.1 20 0 0 q) ∧ (∀ r q, 7 ≤ q → T r q = sp_put (m.1 20 0 0) (ma_G m) 17 0 r q) := by
  obtain ⟨q0, n0, nz, _, n60⟩ := sp_td_0 h0
  obtain ⟨h8, h1⟩ := sp_Q_0 hi q0
  obtain ⟨hin, hs, hz⟩ := sp_in8 h8
  have e0 : (0 : Int32).toInt = 0 := rfl
  have e60 : (60 : Int32).toInt = 60 := rfl
  have l0 := ma_le.mp n0
  have l60 := ma_le.mp n60
  have lz : ¬ (m.1 50 10 0 s.toNatClampNeg).toInt < n.toInt := fun w => nz (ma_lt.mpr w)
  obtain ⟨N, hN⟩ : ∃ N : Nat, n.toInt = N := ⟨n.toInt.toNat, by omega⟩
  have hsz : x.1 16 s.toNatClampNeg 0 2 = m.1 50 10 0 s.toNatClampNeg ∧ (m.1 50 10 0 s.toNatClampNeg).toInt ≤ 160 ∧ ∀ i, i < 160 → x.2 s.toNatClampNeg i = m.2 10 (160 * s.toNatClampNeg + i) := by
    rcases hi.2.1 s.toNatClampNeg hs with ⟨a, _⟩ | ⟨a, _⟩ | ⟨_, _, _, _, a, _, b, c⟩
    · rw [a] at h1; exact absurd h1 (by decide)
    · rw [a] at h1; exact absurd h1 (by decide)
    · exact ⟨a, b, c⟩
  obtain ⟨sz1, sz2, sz3⟩ := hsz
  have hok := ma_Iv_ok hi
  have hb1 := sp_bF_Re (x.1 2 1 0) (x.1 2 0 0) (x.1 4 1) (x.1 4 0)
  have hp1 : ma_Re (m.1 20 0 0) (m.1 20 0 0) (ma_G m) (sp_put (m.1 20 0 0) (ma_G m) 17 0) := ⟨fun _ _ _ => rfl, fun r _ k a b => by unfold sp_put; rw [if_neg (by omega)]⟩
  have hRe := ma_Re_trans (ma_Re_symm hb1) (ma_Re_trans hi.1.1 hp1)
  have hok1 := sp_Re_ok hb1 hok
  have hrb1 := sp_rb2_Re hb1 hi.1.2.2.1
  have hfw := sp_fw_Re (fun k => Int64.toInt32 (x.2 s.toNatClampNeg k)) (fun k => Int64.toInt32 (m.2 10 (160 * s.toNatClampNeg + k))) N 0 _ _ _ _ (fun j _ hj => by
    show Int64.toInt32 _ = Int64.toInt32 _
    rw [sz3 j (by omega)]) hRe
  have hko := sp_fw_ok (fun k => Int64.toInt32 (x.2 s.toNatClampNeg k)) N 0 (200 * t) _ _ (by omega) hok1 hrb1
  have hkm := sp_fw_ok (fun k => Int64.toInt32 (m.2 10 (160 * s.toNatClampNeg + k))) N 0 (200 * t) _ _ (by omega) (sp_Re_ok hRe hok1) (sp_rb2_Re hRe hrb1)
  have hlx := cx_wrong_loop d s.toNatClampNeg N n x hs hN (by rw [sz1]; omega) (by rw [sz1]; exact sz2) N 0 _ _ (by omega) hok1
  have hlm := cm_wrong_loop d N s n m (by omega) hN (by omega) N 0 _ _ (by omega) (sp_Re_ok hRe hok1)
  have hbec := cx_become (d + 2) 1 0 x (by decide) hok.1 hok.2.1
  rw [nI_0] at hlx hlm
  refine ⟨(sp_fw (fun k => Int64.toInt32 (x.2 s.toNatClampNeg k)) N 0 (sp_bF (x.1 2 1 0) (x.1 2 0 0)) (sp_bG (x.1 2 0 0 1) (x.1 4 1) (x.1 4 0))).1, _, _, _, _, ?_, ?_, hfw.2, hko.1, fun r hr => ?_, hko.2.2.1, hkm.2.2.2.1, hkm.2.2.2.2.1⟩
  · rw [en_110]
    simp only [bk_110_0, bk_110_11, hbec, hlx, ↓reduceIte, ma_bd_some, ma_bd_none, ma_tl1, ma_tl0, ma_ap1, ma_ap0, b2i_0, b2i_1, b2i_01, ma_l10, ma_l01, eq_self, true_or, or_true, not_true_eq_false, not_false_eq_true, Bool.false_eq_true]
  · rw [en_177, bk_177_0, hlm, hfw.1]
  · have := hko.2.1 r hr
    omega
theorem op_judge (d t : Nat) (x m : ma_S) (s n : Int32) (ht : t < 1000) (hi : ma_Iv t x m) : ma_Op (d + 6) 84 179 [vI s, vI n] t x m := by
  unfold ma_Op
  rw [en_84, en_179]
  have hT := cx_told (d + 2) t x m s n true hi
  rw [b2i_t rfl] at hT
  have hB := cm_barsOf (d + 1) m s n
  by_cases h0 : sp_td (sp_Q m s) (m.1 50 10 0 s.toNatClampNeg) n true = 0
  · obtain ⟨v, F, G, S, T, c1, c2, c3, c4, c5, c6, c7, c8⟩ := told_core d t x m s n ht hi true h0
    obtain ⟨h8, h1⟩ := sp_Q_0 hi (sp_td_0 h0).1
    obtain ⟨hin, hs, hz⟩ := sp_in8 h8
    have hput := cm_all_put (d + 3) 17 0 m (m.1 20 0 0) (ma_G m) (by omega) (by decide) (by decide)
    have hget := cm_all_get (d + 3) 17 0 m S T (by omega) (by decide) (by decide)
    rw [nI_0, ma_mh_id] at hput
    rw [nI_0] at hget
    refine ⟨some (vI v), _, _, ?_, ?_, ma_Iv_m (ma_sm_back m S T (fun q a _ => c7 q a) (fun r q a b => by rw [c8 r q a]; unfold sp_put; rw [if_neg (by omega)]) (fun j _ => c8 j 17 (by omega))) (ma_Iv_x (ma_sx_h x 1 F G (by decide) (by decide)) (ma_Iv_s hi))⟩
    · simp only [bk_84_0, bk_84_7, bk_84_12, bk_84_17, bk_84_23, bk_84_34, hT, h0, ma_if_pos hin, c1, ↓reduceIte, ma_bd_some, ma_bd_none, ma_tl1, ma_tl0, ma_ap1, ma_ap0, b2i_0, b2i_1, b2i_01, ma_l10, ma_l01, eq_self, true_or, or_true, not_true_eq_false, not_false_eq_true, Bool.false_eq_true]
    · simp only [bk_179_0, bk_179_6, bk_179_11, bk_179_16, bk_179_17, bk_179_27, bk_179_33, bk_179_45, hB, h0, hput, c2, hget, ↓reduceIte, ma_bd_some, ma_bd_none, ma_tl1, ma_tl0, ma_ap1, ma_ap0, b2i_0, b2i_1, b2i_01, ma_l10, ma_l01, eq_self, true_or, or_true, not_true_eq_false, not_false_eq_true, Bool.false_eq_true]
  · have hb := sp_td_b sp_Q_b h0
    refine ⟨some (vI (sp_td (sp_Q m s) (m.1 50 10 0 s.toNatClampNeg) n true - 10)), _, _, ?_, ?_, ma_Iv_no hb (ma_Iv_s hi)⟩
    · simp only [bk_84_0, bk_84_7, bk_84_12, bk_84_17, bk_84_23, bk_84_34, hT, h0, cx_refuse _ _ _ hb, ↓reduceIte, ma_bd_some, ma_bd_none, ma_tl1, ma_tl0, ma_ap1, ma_ap0, b2i_0, b2i_1, b2i_01, ma_l10, ma_l01, eq_self, true_or, or_true, not_true_eq_false, not_false_eq_true, Bool.false_eq_true]
    · simp only [bk_179_0, bk_179_6, bk_179_11, bk_179_16, bk_179_17, bk_179_27, bk_179_33, bk_179_45, hB, h0, cm_noTen _ _ _ hb, ↓reduceIte, ma_bd_some, ma_bd_none, ma_tl1, ma_tl0, ma_ap1, ma_ap0, b2i_0, b2i_1, b2i_01, ma_l10, ma_l01, eq_self, true_or, or_true, not_true_eq_false, not_false_eq_true, Bool.false_eq_true]
theorem op_done (d t : Nat) (x m : ma_S) (s n : Int32) (ht : t < 1000) (hi : ma_Iv t x m) : ma_Op (d + 6) 86 181 [vI s, vI n] t x m := by
  unfold ma_Op
  rw [en_86, en_181]
  have hT := cx_told (d + 2) t x m s n true hi
  rw [b2i_t rfl] at hT
  have hB := cm_barsOf (d + 1) m s n
  by_cases h0 : sp_td (sp_Q m s) (m.1 50 10 0 s.toNatClampNeg) n true = 0
  · obtain ⟨v, F, G, S, T, c1, c2, c3, c4, c5, c6, c7, c8⟩ := told_core d t x m s n ht hi true h0
    obtain ⟨h8, h1⟩ := sp_Q_0 hi (sp_td_0 h0).1
    obtain ⟨hin, hs, hz⟩ := sp_in8 h8
    have hput := cm_all_put (d + 3) 17 0 m (m.1 20 0 0) (ma_G m) (by omega) (by decide) (by decide)
    have hget := cm_all_get (d + 3) 17 0 m S T (by omega) (by decide) (by decide)
    rw [nI_0, ma_mh_id] at hput
    rw [nI_0] at hget
    have hsx := ma_sx_h x 1 F G (by decide) (by decide)
    by_cases hv : v = -1
    · have hbec := cx_become (d + 3) 0 1 (ma_sh x 1 F G) (by decide) (by rw [ma_sh_F]; exact c4.1) (by rw [ma_sh_F]; exact c4.2.1)
      rw [ma_sh_F, ma_sh_G, ma_sh_neF _ _ _ _ _ (by decide), ma_sh_neG _ _ _ _ _ (by decide)] at hbec
      have hb1 := sp_bF_Re (x.1 2 0 0) F (x.1 4 0) G
      have hT7 : ∀ r q, 7 ≤ q → q ≠ 17 → T r q = ma_G m r q := fun r q a b => by
        rw [c8 r q a]; unfold sp_put; rw [if_neg (by omega)]
      have hH : ma_IvH (t + 1) (sp_bF (x.1 2 0 0) F) (sp_bG (F 1) (x.1 4 0) G) S T := ⟨ma_Re_trans (ma_Re_symm hb1) c3, sp_Re_ok hb1 c4, fun r hr => by
        have := sp_rb2_Re hb1 c5 r hr
        omega, fun r hr => by
        unfold sp_bG
        split
        · exact hi.1.2.2.2 r hr
        · exact hi.1.2.2.2 r hr⟩
      have hsm : ma_sm m (ma_mh m (m.1 20 0 0) (sp_put (m.1 20 0 0) (ma_G m) 17 0)) := ⟨fun k _ => ma_mh_F _ _ _ _, fun k r a b => by
        rw [ma_mh_A]; unfold sp_put; rw [if_neg (by omega)]; rfl, rfl⟩
      have hi1 := ma_Iv_m hsm (ma_Iv_x hsx hi)
      have x1n : (ma_sh x 1 F G).1 2 0 0 = x.1 2 0 0 := ma_sh_neF _ _ _ _ _ (by decide)
      have hIv := ma_Iv_hill (F := sp_bF (x.1 2 0 0) F) (G := sp_bG (F 1) (x.1 4 0) G) (S := S) (T := T) (Nat.le_succ t) hi1 hH (by
        rw [x1n]
        have : sp_bF (x.1 2 0 0) F 1 = F 1 := if_pos (by omega)
        rw [this, c6]
        exact Int.le_refl _) (fun k hk => by rw [ma_mh_F]; exact c7 k hk) (fun r k hk => by rw [ma_mh_G]; exact c8 r k hk)
      rw [ma_mh_mh] at hIv
      have e4 : S 4 = sp_bF (x.1 2 0 0) F 4 := (hH.1.1 4 (by omega) (by omega)).symm
      refine ⟨some (vI (sp_bF (x.1 2 0 0) F 4)), _, _, ?_, ?_, hIv⟩
      · simp only [bk_86_0, bk_86_7, bk_86_12, bk_86_17, bk_86_18, bk_86_29, bk_86_33, bk_86_39, bk_86_40, bk_86_51, hT, h0, ma_if_pos hin, c1, hv, hbec, ma_sh_F, ↓reduceIte, ma_bd_some, ma_bd_none, ma_tl1, ma_tl0, ma_ap1, ma_ap0, b2i_0, b2i_1, b2i_01, ma_l10, ma_l01, eq_self, true_or, or_true, not_true_eq_false, not_false_eq_true, Bool.false_eq_true]
      · simp only [bk_181_0, bk_181_6, bk_181_11, bk_181_16, bk_181_17, bk_181_27, bk_181_33, bk_181_37, bk_181_42, bk_181_52, bk_181_58, hB, h0, hput, c2, hv, ma_mh_F, e4, ↓reduceIte, ma_bd_some, ma_bd_none, ma_tl1, ma_tl0, ma_ap1, ma_ap0, b2i_0, b2i_1, b2i_01, ma_l10, ma_l01, eq_self, true_or, or_true, not_true_eq_false, not_false_eq_true, Bool.false_eq_true]
    · refine ⟨some (vI (-6)), _, _, ?_, ?_, ma_Iv_no sp_isb6 (ma_Iv_m (ma_sm_back m S T (fun q a _ => c7 q a) (fun r q a b => by rw [c8 r q a]; unfold sp_put; rw [if_neg (by omega)]) (fun j _ => c8 j 17 (by omega))) (ma_Iv_x hsx (ma_Iv_s hi)))⟩
      · simp only [bk_86_0, bk_86_7, bk_86_12, bk_86_17, bk_86_18, bk_86_29, bk_86_33, bk_86_39, bk_86_40, bk_86_51, hT, h0, ma_if_pos hin, c1, hv, cx_refuse _ _ _ sp_isb6, ↓reduceIte, ma_bd_some, ma_bd_none, ma_tl1, ma_tl0, ma_ap1, ma_ap0, b2i_0, b2i_1, b2i_01, ma_l10, ma_l01, eq_self, true_or, or_true, not_true_eq_false, not_false_eq_true, Bool.false_eq_true]
      · simp only [bk_181_0, bk_181_6, bk_181_11, bk_181_16, bk_181_17, bk_181_27, bk_181_33, bk_181_37, bk_181_42, bk_181_52, bk_181_58, hB, h0, hput, c2, hv, hget, cm_no _ _ _ sp_isb6, ↓reduceIte, ma_bd_some, ma_bd_none, ma_tl1, ma_tl0, ma_ap1, ma_ap0, b2i_0, b2i_1, b2i_01, ma_l10, ma_l01, eq_self, true_or, or_true, not_true_eq_false, not_false_eq_true, Bool.false_eq_true]
  · have hb := sp_td_b sp_Q_b h0
    refine ⟨some (vI (sp_td (sp_Q m s) (m.1 50 10 0 s.toNatClampNeg) n true)), _, _, ?_, ?_, ma_Iv_no hb (ma_Iv_s hi)⟩
    · simp only [bk_86_0, bk_86_7, bk_86_12, bk_86_17, bk_86_18, bk_86_29, bk_86_33, bk_86_39, bk_86_40, bk_86_51, hT, h0, cx_refuse _ _ _ hb, ↓reduceIte, ma_bd_some, ma_bd_none, ma_tl1, ma_tl0, ma_ap1, ma_ap0, b2i_0, b2i_1, b2i_01, ma_l10, ma_l01, eq_self, true_or, or_true, not_true_eq_false, not_false_eq_true, Bool.false_eq_true]
    · simp only [bk_181_0, bk_181_6, bk_181_11, bk_181_16, bk_181_17, bk_181_27, bk_181_33, bk_181_37, bk_181_42, bk_181_52, bk_181_58, hB, h0, cm_no _ _ _ hb, ↓reduceIte, ma_bd_some, ma_bd_none, ma_tl1, ma_tl0, ma_ap1, ma_ap0, b2i_0, b2i_1, b2i_01, ma_l10, ma_l01, eq_self, true_or, or_true, not_true_eq_false, not_false_eq_true, Bool.false_eq_true]
