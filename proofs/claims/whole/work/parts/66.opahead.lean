/-! PART 66: call: ahead. -/
theorem lk_look (D n d : Nat) (h0 M0 B : Int) (x m : ma_S) (hn : n ≤ 4) (hd : d ≤ 3) (hh0 : 0 ≤ h0 ∧ h0 ≤ 1000000) (hM0 : 0 ≤ M0 ∧ M0 ≤ 999) (hB : 0 ≤ B ∧ B ≤ 1000000) : ∀ e, 1 ≤ e → sp_LOOK D n d h0 M0 B x m e := by
  intro e
  induction e with
  | zero => intro h; omega
  | succ e' ihe =>
    intro he1
    generalize hee : e' + 1 = e at he1 ⊢
    have IH : 2 ≤ e → sp_LOOK D n d h0 M0 B x m (e - 1) := fun h => by
      rw [show e - 1 = e' by omega]
      exact ihe (by omega)
    clear ihe
    intro k K p b Fs Gs fs S T r q u3 u4 hke hNR
    obtain ⟨hR, hok, hF, hrb, hr, hq, hp, hBR⟩ := hNR
    have hk3 : k < 3 := by omega
    have hki := nI_toInt (n := k) (by omega)
    have hdi := nI_toInt (n := d) (by omega)
    have hcl : (nI k).toNatClampNeg = k := nI_clamp (by omega)
    have hin : ma_in (nI k) 3 := ma_inI (by omega) (by omega)
    have hlist := cx_list07 (D + e) (5 + k) n (ma_lk x K p b Fs Gs fs) (by rw [ma_lk_F _ _ _ _ _ _ _ hk3, ma_lk_G _ _ _ _ _ _ _ hk3]; exact hok) (ma_la_5 hk3) (by rw [ma_lk_F _ _ _ _ _ _ _ hk3]; exact hF) hn
    rw [ma_lk_F _ _ _ _ _ _ _ hk3, ma_lk_G _ _ _ _ _ _ _ hk3, ma_lk_f _ _ _ _ _ _ _ hk3, ma_lk_ar _ _ _ _ _ _ _ hk3] at hlist
    have hR1 : ma_Re (Fs k) S (Gs k) (sp_put S T 18 (40 * k)) := ma_Re_S hR (fun _ _ _ => rfl) (fun r q a c => by unfold sp_put; rw [if_neg (by omega)])
    have hput := cm_all_put (D + e + 4) 18 (40 * k) m S T (by omega) (by show 40 * k + 32 ≤ 160; omega) (by decide)
    have hab := cm_above (D + e + 1) 0 (-1) (ma_mh m S (sp_put S T 18 (40 * k))) (by rw [ma_mh_F1, ma_mh_G]; exact sp_Re_ok hR1 hok) (by decide) (by omega)
    rw [ma_mh_F1, ma_mh_G, ← sp_Re_L hR1] at hab
    obtain ⟨K', p', b', Fs', Gs', fs', S', T', y1, y2, y3, y4, y5⟩ := lk_loop D n d e k h0 M0 B x m hn hd he1 hke hh0 hM0 hB IH (Fs k) (Gs k) p Fs Gs fs S T r q u3 (fs k) hR hok hF hrb hr hq (sp_L (Fs k) (Gs k) 0) [] 0 K p b Fs Gs (ma_ix fs k (sp_wr (fs k) (sp_L (Fs k) (Gs k) 0))) S (sp_put S T 18 (40 * k)) none none none rfl rfl rfl rfl (ma_ix_at _ _ _) ⟨fun _ _ => rfl, fun _ _ => ⟨rfl, rfl⟩, fun j hj => ma_ix_ne (by omega)⟩ ⟨fun _ _ _ _ => rfl, fun r q a1 a2 a3 => by unfold sp_put; rw [if_neg (by omega)], fun _ _ => rfl, fun i hi => by unfold sp_put; rw [if_neg (by omega)]⟩ (fun i hi => by
        have z : sp_put S T 18 (40 * k) i 19 = T i 19 := by unfold sp_put; rw [if_neg (by omega)]
        rw [z]; exact hp i hi) (by
        obtain ⟨b1, b2, b3, b4, b5, b6⟩ := hBR
        exact ⟨b1, b2, b3, b4, b5, fun i hi => by
          have z : sp_put S T 18 (40 * k) i 20 = T i 20 := by unfold sp_put; rw [if_neg (by omega)]
          rw [z]; exact b6 i hi⟩)
    refine ⟨K', p', b', Fs', Gs', fs', S', T', ?_, ?_, y3, y4, y5.1, y5.2.1, fun r hr => ?_, y5.2.2.2⟩
    · have c0 : (nI k < 0) = False := eq_false (nI_pos (by omega))
      have c1 : (nI d ≤ nI k) = False := eq_false (nI_ge (by omega) (by omega))
      have c2 : (nI d ≤ 3) = True := eq_true (by
        have e3 : (3 : Int32).toInt = 3 := rfl
        rw [ma_le]; omega)
      rw [List.length_nil, nI_0] at y1
      rw [en_22, ← y1]
      simp only [bk_22_0, bk_22_4, bk_22_9, bk_22_15, bk_22_31, c0, c1, c2, ma_if_pos hin, hcl, hlist, ↓reduceIte, ma_bd_some, ma_bd_none, ma_tl1, ma_tl0, ma_ap1, ma_ap0, b2i_0, b2i_1, b2i_01, ma_l10, ma_l01, eq_self, true_or, or_true, not_true_eq_false, not_false_eq_true, Bool.false_eq_true]
    · rw [← y2]
      simp only [bk_164_97, bk_164_110, bk_164_115, nI_40 (show k ≤ 3 by omega), hput, hab, ↓reduceIte, ma_bd_some, ma_bd_none, ma_tl1, ma_tl0, ma_ap1, ma_ap0, b2i_0, b2i_1, b2i_01, ma_l10, ma_l01, eq_self, true_or, or_true, not_true_eq_false, not_false_eq_true, Bool.false_eq_true]
    · rw [y5.2.2.1 r (by omega)]
      unfold sp_put
      rw [if_neg (by omega)]
theorem op_ahead (d t : Nat) (x m : ma_S) (v i : Int32) (ht : t < 1000) (hi : ma_Iv t x m) : ma_Op (d + 13) 77 165 [vI v, vI i] t x m := by
  obtain ⟨n, hn, hF, hFm⟩ := ma_Iv_n hi
  have hni := nI_toInt (n := n) (by omega)
  have hok := ma_Iv_ok hi
  have k1 : (1 : Int32).toInt = 1 := rfl
  have k3 : (3 : Int32).toInt = 3 := rfl
  have kn : (-1 : Int32).toInt = -1 := rfl
  have k0 : (0 : Int32).toInt = 0 := rfl
  unfold ma_Op
  rw [en_77, en_165]
  rcases Classical.propComplete (-1 ≤ i) with c1 | c1
  case inr =>
    refine ⟨some (vI (-5)), sp_rx x (-5), sp_rm m (-5), ?_, ?_, ma_Iv_no sp_isb5 (ma_Iv_s hi)⟩
    · simp only [bk_77_0, bk_77_5, bk_77_11, bk_77_12, bk_77_18, bk_77_21, bk_77_27, bk_77_28, bk_77_40, bk_77_45, bk_77_53, bk_77_64, bk_77_76, bk_77_82, c1, cx_refuse _ _ _ sp_isb5, ↓reduceIte, ma_bd_some, ma_bd_none, ma_tl1, ma_tl0, ma_ap1, ma_ap0, b2i_0, b2i_1, b2i_01, ma_l10, ma_l01, eq_self, true_or, or_true, not_true_eq_false, not_false_eq_true, Bool.false_eq_true]
    · simp only [bk_165_0, bk_165_5, bk_165_11, bk_165_12, bk_165_17, bk_165_22, bk_165_28, bk_165_29, bk_165_37, bk_165_49, bk_165_54, bk_165_61, bk_165_69, bk_165_78, bk_165_84, c1, cm_no _ _ _ sp_isb5, ↓reduceIte, ma_bd_some, ma_bd_none, ma_tl1, ma_tl0, ma_ap1, ma_ap0, b2i_0, b2i_1, b2i_01, ma_l10, ma_l01, eq_self, true_or, or_true, not_true_eq_false, not_false_eq_true, Bool.false_eq_true]
  rcases Classical.propComplete (1 ≤ v) with c2 | c2 <;> rcases Classical.propComplete (v ≤ 3) with c3 | c3
  case inl.inr | inr.inl | inr.inr =>
    refine ⟨some (vI (-6)), sp_rx x (-6), sp_rm m (-6), ?_, ?_, ma_Iv_no sp_isb6 (ma_Iv_s hi)⟩
    · simp only [bk_77_0, bk_77_5, bk_77_11, bk_77_12, bk_77_18, bk_77_21, bk_77_27, bk_77_28, bk_77_40, bk_77_45, bk_77_53, bk_77_64, bk_77_76, bk_77_82, c1, cx_isIn, c2, c3, and_true, and_false, and_self, cx_refuse _ _ _ sp_isb6, ↓reduceIte, ma_bd_some, ma_bd_none, ma_tl1, ma_tl0, ma_ap1, ma_ap0, b2i_0, b2i_1, b2i_01, ma_l10, ma_l01, eq_self, true_or, or_true, not_true_eq_false, not_false_eq_true, Bool.false_eq_true]
    · simp only [bk_165_0, bk_165_5, bk_165_11, bk_165_12, bk_165_17, bk_165_22, bk_165_28, bk_165_29, bk_165_37, bk_165_49, bk_165_54, bk_165_61, bk_165_69, bk_165_78, bk_165_84, c1, ma_nlt v 1, c2, c3, cm_no _ _ _ sp_isb6, ↓reduceIte, ma_bd_some, ma_bd_none, ma_tl1, ma_tl0, ma_ap1, ma_ap0, b2i_0, b2i_1, b2i_01, ma_l10, ma_l01, eq_self, true_or, or_true, not_true_eq_false, not_false_eq_true, Bool.false_eq_true]
  have l2 := ma_le.mp (of_eq_true c2)
  have l3 := ma_le.mp (of_eq_true c3)
  obtain ⟨dd, hdd⟩ : ∃ dd : Nat, v.toInt = dd := ⟨v.toInt.toNat, by omega⟩
  have hv : v = nI dd := ma_nI hdd (by omega)
  have hd1 : 1 ≤ dd := by omega
  have hd3 : dd ≤ 3 := by omega
  -- sums
  have hrb := hi.1.2.2.1
  have hsb := sp_sum_b (f := fun r => x.1 4 0 r 5) (B := 200000) (by omega) n hn (fun r hr => by
    have := hrb r (by rw [hF, hni]; omega)
    show 0 ≤ (x.1 4 0 r 5).toInt ∧ (x.1 4 0 r 5).toInt ≤ 200000
    omega)
  obtain ⟨o1, o2, o3, o4, o5, o6, o7, o8, o9⟩ := id hok
  -- class: hills, what was found
  have hbec := cx_become (d + 9) 5 0 x (by decide) o1 o2
  have hRb := sp_bF_Re (x.1 2 5 0) (x.1 2 0 0) (x.1 4 5) (x.1 4 0)
  have hokb := sp_Re_ok hRb hok
  have hFb : sp_bF (x.1 2 5 0) (x.1 2 0 0) 1 = nI n := hF
  generalize hFB : sp_bF (x.1 2 5 0) (x.1 2 0 0) = Fb at hbec hRb hokb hFb
  generalize hGB : sp_bG (x.1 2 0 0 1) (x.1 4 5) (x.1 4 0) = Gb at hbec hRb hokb
  have hid := ma_lk_id x
  have hsh := ma_lk_sh x (x.1 9 0 0) (x.1 50 121 0) (x.1 50 122 0) (fun i => x.1 2 (5 + i) 0) (fun i => x.1 4 (5 + i)) (fun i => x.1 50 (105 + i) 0) (i := 0) (by omega) Fb Gb
  rw [hid] at hsh
  rw [show (5 : Nat) = 5 + 0 from rfl, hsh] at hbec
  obtain ⟨h0, hh0⟩ : ∃ h0 : Int, h0 = (sp_sum (fun r => x.1 4 0 r 5) n).toInt := ⟨_, rfl⟩
  have hnb : (n : Int) * 200000 ≤ 4 * 200000 := Int.mul_le_mul_of_nonneg_right (by omega) (by omega)
  -- model: the first compare
  have hall := cm_allOf (d + 11) 5 n m hFm hn rfl
  have s0 : sp_sum (fun r => m.1 50 5 0 r) n = sp_sum (fun r => x.1 4 0 r 5) n := sp_sum_congr n (fun r hr => ma_Iv_G hi r (by rw [hF, hni]; omega) 5 (by omega) (by omega))
  rw [s0] at hall
  have hall2 := cm_allOf (d + 10) 5 n (ma_mh m (upd (m.1 20 0 0) 37 (-1)) (ma_G m)) (by rw [ma_mh_F]; exact hFm) hn rfl
  simp only [ma_mh_A] at hall2
  have s1 : sp_sum (fun r => ma_G m r 5) n = sp_sum (fun r => x.1 4 0 r 5) n := s0
  rw [s1] at hall2
  obtain ⟨S, hS⟩ : ∃ S : Nat → Int32, S = upd (upd (upd (upd (m.1 20 0 0) 37 (-1)) 37 0) 38 (sp_sum (fun r => x.1 4 0 r 5) n)) 39 (m.1 20 0 0 4) := ⟨_, rfl⟩
  have hcp := cm_cp_loop (d + 11) 0 v (sp_sum (fun r => x.1 4 0 r 5) n) m S (ma_G m) (by omega) 0 0 (by omega)
  rw [sp_cp_0, nI_0] at hcp
  have v0 : ((0 : Int32) = v) = False := eq_false (fun e => by rw [← e] at hdd; omega)
  have hlooks : ma_ex (d + 11) 164 0 [some (vR 20 0 0), some (vI 0), some (vI v), none, none] [] (ma_mh m (upd (m.1 20 0 0) 37 (-1)) (ma_G m)) = ma_ex (d + 11) 164 97 [some (vR 20 0 0), some (vI 0), some (vI v), some (vI (sp_sum (fun r => x.1 4 0 r 5) n)), some (vI 0)] [] (ma_mh m S (ma_G m)) := by
    have e37 : upd (m.1 20 0 0) 37 (-1) 37 = -1 := rfl
    have e4 : upd (upd (upd (m.1 20 0 0) 37 (-1)) 37 0) 38 (sp_sum (fun r => x.1 4 0 r 5) n) 4 = m.1 20 0 0 4 := rfl
    have q00 : ((0 : Int32) ≤ 0) = True := by decide
    rw [hS]
    simp only [bk_164_0, bk_164_8, bk_164_44, bk_164_65, bk_164_91, hall2, ma_mh_F, ma_mh_uF, e37, e4, q00, v0, ↓reduceIte, ma_bd_some, ma_bd_none, ma_tl1, ma_tl0, ma_ap1, ma_ap0, b2i_0, b2i_1, b2i_01, ma_l10, ma_l01, eq_self, true_or, or_true, not_true_eq_false, not_false_eq_true, Bool.false_eq_true]
  have hRS : ma_Re Fb S Gb (ma_G m) := ma_Re_S (ma_Re_trans (ma_Re_symm hRb) hi.1.1) (fun q a c => by
    rw [hS]; unfold upd; rw [if_neg (by omega), if_neg (by omega), if_neg (by omega), if_neg (by omega)]) (fun _ _ _ _ => rfl)
  have hsum : sp_sum (fun r => Gb r 5) n = sp_sum (fun r => x.1 4 0 r 5) n := sp_sum_congr n (fun r hr => (hRb.2 r (by rw [hF, hni]; omega) 5 (by omega) (by omega)).symm)
  have hF4 : Fb 4 = m.1 20 0 0 4 := by rw [← hRb.1 4 (by omega) (by omega)]; exact (ma_Iv_F hi 4 (by omega) (by omega)).symm
  obtain ⟨K0, hK0⟩ : ∃ K0 : Nat → Int32, K0 = upd (upd (upd (x.1 9 0 0) 3 0) 4 0) 5 0 := ⟨_, rfl⟩
  have hNR : sp_NR n h0 (Fb 4).toInt 200000 0 K0 (x.1 50 121 0) (x.1 50 122 0) (ma_ix (fun i => x.1 2 (5 + i) 0) 0 Fb 0) (ma_ix (fun i => x.1 4 (5 + i)) 0 Gb 0) S (ma_G m) 0 0 := by
    rw [ma_ix_at, ma_ix_at]
    refine ⟨hRS, hokb, hFb, ?_, by rw [hsum, hh0]; omega, by omega, fun i hi => by omega, by rw [hK0, hS]; rfl, by rw [hK0]; show 0 ≤ (0 : Int32).toInt; decide, by rw [hK0]; show (0 : Int32).toInt ≤ 3; decide, ?_, ?_, fun i hi => ?_⟩
    · have z := sp_rb2_Re hRb hrb
      intro j hj
      have := z j hj
      omega
    · rw [hK0, hS]
      show (sp_sum (fun r => x.1 4 0 r 5) n).toInt = (0 : Int32).toInt + h0
      omega
    · rw [hK0, hS, hF4]
      show (m.1 20 0 0 4).toInt + (0 : Int32).toInt = (m.1 20 0 0 4).toInt
      omega
    · exfalso
      rw [hK0] at hi
      have z : (i : Int) < (0 : Int32).toInt := hi
      omega
  obtain ⟨K', p', b', Fs', Gs', fs', S', T', y1, y2, y3, y4, y5⟩ := lk_look (d + 11 - dd - 6) n dd h0 (Fb 4).toInt 200000 x m hn hd3 (by omega) (by
    obtain ⟨z1, z2, z3, z4, _⟩ := hokb
    omega) (by omega) dd hd1 0 K0 (x.1 50 121 0) (x.1 50 122 0) (ma_ix (fun i => x.1 2 (5 + i) 0) 0 Fb) (ma_ix (fun i => x.1 4 (5 + i)) 0 Gb) (fun i => x.1 50 (105 + i) 0) S (ma_G m) 0 0 (sp_sum (fun r => x.1 4 0 r 5) n) (some (vI 0)) (by omega) hNR
  rw [show d + 11 - dd - 6 + dd + 6 = d + 11 by omega, nI_0, ← hv] at y1 y2
  obtain ⟨b1, b2, b3, b4, b5, b6⟩ := y3
  have hsm : ma_sm m (ma_mh m S' T') := ⟨fun k hk => by
    rw [ma_mh_F, y5.1 k (by omega) (by omega) (by omega), hS]
    unfold upd
    rw [if_neg (by omega), if_neg (by omega), if_neg (by omega), if_neg (by omega)], fun k r a c => by
    rw [ma_mh_A, y5.2.1 r k (by omega) (by omega) (by omega)]; rfl, rfl⟩
  have hIv := ma_Iv_m hsm (ma_Iv_x (ma_sx_lk x K' p' b' Fs' Gs' fs') (ma_Iv_s hi))
  have hfind : ma_cal (d + 12) 21 [vR 9 0 0, vR 2 0 0, vI v] x = some (none, ma_lk x K' p' b' Fs' Gs' fs') := by
    have hin0 : ma_in (0 : Int32) 3 := ⟨by decide, by decide⟩
    have z0 : Int32.toNatClampNeg 0 = 0 := by decide
    have c33 : ((3 : Int32) < v) = False := eq_false (by rw [ma_lt]; omega)
    rw [en_21, bk_21_0, ma_if_pos hin0, z0, hbec, ma_bd_some]
    rw [hK0] at y1
    simp only [bk_21_10, bk_21_37, ma_lk_uK, c33, y1, ↓reduceIte, ma_bd_some, ma_bd_none, ma_tl1, ma_tl0, ma_ap1, ma_ap0, b2i_0, b2i_1, b2i_01, ma_l10, ma_l01, eq_self, true_or, or_true, not_true_eq_false, not_false_eq_true, Bool.false_eq_true]
  have hmodel : ma_cal (d + 12) 164 [vR 20 0 0, vI 0, vI v] (ma_mh m (upd (m.1 20 0 0) 37 (-1)) (ma_G m)) = some (none, ma_mh m S' T') := by
    rw [en_164, hlooks, y2]
  have hu : ma_u m 20 0 0 37 (-1) = ma_mh m (upd (m.1 20 0 0) 37 (-1)) (ma_G m) := ma_mh_u m 37 (-1)
  rcases Classical.propComplete (i = -1) with c4 | c4
  · have hans : S' 38 - sp_sum (fun r => x.1 4 0 r 5) n = K' 4 := by
      have hK4 := Int32.toInt_lt (K' 4)
      have hK4' := Int32.le_toInt (K' 4)
      rw [ma_eq, ma_sub (by omega) (by omega)]
      omega
    refine ⟨some (vI (K' 4)), _, _, ?_, ?_, hIv⟩
    · simp only [bk_77_0, bk_77_12, bk_77_18, bk_77_28, bk_77_40, bk_77_45, c1, cx_isIn, c2, c3, and_self, hfind, c4, ma_lk_K, ↓reduceIte, ma_bd_some, ma_bd_none, ma_tl1, ma_tl0, ma_ap1, ma_ap0, b2i_0, b2i_1, b2i_01, ma_l10, ma_l01, eq_self, true_or, or_true, not_true_eq_false, not_false_eq_true, Bool.false_eq_true]
    · simp only [bk_165_0, bk_165_12, bk_165_17, bk_165_29, bk_165_37, bk_165_49, bk_165_54, c1, ma_nlt v 1, c2, c3, hall, hu, hmodel, c4, ma_mh_F, hans, ↓reduceIte, ma_bd_some, ma_bd_none, ma_tl1, ma_tl0, ma_ap1, ma_ap0, b2i_0, b2i_1, b2i_01, ma_l10, ma_l01, eq_self, true_or, or_true, not_true_eq_false, not_false_eq_true, Bool.false_eq_true]
  · have l1 := ma_le.mp (of_eq_true c1)
    have l4 : i.toInt ≠ -1 := fun z => of_eq_false c4 (ma_eq.mpr (by rw [z]; rfl))
    rcases Classical.propComplete (K' 3 ≤ i) with c5 | c5
    · refine ⟨some (vI (-5)), _, _, ?_, ?_, ma_Iv_no sp_isb5 hIv⟩
      · simp only [bk_77_0, bk_77_12, bk_77_18, bk_77_28, bk_77_40, bk_77_53, bk_77_76, bk_77_82, c1, cx_isIn, c2, c3, and_self, hfind, c4, ma_lk_K, c5, cx_refuse _ _ _ sp_isb5, ↓reduceIte, ma_bd_some, ma_bd_none, ma_tl1, ma_tl0, ma_ap1, ma_ap0, b2i_0, b2i_1, b2i_01, ma_l10, ma_l01, eq_self, true_or, or_true, not_true_eq_false, not_false_eq_true, Bool.false_eq_true]
      · simp only [bk_165_0, bk_165_12, bk_165_17, bk_165_29, bk_165_37, bk_165_49, bk_165_61, bk_165_78, bk_165_84, c1, ma_nlt v 1, c2, c3, hall, hu, hmodel, c4, ma_mh_F, ← b1, c5, cm_no _ _ _ sp_isb5, ↓reduceIte, ma_bd_some, ma_bd_none, ma_tl1, ma_tl0, ma_ap1, ma_ap0, b2i_0, b2i_1, b2i_01, ma_l10, ma_l01, eq_self, true_or, or_true, not_true_eq_false, not_false_eq_true, Bool.false_eq_true]
    · have l5 : ¬ (K' 3).toInt ≤ i.toInt := fun z => of_eq_false c5 (ma_le.mpr z)
      have hin : ma_in i 3 := ma_inI (by omega) (by omega)
      have hc := ma_clN (x := i)
      have hb := b6 i.toNatClampNeg (by omega)
      refine ⟨some (vI (b' i.toNatClampNeg)), _, _, ?_, ?_, hIv⟩
      · simp only [bk_77_0, bk_77_12, bk_77_18, bk_77_28, bk_77_40, bk_77_53, bk_77_64, bk_77_82, c1, cx_isIn, c2, c3, and_self, hfind, c4, ma_lk_K, c5, ma_if_pos hin, ma_lk_b, ↓reduceIte, ma_bd_some, ma_bd_none, ma_tl1, ma_tl0, ma_ap1, ma_ap0, b2i_0, b2i_1, b2i_01, ma_l10, ma_l01, eq_self, true_or, or_true, not_true_eq_false, not_false_eq_true, Bool.false_eq_true]
      · simp only [bk_165_0, bk_165_12, bk_165_17, bk_165_29, bk_165_37, bk_165_49, bk_165_61, bk_165_69, bk_165_84, c1, ma_nlt v 1, c2, c3, hall, hu, hmodel, c4, ma_mh_F, ← b1, c5, ma_if_pos hin, ma_mh_A, ← hb, ↓reduceIte, ma_bd_some, ma_bd_none, ma_tl1, ma_tl0, ma_ap1, ma_ap0, b2i_0, b2i_1, b2i_01, ma_l10, ma_l01, eq_self, true_or, or_true, not_true_eq_false, not_false_eq_true, Bool.false_eq_true]
