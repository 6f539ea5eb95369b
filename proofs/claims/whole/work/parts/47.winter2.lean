/-! PART 47: call: winter. -/
theorem sp_L_8 (F : Nat → Int32) (G : Nat → Nat → Int32) (v : Int32) : sp_L (upd F 8 v) G 0 = sp_L F G 0 := rfl
theorem cm_winter_step (d : Nat) (n v : Int32) (k : Nat) (u4 : Option ma_V) (σ : ma_S) (F : Nat → Int32) (G : Nat → Nat → Int32) (hk : sp_ok F G) (hlt : ¬ n ≤ nI k) : ∃ (u4' : Option ma_V), ma_ex (d + 6) 191 29 [some (vR 20 0 0), some (vI n), some (vI v), some (vI (nI k)), u4] [] (ma_mh σ F G) = ma_ex (d + 6) 191 29 [some (vR 20 0 0), some (vI n), some (vI v), some (vI (nI (k + 1))), u4'] [] (ma_mh σ (sp_wF F G) (sp_wG F G)) := by
  obtain ⟨N, hN, hF⟩ := sp_n_of hk
  have hL := cm_countMoves d (ma_mh σ F G) (by rw [ma_mh_F1, ma_mh_G]; exact hk)
  rw [ma_mh_F1, ma_mh_G] at hL
  have h40 := sp_L_len (G := G) hF hN
  have hl : (nI (sp_L F G 0).length).toInt = (sp_L F G 0).length := nI_toInt (by omega)
  have e0 : (0 : Int32).toInt = 0 := rfl
  refine ⟨some (vI (nI (sp_L F G 0).length)), ?_⟩
  by_cases c : (sp_L F G 0).length = 0
  · have b1 : (nI (sp_L F G 0).length ≤ 0) = True := eq_true (by rw [ma_le]; omega)
    unfold sp_wF sp_wG
    rw [if_pos c, if_pos c, bk_191_29, if_neg hlt]
    simp only [bk_191_34, bk_191_38, bk_191_59, hL, b1, ↓reduceIte, ma_bd_some, ma_bd_none, ma_tl1, ma_tl0, ma_ap1, ma_ap0, b2i_0, b2i_1, b2i_01, ma_l10, ma_l01, eq_self, true_or, or_true, not_true_eq_false, not_false_eq_true, Bool.false_eq_true]
    rw [nI_succ]
  · have b1 : (nI (sp_L F G 0).length ≤ 0) = False := eq_false (by rw [ma_le]; omega)
    obtain ⟨p1, p2, p3⟩ := sp_pk_may hk c
    have hd := cm_draw (d + 5) (nI (sp_L F G 0).length) (ma_mh σ F G) (by omega)
    rw [ma_mh_F, ma_mh_uF] at hd
    have hat := cm_moveAt d (sp_dr (sp_sd (F 8)) (nI (sp_L F G 0).length)) (ma_mh σ (upd F 8 (sp_sd (F 8))) G) (by rw [ma_mh_F1, ma_mh_G]; exact hk) (sp_dr_b _ _ (by omega)).1
    rw [ma_mh_F1, ma_mh_G, sp_L_8] at hat
    have hpk : sp_at (sp_L F G 0) (sp_dr (sp_sd (F 8)) (nI (sp_L F G 0).length)).toNatClampNeg = sp_pk F G := rfl
    rw [hpk] at hat
    have hm := cm_moves (d + 2) (sp_pk F G) (ma_mh σ (upd F 8 (sp_sd (F 8))) G) (by rw [ma_mh_F1, ma_mh_G]; exact hk) (by rw [ma_mh_F]; exact ((sp_may_iff _ _ _).mp p3).1)
    rw [ma_mh_F1, ma_mh_G, ma_mh_mh] at hm
    unfold sp_wF sp_wG
    rw [if_neg c, if_neg c, bk_191_29, if_neg hlt]
    simp only [bk_191_34, bk_191_38, bk_191_45, bk_191_53, bk_191_56, bk_191_59, hL, b1, hd, hat, hm, ↓reduceIte, ma_bd_some, ma_bd_none, ma_tl1, ma_tl0, ma_ap1, ma_ap0, b2i_0, b2i_1, b2i_01, ma_l10, ma_l01, eq_self, true_or, or_true, not_true_eq_false, not_false_eq_true, Bool.false_eq_true]
    rw [nI_succ]
theorem sp_wF_ok {b : Int} {F : Nat → Int32} {G : Nat → Nat → Int32} (hb : b < 1000000) (hk : sp_ok F G) (hr : sp_rb2 b F G) : sp_ok (sp_wF F G) (sp_wG F G) ∧ sp_rb2 (b + 1) (sp_wF F G) (sp_wG F G) ∧ sp_wF F G 1 = F 1 ∧ (∀ q, 9 ≤ q → sp_wF F G q = F q) ∧ (∀ r q, 7 ≤ q → sp_wG F G r q = G r q) ∧ (∀ r, sp_wG F G r 0 = G r 0) := by
  unfold sp_wF sp_wG
  by_cases c : (sp_L F G 0).length = 0
  · rw [if_pos c, if_pos c]
    refine ⟨hk, fun r h => ?_, rfl, fun _ _ => rfl, fun _ _ _ => rfl, fun _ => rfl⟩
    have := hr r h
    omega
  · rw [if_neg c, if_neg c]
    obtain ⟨_, _, p3⟩ := sp_pk_may hk c
    exact ⟨sp_mv_ok (F := upd F 8 (sp_sd (F 8))) hk p3, sp_rb2_mv (F := upd F 8 (sp_sd (F 8))) _ (by omega) hr, rfl, fun q hq => (ma_mvF_9 _ _ _ _ hq).trans (if_neg (by omega)), fun r q hq => ma_mvG_7 _ _ _ _ _ hq, fun r => ma_mvG_0 _ _ _ _⟩
theorem sp_wF_Re {F S : Nat → Int32} {G T : Nat → Nat → Int32} (hk : sp_ok F G) (h : ma_Re F S G T) : ma_Re (sp_wF F G) (sp_wF S T) (sp_wG F G) (sp_wG S T) := by
  have hL := sp_Re_L h 0
  have e8 := h.1 8 (by omega) (by omega)
  have hpk : sp_pk F G = sp_pk S T := by unfold sp_pk; rw [hL, e8]
  unfold sp_wF sp_wG
  rw [← hL]
  by_cases c : (sp_L F G 0).length = 0
  · rw [if_pos c, if_pos c, if_pos c, if_pos c]
    exact h
  · rw [if_neg c, if_neg c, if_neg c, if_neg c, ← hpk, ← e8]
    obtain ⟨_, _, p3⟩ := sp_pk_may hk c
    refine sp_Re_mv ⟨fun q a b => ?_, fun r hr => h.2 r hr⟩ ((sp_may_iff _ _ _).mp p3).1
    unfold upd
    split
    · rfl
    · exact h.1 q a b
theorem winter_loops (d : Nat) (n v v' : Int32) (x m : ma_S) : ∀ (c k : Nat) (b : Int) (F S : Nat → Int32) (G T : Nat → Nat → Int32) (f : Nat → Int32) (u w : Option ma_V), n.toInt = (k : Int) + c → k + c ≤ 60 → b + c < 1000000 → sp_ok F G → sp_rb2 b F G → ma_Re F S G T → ∃ (F' S' : Nat → Int32) (G' T' : Nat → Nat → Int32) (f' : Nat → Int32) (u' w' : Option ma_V),
    ma_ex (d + 6) 90 27 [some (vR 1 0 0), some (vI n), some (vI v), some (vI (nI k)), u] [] (ma_sh (ma_ar x 100 f) 0 F G) = ma_ex (d + 6) 90 80 [some (vR 1 0 0), some (vI n), some (vI v), some (vI n), u'] [] (ma_sh (ma_ar x 100 f') 0 F' G') ∧
    ma_ex (d + 6) 191 29 [some (vR 20 0 0), some (vI n), some (vI v'), some (vI (nI k)), w] [] (ma_mh m S T) = ma_ex (d + 6) 191 65 [some (vR 20 0 0), some (vI n), some (vI v'), some (vI n), w'] [] (ma_mh m S' T') ∧
    ma_Re F' S' G' T' ∧ sp_ok F' G' ∧ sp_rb2 (b + c) F' G' ∧ F' 1 = F 1 ∧ (∀ q, 9 ≤ q → S' q = S q) ∧ (∀ r q, 7 ≤ q → T' r q = T r q) ∧ (∀ r, G' r 0 = G r 0) := by
  intro c
  induction c with
  | zero =>
    intro k b F S G T f u w hn h60 hb hk hr hRe
    have hkk := nI_toInt (n := k) (by omega)
    have e : nI k = n := ma_eq.mpr (by omega)
    refine ⟨F, S, G, T, f, u, w, ?_, ?_, hRe, hk, fun r h => ?_, rfl, fun _ _ => rfl, fun _ _ _ => rfl, fun _ => rfl⟩
    · rw [bk_90_27, if_pos (by rw [ma_le]; omega), e]
    · rw [bk_191_29, if_pos (by rw [ma_le]; omega), e]
    · have := hr r h
      omega
  | succ c ih =>
    intro k b F S G T f u w hn h60 hb hk hr hRe
    have hkk := nI_toInt (n := k) (by omega)
    have hlt : ¬ n ≤ nI k := by rw [ma_le]; omega
    obtain ⟨u1, f1, hx⟩ := cx_winter_step (d + 1) n v k u x f F G hk hlt
    obtain ⟨w1, hm⟩ := cm_winter_step d n v' k w m S T (sp_Re_ok hRe hk) hlt
    obtain ⟨o1, o2, o3, o4, o5, o6⟩ := sp_wF_ok (b := b) (by omega) hk hr
    obtain ⟨m1, m2, m3, m4, m5, m6⟩ := sp_wF_ok (b := b) (by omega) (sp_Re_ok hRe hk) (sp_rb2_Re hRe hr)
    obtain ⟨F', S', G', T', f', u', w', a1, a2, a3, a4, a5, a6, a7, a8, a9⟩ := ih (k + 1) (b + 1) _ _ _ _ f1 u1 w1 (by omega) (by omega) (by omega) o1 o2 (sp_wF_Re hk hRe)
    refine ⟨F', S', G', T', f', u', w', hx.trans a1, hm.trans a2, a3, a4, fun r h => ?_, a6.trans o3, fun q hq => (a7 q hq).trans (m4 q hq), fun r q hq => (a8 r q hq).trans (m5 r q hq), fun r => (a9 r).trans (o6 r)⟩
    have := a5 r h
    omega
theorem op_winter (d t : Nat) (x m : ma_S) (n : Int32) (ht : t < 1000) (hi : ma_Iv t x m) : ma_Op (d + 7) 90 191 [vI n] t x m := by
  unfold ma_Op
  rw [en_90, en_191]
  have e1 : (1 : Int32).toInt = 1 := rfl
  have e60 : (60 : Int32).toInt = 60 := rfl
  by_cases c : 1 ≤ n ∧ n ≤ 60
  · have c1 := ma_le.mp c.1
    have c2 := ma_le.mp c.2
    obtain ⟨N, hN, hF, hFm⟩ := ma_Iv_n hi
    have hNi : (nI N).toInt = N := nI_toInt (by omega)
    have hsum : sp_sum (fun r => m.1 50 5 0 r) N = sp_sum (fun r => x.1 4 0 r 5) N := sp_sum_congr N (fun r hr => ma_Iv_G hi r (by rw [hF, hNi]; omega) 5 (by omega) (by omega))
    have a0 := cx_allRuns (d + 5) 0 N x hF hN
    have b0 := cm_allOf (d + 5) 5 N m hFm hN rfl
    rw [hsum] at b0
    obtain ⟨F', S', G', T', f', u', w', a1, a2, a3, a4, a5, a6, a7, a8, a9⟩ := winter_loops d n (sp_sum (fun r => x.1 4 0 r 5) N) (sp_sum (fun r => x.1 4 0 r 5) N) x m n.toInt.toNat 0 (200 * t) (x.1 2 0 0) (m.1 20 0 0) (x.1 4 0) (ma_G m) (x.1 50 100 0) none none (by omega) (by omega) (by omega) (ma_Iv_ok hi) hi.1.2.2.1 hi.1.1
    rw [ma_ar_id, ma_sh_id, nI_0] at a1
    rw [ma_mh_id, nI_0] at a2
    have hF' : F' 1 = nI N := a6.trans hF
    have hS' : S' 1 = nI N := (a3.1 1 (by omega) (by omega)).symm.trans hF'
    have a10 := cx_allRuns (d + 5) 0 N (ma_sh (ma_ar x 100 f') 0 F' G') (by rw [ma_sh_F]; exact hF') hN
    rw [ma_sh_G] at a10
    have b10 := cm_allOf (d + 5) 5 N (ma_mh m S' T') (by rw [ma_mh_F]; exact hS') hN rfl
    simp only [ma_mh_A] at b10
    have s1 : sp_sum (fun r => T' r 5) N = sp_sum (fun r => G' r 5) N := sp_sum_congr N (fun r hr => (a3.2 r (by rw [hF', hNi]; omega) 5 (by omega) (by omega)).symm)
    rw [s1] at b10
    have hH : ma_IvH (t + 1) F' G' S' T' := ⟨a3, a4, fun r hr => by
      have := a5 r hr
      omega, fun r hr => (a9 r).trans (hi.1.2.2.2 r hr)⟩
    have hsx := ma_sx_ar x 100 f' (by decide) (by decide)
    have hIv := ma_Iv_hill (Nat.le_succ t) (ma_Iv_x hsx hi) hH (by rw [ma_ar_2k, a6]; exact Int.le_refl _) a7 a8
    have b1 : (n < 1) = False := eq_false (by rw [ma_lt]; omega)
    refine ⟨some (vI (sp_sum (fun r => G' r 5) N - sp_sum (fun r => x.1 4 0 r 5) N)), _, _, ?_, ?_, hIv⟩
    · simp only [bk_90_0, bk_90_7, bk_90_17, bk_90_24, cx_isIn, eq_true c, a0, a1, ↓reduceIte, ma_bd_some, ma_bd_none, ma_tl1, ma_tl0, ma_ap1, ma_ap0, b2i_0, b2i_1, b2i_01, ma_l10, ma_l01, eq_self, true_or, or_true, not_true_eq_false, not_false_eq_true, Bool.false_eq_true]
      simp only [bk_90_80, bk_90_87, a10, ↓reduceIte, ma_bd_some, ma_bd_none, ma_tl1, ma_tl0, ma_ap1, ma_ap0, b2i_0, b2i_1, b2i_01, ma_l10, ma_l01, eq_self, true_or, or_true, not_true_eq_false, not_false_eq_true, Bool.false_eq_true]
    · simp only [bk_191_0, bk_191_5, bk_191_18, bk_191_26, b1, eq_true c.2, b0, a2, ↓reduceIte, ma_bd_some, ma_bd_none, ma_tl1, ma_tl0, ma_ap1, ma_ap0, b2i_0, b2i_1, b2i_01, ma_l10, ma_l01, eq_self, true_or, or_true, not_true_eq_false, not_false_eq_true, Bool.false_eq_true]
      simp only [bk_191_65, bk_191_73, b10, ↓reduceIte, ma_bd_some, ma_bd_none, ma_tl1, ma_tl0, ma_ap1, ma_ap0, b2i_0, b2i_1, b2i_01, ma_l10, ma_l01, eq_self, true_or, or_true, not_true_eq_false, not_false_eq_true, Bool.false_eq_true]
  · refine ⟨some (vI (-6)), sp_rx x (-6), sp_rm m (-6), ?_, ?_, ma_Iv_no sp_isb6 (ma_Iv_s hi)⟩
    · simp only [bk_90_0, bk_90_7, bk_90_10, bk_90_16, cx_isIn, eq_false c, cx_refuse _ _ _ sp_isb6, ↓reduceIte, ma_bd_some, ma_bd_none, ma_tl1, ma_tl0, ma_ap1, ma_ap0, b2i_0, b2i_1, b2i_01, ma_l10, ma_l01, eq_self, true_or, or_true, not_true_eq_false, not_false_eq_true, Bool.false_eq_true]
    · by_cases b1 : n < 1
      · simp only [bk_191_0, bk_191_11, bk_191_17, b1, cm_no _ _ _ sp_isb6, ↓reduceIte, ma_bd_some, ma_bd_none, ma_tl1, ma_tl0, ma_ap1, ma_ap0, b2i_0, b2i_1, b2i_01, ma_l10, ma_l01, eq_self, true_or, or_true, not_true_eq_false, not_false_eq_true, Bool.false_eq_true]
      · have b2 : (n ≤ 60) = False := eq_false (fun z => c ⟨by rw [ma_lt] at b1; rw [ma_le]; omega, z⟩)
        simp only [bk_191_0, bk_191_5, bk_191_11, bk_191_17, b1, b2, cm_no _ _ _ sp_isb6, ↓reduceIte, ma_bd_some, ma_bd_none, ma_tl1, ma_tl0, ma_ap1, ma_ap0, b2i_0, b2i_1, b2i_01, ma_l10, ma_l01, eq_self, true_or, or_true, not_true_eq_false, not_false_eq_true, Bool.false_eq_true]
