/-! PART 58: calls: by, fair. -/
/-- the model plays beside its hill and takes it back -/
theorem mplay (d t n ρ : Nat) (l : Bool) (lf v : Int32) (x m : ma_S) (ht : t < 1000) (hi : ma_Iv t x m) (hρ : ρ ≤ 3) (hl : l = true → ρ = 1) (hv : v = nI (if l = true then 4 else ρ)) (hn : n ≤ 4) (hF : x.1 2 0 0 1 = nI n) : ∃ (S' : Nat → Int32) (T' : Nat → Nat → Int32) (mB : ma_S), ma_cal (d + 7) 171 [vR 20 0 0, vI v, vI 300] (ma_mh m (if l = true then upd (m.1 20 0 0) 5 lf else m.1 20 0 0) (sp_put (m.1 20 0 0) (ma_G m) 17 0)) = some (none, ma_mh m S' T') ∧ ma_Re (sp_R ρ l lf n 300 (x.1 2 0 0) (x.1 4 0)).2.1 S' (sp_R ρ l lf n 300 (x.1 2 0 0) (x.1 4 0)).2.2 T' ∧ S' 42 = nI (sp_R ρ l lf n 300 (x.1 2 0 0) (x.1 4 0)).1 ∧ ma_cal (d + 7) 144 [vR 20 0 0, vR 50 17 0, vI 0, vI 1] (ma_mh m S' T') = some (none, mB) ∧ ma_sm m mB ∧ ma_cal (d + 7) 144 [vR 20 0 0, vR 50 17 0, vI 0, vI 0] m = some (none, ma_mh m (m.1 20 0 0) (sp_put (m.1 20 0 0) (ma_G m) 17 0)) := by
  have hk := ma_Iv_ok hi
  have hp1 : ma_Re (m.1 20 0 0) (m.1 20 0 0) (ma_G m) (sp_put (m.1 20 0 0) (ma_G m) 17 0) := ⟨fun _ _ _ => rfl, fun r _ k a b => by unfold sp_put; rw [if_neg (by omega)]⟩
  have hR := sp_Re_5 l lf (ma_Re_trans hi.1.1 hp1)
  obtain ⟨S', T', q1, q2, q3, q4, q5⟩ := cm_goesOn d n ρ 300 l hρ hl (by omega) v 300 hv rfl m hn _ _ _ _ (sp_ok_5 l lf hk) (by rw [sp_l1]; exact hF) hR
  have hget := cm_all_get (d + 5) 17 0 m S' T' (by omega) (by decide) (by decide)
  have hput := cm_all_put (d + 5) 17 0 m (m.1 20 0 0) (ma_G m) (by omega) (by decide) (by decide)
  rw [nI_0] at hget
  rw [nI_0, ma_mh_id] at hput
  refine ⟨S', T', _, q1, q2, q3, hget, ma_sm_back m S' T' (fun q a b => ?_) (fun r q a b => ?_) (fun j hj => q5 j 17 (by omega)), hput⟩
  · rw [q4 q a (by omega) (by omega) (by omega) (by omega)]
    split
    · unfold upd; rw [if_neg (by omega)]
    · rfl
  · rw [q5 r q a]
    unfold sp_put
    rw [if_neg (by omega)]
def sp_byV (R : Nat × (Nat → Int32) × (Nat → Nat → Int32)) (w : Int32) (n : Nat) (G : Nat → Nat → Int32) : Int32 :=
  if w = -1 then sp_sum (fun r => R.2.2 r 5) n - sp_sum (fun r => G r 5) n else if w = 4 then R.2.1 4 else if w = 5 then nI R.1 else R.2.2 w.toNatClampNeg 5 - G w.toNatClampNeg 5
def sp_byok (w n : Int32) : Prop := w = -1 ∨ w = 4 ∨ w = 5 ∨ (0 ≤ w ∧ w < n)
theorem cm_by (d t n ρ : Nat) (v w : Int32) (x m : ma_S) (ht : t < 1000) (hi : ma_Iv t x m) (hρ : ρ ≤ 3) (hv : v = nI ρ) (hn : n ≤ 4) (hF : x.1 2 0 0 1 = nI n) (hw : sp_byok w (nI n)) : ∃ m', ma_cal (d + 8) 173 [vR 20 0 0, vI v, vI w] m = some (some (vI (sp_byV (sp_R ρ false (-1) n 300 (x.1 2 0 0) (x.1 4 0)) w n (x.1 4 0))), m') ∧ ma_sm m m' := by
  obtain ⟨S', T', mB, q1, q2, q3, q4, q5, q6⟩ := mplay d t n ρ false (-1) v x m ht hi hρ (fun z => absurd z Bool.false_ne_true) (by rw [if_neg Bool.false_ne_true]; exact hv) hn hF
  rw [if_neg Bool.false_ne_true] at q1
  have hFm : m.1 20 0 0 1 = nI n := by rw [ma_Iv_F hi 1 (by omega) (by omega)]; exact hF
  have hni := nI_toInt (n := n) (by omega)
  have hk := ma_Iv_ok hi
  obtain ⟨o1, o2, o3, o4⟩ := sp_R_ok (ρ := ρ) (n := n) (l := false) (lf := -1) (M := 300) (by omega) ht hk hi.1.2.2.1
  generalize sp_R ρ false (-1) n 300 (x.1 2 0 0) (x.1 4 0) = R at q2 q3 o1 o2 o3 o4 ⊢
  have hR1 : R.2.1 1 = nI n := o3.trans hF
  have hS1 : S' 1 = nI n := (q2.1 1 (by omega) (by omega)).symm.trans hR1
  have a0 := cm_allOf (d + 6) 5 n m hFm hn rfl
  have a1 := cm_allOf (d + 6) 5 n (ma_mh m S' T') (by rw [ma_mh_F]; exact hS1) hn rfl
  simp only [ma_mh_A] at a1
  have s0 : sp_sum (fun r => m.1 50 5 0 r) n = sp_sum (fun r => x.1 4 0 r 5) n := sp_sum_congr n (fun r hr => ma_Iv_G hi r (by rw [hF, hni]; omega) 5 (by omega) (by omega))
  have s1 : sp_sum (fun r => T' r 5) n = sp_sum (fun r => R.2.2 r 5) n := sp_sum_congr n (fun r hr => (q2.2 r (by rw [hR1, hni]; omega) 5 (by omega) (by omega)).symm)
  rw [s0] at a0
  rw [s1] at a1
  have t4 : S' 4 = R.2.1 4 := (q2.1 4 (by omega) (by omega)).symm
  have hru : (0 ≤ v ∧ v < 4) = True := eq_true ⟨by rw [hv]; exact nI_pos' (by omega), by
    rw [hv, ma_lt, nI_toInt (by omega)]
    have e4 : (4 : Int32).toInt = 4 := rfl
    omega⟩
  rw [en_173]
  unfold sp_byV
  refine ⟨mB, ?_, q5⟩
  by_cases w1 : w = -1
  · simp (decide := true) only [bk_173_0, bk_173_5, bk_173_10, bk_173_14, bk_173_19, bk_173_24, bk_173_27, bk_173_33, bk_173_34, bk_173_39, bk_173_42, bk_173_48, bk_173_49, bk_173_53, bk_173_61, bk_173_64, bk_173_69, bk_173_78, bk_173_79, bk_173_90, bk_173_98, bk_173_102, bk_173_110, bk_173_115, bk_173_120, bk_173_131, bk_173_136, bk_173_143, bk_173_147, bk_173_159, w1, cm_isRule, hru, a0, q6, q1, a1, q4, ↓reduceIte, ma_bd_some, ma_bd_none, ma_tl1, ma_tl0, ma_ap1, ma_ap0, b2i_0, b2i_1, b2i_01, ma_l10, ma_l01, eq_self, true_or, or_true, not_true_eq_false, not_false_eq_true, Bool.false_eq_true]
  by_cases w4 : w = 4
  · simp (decide := true) only [bk_173_0, bk_173_5, bk_173_10, bk_173_14, bk_173_19, bk_173_24, bk_173_27, bk_173_33, bk_173_34, bk_173_39, bk_173_42, bk_173_48, bk_173_49, bk_173_53, bk_173_61, bk_173_64, bk_173_69, bk_173_78, bk_173_79, bk_173_90, bk_173_98, bk_173_102, bk_173_110, bk_173_115, bk_173_120, bk_173_131, bk_173_136, bk_173_143, bk_173_147, bk_173_159, w4, cm_isRule, hru, q6, q1, ma_mh_F, t4, q4, ↓reduceIte, ma_bd_some, ma_bd_none, ma_tl1, ma_tl0, ma_ap1, ma_ap0, b2i_0, b2i_1, b2i_01, ma_l10, ma_l01, eq_self, true_or, or_true, not_true_eq_false, not_false_eq_true, Bool.false_eq_true]
  by_cases w5 : w = 5
  · simp (decide := true) only [bk_173_0, bk_173_5, bk_173_10, bk_173_14, bk_173_19, bk_173_24, bk_173_27, bk_173_33, bk_173_34, bk_173_39, bk_173_42, bk_173_48, bk_173_49, bk_173_53, bk_173_61, bk_173_64, bk_173_69, bk_173_78, bk_173_79, bk_173_90, bk_173_98, bk_173_102, bk_173_110, bk_173_115, bk_173_120, bk_173_131, bk_173_136, bk_173_143, bk_173_147, bk_173_159, w5, cm_isRule, hru, q6, q1, ma_mh_F, q3, q4, ↓reduceIte, ma_bd_some, ma_bd_none, ma_tl1, ma_tl0, ma_ap1, ma_ap0, b2i_0, b2i_1, b2i_01, ma_l10, ma_l01, eq_self, true_or, or_true, not_true_eq_false, not_false_eq_true, Bool.false_eq_true]
  have hr : 0 ≤ w ∧ w < nI n := by
    rcases hw with h | h | h | h
    · exact absurd h w1
    · exact absurd h w4
    · exact absurd h w5
    · exact h
  have h1 := ma_le.mp hr.1
  have h2 := ma_lt.mp hr.2
  rw [hni] at h2
  have k0 : (0 : Int32).toInt = 0 := rfl
  have k4 : (4 : Int32).toInt = 4 := rfl
  have k5 : (5 : Int32).toInt = 5 := rfl
  have kn : (-1 : Int32).toInt = -1 := rfl
  have b1 : (w < -1) = False := eq_false (by rw [ma_lt]; omega)
  have b2 : (5 < w) = False := eq_false (by rw [ma_lt]; omega)
  have b3 : (w < 0) = False := eq_false (by rw [ma_lt]; omega)
  have b4 : (4 ≤ w) = False := eq_false (by rw [ma_le]; omega)
  have b5 : (0 ≤ w) = True := eq_true hr.1
  have b6 : (w < nI n) = True := eq_true hr.2
  have hin : ma_in w 4 := ma_inI (by omega) (by omega)
  have hc := ma_clN (x := w)
  have g0 := ma_Iv_G hi w.toNatClampNeg (by rw [hF, hni]; omega) 5 (by omega) (by omega)
  have g1 : T' w.toNatClampNeg 5 = R.2.2 w.toNatClampNeg 5 := (q2.2 _ (by rw [hR1, hni]; omega) 5 (by omega) (by omega)).symm
  rw [if_neg w1, if_neg w4, if_neg w5]
  simp only [bk_173_0, bk_173_5, bk_173_10, bk_173_14, bk_173_19, bk_173_24, bk_173_27, bk_173_33, bk_173_34, bk_173_39, bk_173_42, bk_173_48, bk_173_49, bk_173_53, bk_173_61, bk_173_64, bk_173_69, bk_173_78, bk_173_79, bk_173_90, bk_173_98, bk_173_102, bk_173_110, bk_173_115, bk_173_120, bk_173_131, bk_173_136, bk_173_143, bk_173_147, bk_173_159, cm_isRider, hFm, b1, b2, b3, b4, b5, b6, and_self, cm_isRule, hru, q6, q1, ma_if_pos hin, ma_mh_A, g0, g1, q4, ↓reduceIte, ma_bd_some, ma_bd_none, ma_tl1, ma_tl0, ma_ap1, ma_ap0, b2i_0, b2i_1, b2i_01, ma_l10, ma_l01, eq_self, true_or, or_true, not_true_eq_false, not_false_eq_true, Bool.false_eq_true]
theorem op_by (d t : Nat) (x m : ma_S) (v w : Int32) (ht : t < 1000) (hi : ma_Iv t x m) : ma_Op (d + 8) 78 173 [vI v, vI w] t x m := by
  obtain ⟨n, hn, hF, hFm⟩ := ma_Iv_n hi
  have hni := nI_toInt (n := n) (by omega)
  have hk := ma_Iv_ok hi
  have k0 : (0 : Int32).toInt = 0 := rfl
  have k4 : (4 : Int32).toInt = 4 := rfl
  have k5 : (5 : Int32).toInt = 5 := rfl
  have kn : (-1 : Int32).toInt = -1 := rfl
  unfold ma_Op
  by_cases hw : sp_byok w (nI n)
  case neg =>
    unfold sp_byok at hw
    have w1 : (w = -1) = False := eq_false (fun z => hw (Or.inl z))
    have w4 : (w = 4) = False := eq_false (fun z => hw (Or.inr (Or.inl z)))
    have w5 : (w = 5) = False := eq_false (fun z => hw (Or.inr (Or.inr (Or.inl z))))
    have wr : (0 ≤ w ∧ w < nI n) = False := eq_false (fun z => hw (Or.inr (Or.inr (Or.inr z))))
    refine ⟨some (vI (-5)), sp_rx x (-5), sp_rm m (-5), ?_, ?_, ma_Iv_no sp_isb5 (ma_Iv_s hi)⟩
    · rw [en_78]
      simp only [bk_78_0, bk_78_5, bk_78_10, bk_78_15, bk_78_23, bk_78_26, bk_78_32, bk_78_33, bk_78_37, bk_78_40, bk_78_46, bk_78_47, bk_78_63, bk_78_100, bk_78_110, bk_78_117, bk_78_119, bk_78_130, bk_78_132, bk_78_137, w1, w4, w5, cx_has, hF, wr, cx_refuse _ _ _ sp_isb5, ↓reduceIte, ma_bd_some, ma_bd_none, ma_tl1, ma_tl0, ma_ap1, ma_ap0, b2i_0, b2i_1, b2i_01, ma_l10, ma_l01, eq_self, true_or, or_true, not_true_eq_false, not_false_eq_true, Bool.false_eq_true]
    · rw [en_173]
      by_cases b1 : w < -1
      · simp only [bk_173_0, bk_173_5, bk_173_10, bk_173_14, bk_173_19, bk_173_24, bk_173_27, bk_173_33, bk_173_34, bk_173_39, bk_173_42, bk_173_48, bk_173_49, bk_173_53, bk_173_61, bk_173_64, bk_173_69, bk_173_78, bk_173_79, bk_173_90, bk_173_98, bk_173_102, bk_173_110, bk_173_115, bk_173_120, bk_173_131, bk_173_136, bk_173_143, bk_173_147, bk_173_159, b1, cm_no _ _ _ sp_isb5, ↓reduceIte, ma_bd_some, ma_bd_none, ma_tl1, ma_tl0, ma_ap1, ma_ap0, b2i_0, b2i_1, b2i_01, ma_l10, ma_l01, eq_self, true_or, or_true, not_true_eq_false, not_false_eq_true, Bool.false_eq_true]
      by_cases b2 : 5 < w
      · simp only [bk_173_0, bk_173_5, bk_173_10, bk_173_14, bk_173_19, bk_173_24, bk_173_27, bk_173_33, bk_173_34, bk_173_39, bk_173_42, bk_173_48, bk_173_49, bk_173_53, bk_173_61, bk_173_64, bk_173_69, bk_173_78, bk_173_79, bk_173_90, bk_173_98, bk_173_102, bk_173_110, bk_173_115, bk_173_120, bk_173_131, bk_173_136, bk_173_143, bk_173_147, bk_173_159, b1, b2, cm_no _ _ _ sp_isb5, ↓reduceIte, ma_bd_some, ma_bd_none, ma_tl1, ma_tl0, ma_ap1, ma_ap0, b2i_0, b2i_1, b2i_01, ma_l10, ma_l01, eq_self, true_or, or_true, not_true_eq_false, not_false_eq_true, Bool.false_eq_true]
      have v1 := of_eq_false w1
      have v4 := of_eq_false w4
      have v5 := of_eq_false w5
      rw [ma_eq] at v1 v4 v5
      have u1 := b1
      have u2 := b2
      rw [ma_lt] at u1 u2
      have b3 : (w < 0) = False := eq_false (by rw [ma_lt]; omega)
      have b4 : (4 ≤ w) = False := eq_false (by rw [ma_le]; omega)
      simp only [bk_173_0, bk_173_5, bk_173_10, bk_173_14, bk_173_19, bk_173_24, bk_173_27, bk_173_33, bk_173_34, bk_173_39, bk_173_42, bk_173_48, bk_173_49, bk_173_53, bk_173_61, bk_173_64, bk_173_69, bk_173_78, bk_173_79, bk_173_90, bk_173_98, bk_173_102, bk_173_110, bk_173_115, bk_173_120, bk_173_131, bk_173_136, bk_173_143, bk_173_147, bk_173_159, b1, b2, b3, b4, cm_isRider, hFm, wr, cm_no _ _ _ sp_isb5, ↓reduceIte, ma_bd_some, ma_bd_none, ma_tl1, ma_tl0, ma_ap1, ma_ap0, b2i_0, b2i_1, b2i_01, ma_l10, ma_l01, eq_self, true_or, or_true, not_true_eq_false, not_false_eq_true, Bool.false_eq_true]
  rcases Classical.propComplete (0 ≤ v ∧ v < 4) with c1 | c1
  case inr =>
    refine ⟨some (vI (-6)), sp_rx x (-6), sp_rm m (-6), ?_, ?_, ma_Iv_no sp_isb6 (ma_Iv_s hi)⟩
    · rw [en_78]
      rcases hw with h | h | h | h
      · simp (decide := true) only [bk_78_0, bk_78_5, bk_78_10, bk_78_15, bk_78_23, bk_78_26, bk_78_32, bk_78_33, bk_78_37, bk_78_40, bk_78_46, bk_78_47, bk_78_63, bk_78_100, bk_78_110, bk_78_117, bk_78_119, bk_78_130, bk_78_132, bk_78_137, h, cx_isRule, c1, cx_refuse _ _ _ sp_isb6, ↓reduceIte, ma_bd_some, ma_bd_none, ma_tl1, ma_tl0, ma_ap1, ma_ap0, b2i_0, b2i_1, b2i_01, ma_l10, ma_l01, eq_self, true_or, or_true, not_true_eq_false, not_false_eq_true, Bool.false_eq_true]
      · simp (decide := true) only [bk_78_0, bk_78_5, bk_78_10, bk_78_15, bk_78_23, bk_78_26, bk_78_32, bk_78_33, bk_78_37, bk_78_40, bk_78_46, bk_78_47, bk_78_63, bk_78_100, bk_78_110, bk_78_117, bk_78_119, bk_78_130, bk_78_132, bk_78_137, h, cx_isRule, c1, cx_refuse _ _ _ sp_isb6, ↓reduceIte, ma_bd_some, ma_bd_none, ma_tl1, ma_tl0, ma_ap1, ma_ap0, b2i_0, b2i_1, b2i_01, ma_l10, ma_l01, eq_self, true_or, or_true, not_true_eq_false, not_false_eq_true, Bool.false_eq_true]
      · simp (decide := true) only [bk_78_0, bk_78_5, bk_78_10, bk_78_15, bk_78_23, bk_78_26, bk_78_32, bk_78_33, bk_78_37, bk_78_40, bk_78_46, bk_78_47, bk_78_63, bk_78_100, bk_78_110, bk_78_117, bk_78_119, bk_78_130, bk_78_132, bk_78_137, h, cx_isRule, c1, cx_refuse _ _ _ sp_isb6, ↓reduceIte, ma_bd_some, ma_bd_none, ma_tl1, ma_tl0, ma_ap1, ma_ap0, b2i_0, b2i_1, b2i_01, ma_l10, ma_l01, eq_self, true_or, or_true, not_true_eq_false, not_false_eq_true, Bool.false_eq_true]
      · rcases Classical.propComplete (w = -1) with e1 | e1 <;> rcases Classical.propComplete (w = 4) with e4 | e4 <;> rcases Classical.propComplete (w = 5) with e5 | e5
        all_goals simp only [bk_78_0, bk_78_5, bk_78_10, bk_78_15, bk_78_23, bk_78_26, bk_78_32, bk_78_33, bk_78_37, bk_78_40, bk_78_46, bk_78_47, bk_78_63, bk_78_100, bk_78_110, bk_78_117, bk_78_119, bk_78_130, bk_78_132, bk_78_137, e1, e4, e5, cx_has, hF, eq_true h, cx_isRule, c1, cx_refuse _ _ _ sp_isb6, ↓reduceIte, ma_bd_some, ma_bd_none, ma_tl1, ma_tl0, ma_ap1, ma_ap0, b2i_0, b2i_1, b2i_01, ma_l10, ma_l01, eq_self, true_or, or_true, not_true_eq_false, not_false_eq_true, Bool.false_eq_true]
    · rw [en_173]
      rcases hw with h | h | h | h
      · simp (decide := true) only [bk_173_0, bk_173_5, bk_173_10, bk_173_14, bk_173_19, bk_173_24, bk_173_27, bk_173_33, bk_173_34, bk_173_39, bk_173_42, bk_173_48, bk_173_49, bk_173_53, bk_173_61, bk_173_64, bk_173_69, bk_173_78, bk_173_79, bk_173_90, bk_173_98, bk_173_102, bk_173_110, bk_173_115, bk_173_120, bk_173_131, bk_173_136, bk_173_143, bk_173_147, bk_173_159, h, cm_isRule, c1, cm_no _ _ _ sp_isb6, ↓reduceIte, ma_bd_some, ma_bd_none, ma_tl1, ma_tl0, ma_ap1, ma_ap0, b2i_0, b2i_1, b2i_01, ma_l10, ma_l01, eq_self, true_or, or_true, not_true_eq_false, not_false_eq_true, Bool.false_eq_true]
      · simp (decide := true) only [bk_173_0, bk_173_5, bk_173_10, bk_173_14, bk_173_19, bk_173_24, bk_173_27, bk_173_33, bk_173_34, bk_173_39, bk_173_42, bk_173_48, bk_173_49, bk_173_53, bk_173_61, bk_173_64, bk_173_69, bk_173_78, bk_173_79, bk_173_90, bk_173_98, bk_173_102, bk_173_110, bk_173_115, bk_173_120, bk_173_131, bk_173_136, bk_173_143, bk_173_147, bk_173_159, h, cm_isRule, c1, cm_no _ _ _ sp_isb6, ↓reduceIte, ma_bd_some, ma_bd_none, ma_tl1, ma_tl0, ma_ap1, ma_ap0, b2i_0, b2i_1, b2i_01, ma_l10, ma_l01, eq_self, true_or, or_true, not_true_eq_false, not_false_eq_true, Bool.false_eq_true]
      · simp (decide := true) only [bk_173_0, bk_173_5, bk_173_10, bk_173_14, bk_173_19, bk_173_24, bk_173_27, bk_173_33, bk_173_34, bk_173_39, bk_173_42, bk_173_48, bk_173_49, bk_173_53, bk_173_61, bk_173_64, bk_173_69, bk_173_78, bk_173_79, bk_173_90, bk_173_98, bk_173_102, bk_173_110, bk_173_115, bk_173_120, bk_173_131, bk_173_136, bk_173_143, bk_173_147, bk_173_159, h, cm_isRule, c1, cm_no _ _ _ sp_isb6, ↓reduceIte, ma_bd_some, ma_bd_none, ma_tl1, ma_tl0, ma_ap1, ma_ap0, b2i_0, b2i_1, b2i_01, ma_l10, ma_l01, eq_self, true_or, or_true, not_true_eq_false, not_false_eq_true, Bool.false_eq_true]
      · have h1 := ma_le.mp h.1
        have h2 := ma_lt.mp h.2
        have b1 : (w < -1) = False := eq_false (by rw [ma_lt]; omega)
        have b2 : (5 < w) = False := eq_false (by rw [ma_lt]; omega)
        have b3 : (w < 0) = False := eq_false (by rw [ma_lt]; omega)
        have b4 : (4 ≤ w) = False := eq_false (by rw [ma_le]; omega)
        simp only [bk_173_0, bk_173_5, bk_173_10, bk_173_14, bk_173_19, bk_173_24, bk_173_27, bk_173_33, bk_173_34, bk_173_39, bk_173_42, bk_173_48, bk_173_49, bk_173_53, bk_173_61, bk_173_64, bk_173_69, bk_173_78, bk_173_79, bk_173_90, bk_173_98, bk_173_102, bk_173_110, bk_173_115, bk_173_120, bk_173_131, bk_173_136, bk_173_143, bk_173_147, bk_173_159, b1, b2, b3, b4, cm_isRider, hFm, eq_true h, cm_isRule, c1, cm_no _ _ _ sp_isb6, ↓reduceIte, ma_bd_some, ma_bd_none, ma_tl1, ma_tl0, ma_ap1, ma_ap0, b2i_0, b2i_1, b2i_01, ma_l10, ma_l01, eq_self, true_or, or_true, not_true_eq_false, not_false_eq_true, Bool.false_eq_true]
  obtain ⟨ρ, hρ, hv⟩ := sp_rule (of_eq_true c1)
  obtain ⟨m', hm1, hm2⟩ := cm_by d t n ρ v w x m ht hi hρ hv hn hF hw
  obtain ⟨x', p1, p2, p3⟩ := cx_play d n ρ 300 false hρ (by omega) v 300 (-1) hv rfl (by rw [eq_true rfl, eq_true rfl]) x hn hk hF
  obtain ⟨o1, o2, o3, o4⟩ := sp_R_ok (ρ := ρ) (n := n) (l := false) (lf := -1) (M := 300) (by omega) ht hk hi.1.2.2.1
  generalize sp_R ρ false (-1) n 300 (x.1 2 0 0) (x.1 4 0) = R at p1 p3 o1 o2 o3 o4 hm1
  have hR1 : R.2.1 1 = nI n := o3.trans hF
  have hx1 : x'.1 2 3 0 1 = nI n := (p3.1 1 (by omega) (by omega)).symm.trans hR1
  have hx0 : x'.1 2 0 0 1 = nI n := by rw [p2.1]; exact hF
  have a3 := cx_allRuns (d + 6) 3 n x' hx1 hn
  have a0 := cx_allRuns (d + 6) 0 n x' hx0 hn
  have s3 : sp_sum (fun r => x'.1 4 3 r 5) n = sp_sum (fun r => R.2.2 r 5) n := sp_sum_congr n (fun r hr => (p3.2 r (by rw [hR1, hni]; omega) 5 (by omega) (by omega)).symm)
  rw [s3] at a3
  rw [p2.2.1] at a0
  have t4 : x'.1 2 3 0 4 = R.2.1 4 := (p3.1 4 (by omega) (by omega)).symm
  refine ⟨_, x', m', ?_, hm1, ma_Iv_m hm2 (ma_Iv_x p2 (ma_Iv_s hi))⟩
  rw [en_78]
  unfold sp_byV
  by_cases w1 : w = -1
  · simp (decide := true) only [bk_78_0, bk_78_5, bk_78_10, bk_78_15, bk_78_23, bk_78_26, bk_78_32, bk_78_33, bk_78_37, bk_78_40, bk_78_46, bk_78_47, bk_78_63, bk_78_100, bk_78_110, bk_78_117, bk_78_119, bk_78_130, bk_78_132, bk_78_137, w1, cx_isRule, c1, p1, a3, a0, ↓reduceIte, ma_bd_some, ma_bd_none, ma_tl1, ma_tl0, ma_ap1, ma_ap0, b2i_0, b2i_1, b2i_01, ma_l10, ma_l01, eq_self, true_or, or_true, not_true_eq_false, not_false_eq_true, Bool.false_eq_true]
  by_cases w4 : w = 4
  · simp (decide := true) only [bk_78_0, bk_78_5, bk_78_10, bk_78_15, bk_78_23, bk_78_26, bk_78_32, bk_78_33, bk_78_37, bk_78_40, bk_78_46, bk_78_47, bk_78_63, bk_78_100, bk_78_110, bk_78_117, bk_78_119, bk_78_130, bk_78_132, bk_78_137, w4, cx_isRule, c1, p1, t4, ↓reduceIte, ma_bd_some, ma_bd_none, ma_tl1, ma_tl0, ma_ap1, ma_ap0, b2i_0, b2i_1, b2i_01, ma_l10, ma_l01, eq_self, true_or, or_true, not_true_eq_false, not_false_eq_true, Bool.false_eq_true]
  by_cases w5 : w = 5
  · simp (decide := true) only [bk_78_0, bk_78_5, bk_78_10, bk_78_15, bk_78_23, bk_78_26, bk_78_32, bk_78_33, bk_78_37, bk_78_40, bk_78_46, bk_78_47, bk_78_63, bk_78_100, bk_78_110, bk_78_117, bk_78_119, bk_78_130, bk_78_132, bk_78_137, w5, cx_isRule, c1, p1, ↓reduceIte, ma_bd_some, ma_bd_none, ma_tl1, ma_tl0, ma_ap1, ma_ap0, b2i_0, b2i_1, b2i_01, ma_l10, ma_l01, eq_self, true_or, or_true, not_true_eq_false, not_false_eq_true, Bool.false_eq_true]
  have hr : 0 ≤ w ∧ w < nI n := by
    rcases hw with h | h | h | h
    · exact absurd h w1
    · exact absurd h w4
    · exact absurd h w5
    · exact h
  have h1 := ma_le.mp hr.1
  have h2 := ma_lt.mp hr.2
  have hin : ma_in w 4 := ma_inI (by omega) (by omega)
  have hc := ma_clN (x := w)
  have g1 : x'.1 4 3 w.toNatClampNeg 5 = R.2.2 w.toNatClampNeg 5 := (p3.2 _ (by rw [hR1, hni]; omega) 5 (by omega) (by omega)).symm
  have g0 : x'.1 4 0 w.toNatClampNeg 5 = x.1 4 0 w.toNatClampNeg 5 := by rw [p2.2.1]
  simp only [bk_78_0, bk_78_5, bk_78_10, bk_78_15, bk_78_23, bk_78_26, bk_78_32, bk_78_33, bk_78_37, bk_78_40, bk_78_46, bk_78_47, bk_78_63, bk_78_100, bk_78_110, bk_78_117, bk_78_119, bk_78_130, bk_78_132, bk_78_137, en_108, bk_108_0, bk_108_8, bk_108_11, bk_108_42, bk_108_43, w1, w4, w5, cx_has, hF, hx0, eq_true hr, cx_isRule, c1, p1, ma_if_pos hin, g1, g0, ↓reduceIte, ma_bd_some, ma_bd_none, ma_tl1, ma_tl0, ma_ap1, ma_ap0, b2i_0, b2i_1, b2i_01, ma_l10, ma_l01, eq_self, true_or, or_true, not_true_eq_false, not_false_eq_true, Bool.false_eq_true]
