/-! PART 57: RULES: whole plays; call: goes. -/
theorem sp_pl_Re {ρ n : Nat} {l : Bool} (hn : n ≤ 4) : ∀ (c k t : Nat) (F S : Nat → Int32) (G T : Nat → Nat → Int32), ma_Re F S G T → sp_ok F G → F 1 = nI n → (sp_pl ρ l n c k F G t).1 = (sp_pl ρ l n c k S T t).1 ∧ ma_Re (sp_pl ρ l n c k F G t).2.1 (sp_pl ρ l n c k S T t).2.1 (sp_pl ρ l n c k F G t).2.2 (sp_pl ρ l n c k S T t).2.2 := by
  intro c
  induction c with
  | zero => intro k t F S G T h _ _; exact ⟨rfl, h⟩
  | succ c ih =>
    intro k t F S G T h hk hF
    have hnx := sp_nx_Re (ρ := ρ) (l := l) (t := t) h hk hF hn
    have hm := sp_Re_may (sp_nx ρ l F G n t).1 h
    unfold sp_pl
    rw [← hnx, ← hm]
    by_cases c1 : sp_may F G (sp_nx ρ l F G n t).1 = true
    · rw [if_pos c1, if_pos c1]
      exact ih _ _ _ _ _ _ (sp_Re_mv h ((sp_may_iff _ _ _).mp c1).1) (sp_mv_ok hk c1) (by rw [sp_mvF_1]; exact hF)
    · rw [if_neg c1, if_neg c1]
      exact ⟨rfl, h⟩
theorem sp_pl_ok {ρ n : Nat} {l : Bool} : ∀ (c k t : Nat) (b : Int) (F : Nat → Int32) (G : Nat → Nat → Int32), b + c < 10000000 → sp_ok F G → sp_rb2 b F G → sp_ok (sp_pl ρ l n c k F G t).2.1 (sp_pl ρ l n c k F G t).2.2 ∧ sp_rb2 (b + c) (sp_pl ρ l n c k F G t).2.1 (sp_pl ρ l n c k F G t).2.2 ∧ (sp_pl ρ l n c k F G t).2.1 1 = F 1 ∧ (sp_pl ρ l n c k F G t).1 ≤ k + c := by
  intro c
  induction c with
  | zero =>
    intro k t b F G hb hk hr
    refine ⟨hk, fun r h => ?_, rfl, Nat.le_refl _⟩
    have := hr r h
    show 0 ≤ (G r 5).toInt ∧ (G r 5).toInt ≤ b + (0 : Nat)
    omega
  | succ c ih =>
    intro k t b F G hb hk hr
    unfold sp_pl
    by_cases c1 : sp_may F G (sp_nx ρ l F G n t).1 = true
    · rw [if_pos c1]
      obtain ⟨a1, a2, a3, a4⟩ := ih (k + 1) (sp_nx ρ l F G n t).2 (b + 1) _ _ (by omega) (sp_mv_ok hk c1) (sp_rb2_mv (sp_nx ρ l F G n t).1 (by omega) hr)
      refine ⟨a1, fun r h => ?_, a3, by omega⟩
      have := a2 r h
      omega
    · rw [if_neg c1]
      refine ⟨hk, fun r h => ?_, rfl, by show k ≤ _; omega⟩
      have := hr r h
      show 0 ≤ (G r 5).toInt ∧ (G r 5).toInt ≤ b + (c + 1 : Nat)
      omega
/-- what comes by a RULE -/
def sp_R (ρ : Nat) (l : Bool) (lf : Int32) (n M : Nat) (F : Nat → Int32) (G : Nat → Nat → Int32) : Nat × (Nat → Int32) × (Nat → Nat → Int32) := sp_pl ρ l n M 0 (if l = true then upd F 5 lf else F) G 0
theorem sp_ok_5 {F : Nat → Int32} {G : Nat → Nat → Int32} (l : Bool) (v : Int32) (h : sp_ok F G) : sp_ok (if l = true then upd F 5 v else F) G := by
  split
  · exact h
  · exact h
theorem sp_l1 {F : Nat → Int32} (l : Bool) (v : Int32) : (if l = true then upd F 5 v else F) 1 = F 1 := by
  split <;> rfl
theorem sp_Re_5 {F S : Nat → Int32} {G T : Nat → Nat → Int32} (l : Bool) (v : Int32) (h : ma_Re F S G T) : ma_Re (if l = true then upd F 5 v else F) (if l = true then upd S 5 v else S) G T := by
  split
  · refine ⟨fun k a b => ?_, fun r hr => h.2 r hr⟩
    unfold upd
    split
    · rfl
    · exact h.1 k a b
  · exact h
theorem ma_sh_sg (x : ma_S) (F : Nat → Int32) (G : Nat → Nat → Int32) : ma_sh x 3 F G = ma_sg x F G (x.1 50 103 0) (x.1 6 0 0) := by
  have h := ma_sg_sh x (x.1 2 3 0) (x.1 4 3) (x.1 50 103 0) (x.1 6 0 0) F G
  rw [ma_sg_id] at h
  exact h
theorem cx_play (d n ρ M : Nat) (l : Bool) (hρ : ρ ≤ 3) (hM : M ≤ 300) (v mo lf : Int32) (hv : v = nI ρ) (hmo : mo = nI M) (hlf : (lf = -1) = (l = false)) (x : ma_S) (hn : n ≤ 4) (hk : sp_ok (x.1 2 0 0) (x.1 4 0)) (hF : x.1 2 0 0 1 = nI n) : ∃ x', ma_cal (d + 7) 43 [vR 6 0 0, vR 2 0 0, vI v, vI mo, vI lf] x = some (some (vI (nI (sp_R ρ l lf n M (x.1 2 0 0) (x.1 4 0)).1)), x') ∧ ma_sx x x' ∧ ma_Re (sp_R ρ l lf n M (x.1 2 0 0) (x.1 4 0)).2.1 (x'.1 2 3 0) (sp_R ρ l lf n M (x.1 2 0 0) (x.1 4 0)).2.2 (x'.1 4 3) := by
  have hn0 : 0 < n ∨ n = 0 := by omega
  have hbec := cx_become (d + 4) 3 0 x (by decide) hk.1 hk.2.1
  have hRe := sp_bF_Re (x.1 2 3 0) (x.1 2 0 0) (x.1 4 3) (x.1 4 0)
  have hk1 := sp_Re_ok hRe hk
  have hF1 : sp_bF (x.1 2 3 0) (x.1 2 0 0) 1 = nI n := hF
  generalize hFF : sp_bF (x.1 2 3 0) (x.1 2 0 0) = F1 at hbec hRe hk1 hF1
  generalize hGG : sp_bG (x.1 2 0 0 1) (x.1 4 3) (x.1 4 0) = G1 at hbec hRe hk1
  rw [ma_sh_sg, ← sp_S_id (x.1 6 0 0)] at hbec
  obtain ⟨f', t', h⟩ := cx_play_loop d n ρ M l hρ hM mo lf hmo 0 0 x (x.1 6 0 0) hn M 0 0 (if l = true then upd F1 5 lf else F1) G1 (x.1 50 103 0) none (by omega) (sp_ok_5 l lf hk1) (by rw [sp_l1]; exact hF1) hn0
  have hpl := sp_pl_Re (ρ := ρ) (l := l) hn M 0 0 _ _ _ _ (sp_Re_5 l lf hRe) (sp_ok_5 l lf hk) (by rw [sp_l1]; exact hF)
  unfold sp_R
  rw [hpl.1]
  refine ⟨ma_sg x (sp_pl ρ l n M 0 (if l = true then upd F1 5 lf else F1) G1 0).2.1 (sp_pl ρ l n M 0 (if l = true then upd F1 5 lf else F1) G1 0).2.2 f' (sp_S (x.1 6 0 0) (b2i (l = true)) (nI t')), ?_, ma_sx_sg x _ _ f' _, ?_⟩
  · rw [nI_0] at h
    rw [← h, en_43, hv]
    cases l
    · have e1 : (lf = -1) = True := by rw [hlf]; exact eq_true rfl
      have b0 : b2i (false = true) = 0 := rfl
      have ef : (if false = true then upd F1 5 lf else F1) = F1 := if_neg Bool.false_ne_true
      rw [ef, b0]
      simp (decide := true) only [bk_43_0, bk_43_8, bk_43_19, bk_43_20, bk_43_39, hbec, e1, ma_sg_uS, ma_sg_Sk, sp_S_u1, sp_S_u2, sp_S_1, ↓reduceIte, ma_bd_some, ma_bd_none, ma_tl1, ma_tl0, ma_ap1, ma_ap0, b2i_0, b2i_1, b2i_01, ma_l10, ma_l01, eq_self, true_or, or_true, not_true_eq_false, not_false_eq_true, Bool.false_eq_true]
    · have e1 : (lf = -1) = False := by rw [hlf]; exact eq_false (fun z => Bool.false_ne_true z.symm)
      have b1 : b2i (true = true) = 1 := rfl
      have ef : (if true = true then upd F1 5 lf else F1) = upd F1 5 lf := if_pos rfl
      rw [ef, b1]
      simp (decide := true) only [bk_43_0, bk_43_8, bk_43_15, bk_43_20, bk_43_30, bk_43_39, hbec, e1, ma_sg_uS, ma_sg_uF, ma_sg_Sk, sp_S_u1, sp_S_u2, sp_S_1, ↓reduceIte, ma_bd_some, ma_bd_none, ma_tl1, ma_tl0, ma_ap1, ma_ap0, b2i_0, b2i_1, b2i_01, ma_l10, ma_l01, eq_self, true_or, or_true, not_true_eq_false, not_false_eq_true, Bool.false_eq_true]
  · rw [ma_sg_F, ma_sg_G]
    exact hpl.2
theorem sp_R_ok {ρ n M t : Nat} {l : Bool} {lf : Int32} {F : Nat → Int32} {G : Nat → Nat → Int32} (hM : M ≤ 300) (ht : t < 1000) (hk : sp_ok F G) (hr : sp_rb2 (200 * t) F G) : sp_ok (sp_R ρ l lf n M F G).2.1 (sp_R ρ l lf n M F G).2.2 ∧ sp_rb2 (200 * t + M) (sp_R ρ l lf n M F G).2.1 (sp_R ρ l lf n M F G).2.2 ∧ (sp_R ρ l lf n M F G).2.1 1 = F 1 ∧ (sp_R ρ l lf n M F G).1 ≤ M := by
  have h := sp_pl_ok (ρ := ρ) (n := n) (l := l) M 0 0 (200 * t) (if l = true then upd F 5 lf else F) G (by omega) (sp_ok_5 l lf hk) (fun r hr' => hr r (by rw [sp_l1] at hr'; exact hr'))
  rw [sp_l1, Nat.zero_add] at h
  exact h
theorem sp_rule {v : Int32} (h : 0 ≤ v ∧ v < 4) : ∃ ρ : Nat, ρ ≤ 3 ∧ v = nI ρ := by
  have h1 := ma_le.mp h.1
  have h2 := ma_lt.mp h.2
  have e0 : (0 : Int32).toInt = 0 := rfl
  have e4 : (4 : Int32).toInt = 4 := rfl
  exact ⟨v.toInt.toNat, by omega, ma_nI (by omega) (by omega)⟩
theorem op_goes (d t : Nat) (x m : ma_S) (v w : Int32) (ht : t < 1000) (hi : ma_Iv t x m) : ma_Op (d + 8) 89 189 [vI v, vI w] t x m := by
  unfold ma_Op
  rw [en_89, en_189]
  rcases Classical.propComplete (0 ≤ v ∧ v < 4) with c1 | c1
  case inr =>
    refine ⟨some (vI (-6)), sp_rx x (-6), sp_rm m (-6), ?_, ?_, ma_Iv_no sp_isb6 (ma_Iv_s hi)⟩
    · simp only [bk_89_0, bk_89_4, bk_89_7, bk_89_14, bk_89_17, bk_89_23, bk_89_24, bk_89_38, bk_89_53, cx_isRule, c1, cx_refuse _ _ _ sp_isb6, ↓reduceIte, ma_bd_some, ma_bd_none, ma_tl1, ma_tl0, ma_ap1, ma_ap0, b2i_0, b2i_1, b2i_01, ma_l10, ma_l01, eq_self, true_or, or_true, not_true_eq_false, not_false_eq_true, Bool.false_eq_true]
    · simp only [bk_189_0, bk_189_5, bk_189_8, bk_189_13, bk_189_19, bk_189_25, bk_189_26, bk_189_32, cm_isRule, c1, cm_no _ _ _ sp_isb6, ↓reduceIte, ma_bd_some, ma_bd_none, ma_tl1, ma_tl0, ma_ap1, ma_ap0, b2i_0, b2i_1, b2i_01, ma_l10, ma_l01, eq_self, true_or, or_true, not_true_eq_false, not_false_eq_true, Bool.false_eq_true]
  rcases Classical.propComplete (1 ≤ w) with c2 | c2 <;> rcases Classical.propComplete (w ≤ 60) with c3 | c3
  case inl.inr | inr.inl | inr.inr =>
    refine ⟨some (vI (-6)), sp_rx x (-6), sp_rm m (-6), ?_, ?_, ma_Iv_no sp_isb6 (ma_Iv_s hi)⟩
    · simp only [bk_89_0, bk_89_4, bk_89_7, bk_89_14, bk_89_17, bk_89_23, bk_89_24, bk_89_38, bk_89_53, cx_isRule, cx_isIn, c1, c2, c3, and_true, and_false, and_self, cx_refuse _ _ _ sp_isb6, ↓reduceIte, ma_bd_some, ma_bd_none, ma_tl1, ma_tl0, ma_ap1, ma_ap0, b2i_0, b2i_1, b2i_01, ma_l10, ma_l01, eq_self, true_or, or_true, not_true_eq_false, not_false_eq_true, Bool.false_eq_true]
    · simp only [bk_189_0, bk_189_5, bk_189_8, bk_189_13, bk_189_19, bk_189_25, bk_189_26, bk_189_32, cm_isRule, c1, ma_nlt w 1, c2, c3, cm_no _ _ _ sp_isb6, ↓reduceIte, ma_bd_some, ma_bd_none, ma_tl1, ma_tl0, ma_ap1, ma_ap0, b2i_0, b2i_1, b2i_01, ma_l10, ma_l01, eq_self, true_or, or_true, not_true_eq_false, not_false_eq_true, Bool.false_eq_true]
  obtain ⟨ρ, hρ, hv⟩ := sp_rule (of_eq_true c1)
  have l2 := ma_le.mp (of_eq_true c2)
  have l3 := ma_le.mp (of_eq_true c3)
  have k1 : (1 : Int32).toInt = 1 := rfl
  have k60 : (60 : Int32).toInt = 60 := rfl
  obtain ⟨M, hM⟩ : ∃ M : Nat, w.toInt = M := ⟨w.toInt.toNat, by omega⟩
  have hw : w = nI M := ma_nI hM (by omega)
  obtain ⟨n, hn, hF, hFm⟩ := ma_Iv_n hi
  have hk := ma_Iv_ok hi
  obtain ⟨x', p1, p2, p3⟩ := cx_play d n ρ M false hρ (by omega) v w (-1) hv hw (by rw [eq_true rfl, eq_true rfl]) x hn hk hF
  obtain ⟨S', T', q1, q2, q3, q4, q5⟩ := cm_goesOn d n ρ M false hρ (fun z => absurd z Bool.false_ne_true) (by omega) v w (by rw [if_neg Bool.false_ne_true]; exact hv) hw m hn (x.1 2 0 0) (m.1 20 0 0) (x.1 4 0) (ma_G m) hk hF hi.1.1
  rw [ma_mh_id] at q1
  have hRR : sp_R ρ false (-1) n M (x.1 2 0 0) (x.1 4 0) = sp_pl ρ false n M 0 (x.1 2 0 0) (x.1 4 0) 0 := by
    unfold sp_R
    rw [if_neg Bool.false_ne_true]
  obtain ⟨o1, o2, o3, o4⟩ := sp_R_ok (ρ := ρ) (n := n) (l := false) (lf := -1) (M := M) (by omega) ht hk hi.1.2.2.1
  rw [← hRR] at q2 q3
  generalize sp_R ρ false (-1) n M (x.1 2 0 0) (x.1 4 0) = R at p1 p3 q2 q3 o1 o2 o3 o4
  have hk3 := sp_Re_ok p3 o1
  have hbec := cx_become (d + 5) 0 3 x' (by decide) hk3.1 hk3.2.1
  have hb1 := sp_bF_Re (x'.1 2 0 0) (x'.1 2 3 0) (x'.1 4 0) (x'.1 4 3)
  have hRe := ma_Re_trans p3 hb1
  have hi1 := ma_Iv_x p2 hi
  have hH : ma_IvH (t + 1) (sp_bF (x'.1 2 0 0) (x'.1 2 3 0)) (sp_bG (x'.1 2 3 0 1) (x'.1 4 0) (x'.1 4 3)) S' T' := ⟨ma_Re_trans (ma_Re_symm hRe) q2, sp_Re_ok hRe o1, fun r hr => by
    have := sp_rb2_Re hRe o2 r hr
    omega, fun r hr => by
    unfold sp_bG
    split
    · exact hi1.1.2.2.2 r hr
    · exact hi1.1.2.2.2 r hr⟩
  have hIv : ma_Iv (t + 1) (ma_sh x' 0 (sp_bF (x'.1 2 0 0) (x'.1 2 3 0)) (sp_bG (x'.1 2 3 0 1) (x'.1 4 0) (x'.1 4 3))) (ma_mh m S' T') := by
    have hsm : ma_sm m (ma_mh m (fun q => if q = 40 ∨ q = 41 ∨ q = 42 ∨ q = 43 then S' q else m.1 20 0 0 q) (ma_G m)) := ⟨fun k hk => by
      rw [ma_mh_F]
      exact if_neg (by omega), fun k r a b => by rw [ma_mh_A]; rfl, rfl⟩
    have h := ma_Iv_hill (F := sp_bF (x'.1 2 0 0) (x'.1 2 3 0)) (G := sp_bG (x'.1 2 3 0 1) (x'.1 4 0) (x'.1 4 3)) (S := S') (T := T') (Nat.le_succ t) (ma_Iv_m hsm hi1) hH (by
      have e1 : sp_bF (x'.1 2 0 0) (x'.1 2 3 0) 1 = x'.1 2 3 0 1 := rfl
      rw [e1, ← p3.1 1 (by omega) (by omega), o3, p2.1]
      exact Int.le_refl _) (fun k hk => by
      rw [ma_mh_F]
      show S' k = if k = 40 ∨ k = 41 ∨ k = 42 ∨ k = 43 then S' k else m.1 20 0 0 k
      split
      · rfl
      · exact q4 k hk (by omega) (by omega) (by omega) (by omega)) (fun r k hk => by rw [ma_mh_G]; exact q5 r k hk)
    rw [ma_mh_mh] at h
    exact h
  refine ⟨some (vI (nI R.1)), _, _, ?_, ?_, hIv⟩
  · simp only [bk_89_0, bk_89_4, bk_89_7, bk_89_14, bk_89_17, bk_89_23, bk_89_24, bk_89_38, bk_89_53, cx_isRule, cx_isIn, c1, c2, c3, and_self, p1, hbec, ↓reduceIte, ma_bd_some, ma_bd_none, ma_tl1, ma_tl0, ma_ap1, ma_ap0, b2i_0, b2i_1, b2i_01, ma_l10, ma_l01, eq_self, true_or, or_true, not_true_eq_false, not_false_eq_true, Bool.false_eq_true]
  · simp only [bk_189_0, bk_189_5, bk_189_8, bk_189_13, bk_189_19, bk_189_25, bk_189_26, bk_189_32, cm_isRule, c1, ma_nlt w 1, c2, c3, q1, ma_mh_F, q3, ↓reduceIte, ma_bd_some, ma_bd_none, ma_tl1, ma_tl0, ma_ap1, ma_ap0, b2i_0, b2i_1, b2i_01, ma_l10, ma_l01, eq_self, true_or, or_true, not_true_eq_false, not_false_eq_true, Bool.false_eq_true]
