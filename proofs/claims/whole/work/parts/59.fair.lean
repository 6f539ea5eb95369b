/-! PART 59: call: fair. -/
def sp_mxr (T : Nat → Nat → Int32) : Nat → Nat → Int32 → Int32
  | 0, _, b => b
  | c + 1, k, b => sp_mxr T c (k + 1) (if b < T k 5 then T k 5 else b)
def sp_mnr (T : Nat → Nat → Int32) : Nat → Nat → Int32 → Int32
  | 0, _, b => b
  | c + 1, k, b => sp_mnr T c (k + 1) (if T k 5 < b then T k 5 else b)
def sp_fa (T : Nat → Nat → Int32) (n : Nat) : Int32 := sp_mxr T (n - 1) 1 (T 0 5) - sp_mnr T (n - 1) 1 (T 0 5)
theorem sp_mxr_congr {T U : Nat → Nat → Int32} {n : Nat} (h : ∀ r, r < n → T r 5 = U r 5) : ∀ c k b, k + c = n → sp_mxr T c k b = sp_mxr U c k b := by
  intro c
  induction c with
  | zero => intro k b _; rfl
  | succ c ih =>
    intro k b hk
    show sp_mxr T c (k + 1) _ = sp_mxr U c (k + 1) _
    rw [h k (by omega)]
    exact ih _ _ (by omega)
theorem sp_mnr_congr {T U : Nat → Nat → Int32} {n : Nat} (h : ∀ r, r < n → T r 5 = U r 5) : ∀ c k b, k + c = n → sp_mnr T c k b = sp_mnr U c k b := by
  intro c
  induction c with
  | zero => intro k b _; rfl
  | succ c ih =>
    intro k b hk
    show sp_mnr T c (k + 1) _ = sp_mnr U c (k + 1) _
    rw [h k (by omega)]
    exact ih _ _ (by omega)
theorem sp_fa_congr {T U : Nat → Nat → Int32} {n : Nat} (h0 : 0 < n) (h : ∀ r, r < n → T r 5 = U r 5) : sp_fa T n = sp_fa U n := by
  unfold sp_fa
  rw [sp_mxr_congr h (n - 1) 1 _ (by omega), sp_mnr_congr h (n - 1) 1 _ (by omega), h 0 h0]
theorem sp_mxr_b {T : Nat → Nat → Int32} {n : Nat} {B : Int} (h : ∀ r, r < n → 0 ≤ (T r 5).toInt ∧ (T r 5).toInt ≤ B) : ∀ c k b, k + c = n → b.toInt ≤ B → b.toInt ≤ (sp_mxr T c k b).toInt ∧ (sp_mxr T c k b).toInt ≤ B := by
  intro c
  induction c with
  | zero => intro k b _ h2; exact ⟨Int.le_refl _, h2⟩
  | succ c ih =>
    intro k b hk h2
    have hb := h k (by omega)
    show b.toInt ≤ (sp_mxr T c (k + 1) _).toInt ∧ (sp_mxr T c (k + 1) _).toInt ≤ B
    by_cases c1 : b < T k 5
    · rw [if_pos c1]
      have := ih (k + 1) (T k 5) (by omega) hb.2
      rw [ma_lt] at c1
      exact ⟨by omega, this.2⟩
    · rw [if_neg c1]
      exact ih (k + 1) b (by omega) h2
theorem sp_mnr_b {T : Nat → Nat → Int32} {n : Nat} {B : Int} (h : ∀ r, r < n → 0 ≤ (T r 5).toInt ∧ (T r 5).toInt ≤ B) : ∀ c k b, k + c = n → 0 ≤ b.toInt → 0 ≤ (sp_mnr T c k b).toInt ∧ (sp_mnr T c k b).toInt ≤ b.toInt := by
  intro c
  induction c with
  | zero => intro k b _ h2; exact ⟨h2, Int.le_refl _⟩
  | succ c ih =>
    intro k b hk h2
    have hb := h k (by omega)
    show 0 ≤ (sp_mnr T c (k + 1) _).toInt ∧ (sp_mnr T c (k + 1) _).toInt ≤ b.toInt
    by_cases c1 : T k 5 < b
    · rw [if_pos c1]
      have := ih (k + 1) (T k 5) (by omega) hb.1
      rw [ma_lt] at c1
      exact ⟨this.1, by omega⟩
    · rw [if_neg c1]
      exact ih (k + 1) b (by omega) h2
theorem sp_fa_b {T : Nat → Nat → Int32} {n : Nat} {B : Int} (hB : B < 100000000) (h0 : 0 < n) (h : ∀ r, r < n → 0 ≤ (T r 5).toInt ∧ (T r 5).toInt ≤ B) : 0 ≤ (sp_fa T n).toInt ∧ (sp_fa T n).toInt ≤ B := by
  have hb := h 0 h0
  have a := sp_mxr_b h (n - 1) 1 (T 0 5) (by omega) hb.2
  have b := sp_mnr_b h (n - 1) 1 (T 0 5) (by omega) hb.1
  unfold sp_fa
  rw [ma_sub (by omega) (by omega)]
  omega
theorem cx_apart_loop (d i n : Nat) (σ : ma_S) (hF : σ.1 2 i 0 1 = nI n) (hn : n ≤ 4) : ∀ (c k : Nat) (a b : Int32), k + c = n → ma_ex d 8 14 [some (vR 2 i 0), some (vI a), some (vI b), some (vI (nI k))] [] σ = some (some (vI (sp_mxr (σ.1 4 i) c k a - sp_mnr (σ.1 4 i) c k b)), σ) := by
  intro c
  induction c with
  | zero =>
    intro k a b h
    rw [bk_8_14, hF, if_pos (nI_le (by omega) (by omega)), bk_8_56]
    rfl
  | succ c ih =>
    intro k a b h
    have hin : ma_in (nI k) 4 := sp_nIin (n := n) (by omega) hn
    rw [bk_8_14, hF, if_neg (nI_ge (by omega) (by omega)), bk_8_22, ma_if_pos hin, ma_if_pos hin, nI_clamp (by omega), nI_1, ih _ _ _ (by omega)]
    rfl
theorem cx_apart (d i n : Nat) (σ : ma_S) (hF : σ.1 2 i 0 1 = nI n) (hn : n ≤ 4) (h0 : 0 < n) : ma_cal (d + 1) 8 [vR 2 i 0] σ = some (some (vI (sp_fa (σ.1 4 i) n)), σ) := by
  have hin : ma_in (0 : Int32) 4 := ⟨by decide, by decide⟩
  have z0 : Int32.toNatClampNeg 0 = 0 := by decide
  have h := cx_apart_loop d i n σ hF hn (n - 1) 1 (σ.1 4 i 0 5) (σ.1 4 i 0 5) (by omega)
  rw [en_8, bk_8_0, ma_if_pos hin, z0]
  exact h
theorem cm_fair_loop (d n : Nat) (v : Int32) (σ : ma_S) (S : Nat → Int32) (T : Nat → Nat → Int32) (hF : S 1 = nI n) (hn : n ≤ 4) : ∀ (c k : Nat) (a b : Int32), k + c = n → ∃ z : Int32, ma_ex d 174 35 [some (vR 20 0 0), some (vI v), some (vI b), some (vI a), some (vI (nI k))] [] (ma_mh σ S T) = ma_ex d 174 96 [some (vR 20 0 0), some (vI v), some (vI (sp_mnr T c k b)), some (vI (sp_mxr T c k a)), some (vI z)] [] (ma_mh σ S T) := by
  intro c
  induction c with
  | zero =>
    intro k a b h
    refine ⟨nI k, ?_⟩
    rw [bk_174_35, ma_mh_F, hF, if_pos (nI_le (by omega) (by omega))]
    rfl
  | succ c ih =>
    intro k a b h
    have hin : ma_in (nI k) 4 := sp_nIin (n := n) (by omega) hn
    have hcl : (nI k).toNatClampNeg = k := nI_clamp (by omega)
    obtain ⟨z, hz⟩ := ih (k + 1) (if a < T k 5 then T k 5 else a) (if T k 5 < b then T k 5 else b) (by omega)
    refine ⟨z, ?_⟩
    have e1 : sp_mnr T (c + 1) k b = sp_mnr T c (k + 1) (if T k 5 < b then T k 5 else b) := rfl
    have e2 : sp_mxr T (c + 1) k a = sp_mxr T c (k + 1) (if a < T k 5 then T k 5 else a) := rfl
    rw [e1, e2, ← hz, bk_174_35, ma_mh_F, hF, if_neg (nI_ge (by omega) (by omega))]
    rcases Classical.propComplete (b ≤ T k 5) with c1 | c1 <;> rcases Classical.propComplete (T k 5 ≤ a) with c2 | c2
    all_goals simp only [bk_174_0, bk_174_10, bk_174_18, bk_174_44, bk_174_55, bk_174_65, bk_174_66, bk_174_78, bk_174_88, bk_174_89, bk_174_96, bk_174_106, ma_if_pos hin, hcl, ma_mh_A, ma_nlt a (T k 5), ma_nlt (T k 5) b, c1, c2, nI_1, ↓reduceIte, ma_bd_some, ma_bd_none, ma_tl1, ma_tl0, ma_ap1, ma_ap0, b2i_0, b2i_1, b2i_01, ma_l10, ma_l01, eq_self, true_or, or_true, not_true_eq_false, not_false_eq_true, Bool.false_eq_true]
theorem cm_fairOf (d t n ρ : Nat) (v : Int32) (x m : ma_S) (ht : t < 1000) (hi : ma_Iv t x m) (hρ : ρ ≤ 3) (hv : v = nI ρ) (hn : n ≤ 4) (h0 : 0 < n) (hF : x.1 2 0 0 1 = nI n) : ∃ m', ma_cal (d + 8) 174 [vR 20 0 0, vI v] m = some (some (vI (sp_fa (sp_R ρ false (-1) n 300 (x.1 2 0 0) (x.1 4 0)).2.2 n)), m') ∧ ma_sm m m' := by
  obtain ⟨S', T', mB, q1, q2, q3, q4, q5, q6⟩ := mplay d t n ρ false (-1) v x m ht hi hρ (fun z => absurd z Bool.false_ne_true) (by rw [if_neg Bool.false_ne_true]; exact hv) hn hF
  rw [if_neg Bool.false_ne_true] at q1
  have hni := nI_toInt (n := n) (by omega)
  have hk := ma_Iv_ok hi
  obtain ⟨o1, o2, o3, o4⟩ := sp_R_ok (ρ := ρ) (n := n) (l := false) (lf := -1) (M := 300) (by omega) ht hk hi.1.2.2.1
  generalize sp_R ρ false (-1) n 300 (x.1 2 0 0) (x.1 4 0) = R at q2 q3 o1 o2 o3 o4 ⊢
  have hR1 : R.2.1 1 = nI n := o3.trans hF
  have hS1 : S' 1 = nI n := (q2.1 1 (by omega) (by omega)).symm.trans hR1
  have hin : ma_in (0 : Int32) 4 := ⟨by decide, by decide⟩
  have z0 : Int32.toNatClampNeg 0 = 0 := by decide
  obtain ⟨z, hz⟩ := cm_fair_loop (d + 7) n v m S' T' hS1 hn (n - 1) 1 (T' 0 5) (T' 0 5) (by omega)
  have hfa : sp_fa R.2.2 n = sp_fa T' n := sp_fa_congr h0 (fun r hr => q2.2 r (by rw [hR1, hni]; omega) 5 (by omega) (by omega))
  have z1 : nI 1 = 1 := rfl
  rw [z1] at hz
  refine ⟨mB, ?_, q5⟩
  rw [hfa, en_174]
  simp only [bk_174_0, bk_174_10, bk_174_18, bk_174_96, bk_174_106, q6, q1, ma_if_pos hin, z0, ma_mh_A, hz, q4, ↓reduceIte, ma_bd_some, ma_bd_none, ma_tl1, ma_tl0, ma_ap1, ma_ap0, b2i_0, b2i_1, b2i_01, ma_l10, ma_l01, eq_self, true_or, or_true, not_true_eq_false, not_false_eq_true, Bool.false_eq_true]
  rfl
theorem op_fair (d t : Nat) (x m : ma_S) (v : Int32) (ht : t < 1000) (hi : ma_Iv t x m) : ma_Op (d + 9) 79 175 [vI v] t x m := by
  obtain ⟨n, hn, hF, hFm⟩ := ma_Iv_n hi
  have hni := nI_toInt (n := n) (by omega)
  have hk := ma_Iv_ok hi
  unfold ma_Op
  rw [en_79, en_175]
  rcases Classical.propComplete (nI n = 0) with c0 | c0
  · refine ⟨some (vI (-5)), sp_rx x (-5), sp_rm m (-5), ?_, ?_, ma_Iv_no sp_isb5 (ma_Iv_s hi)⟩
    · simp only [bk_79_0, bk_79_10, bk_79_16, bk_79_17, bk_79_21, bk_79_24, bk_79_30, bk_79_31, bk_79_47, bk_79_58, hF, c0, cx_refuse _ _ _ sp_isb5, ↓reduceIte, ma_bd_some, ma_bd_none, ma_tl1, ma_tl0, ma_ap1, ma_ap0, b2i_0, b2i_1, b2i_01, ma_l10, ma_l01, eq_self, true_or, or_true, not_true_eq_false, not_false_eq_true, Bool.false_eq_true]
    · simp only [bk_175_0, bk_175_7, bk_175_13, bk_175_14, bk_175_19, bk_175_22, bk_175_27, bk_175_30, bk_175_36, hFm, c0, cm_no _ _ _ sp_isb5, ↓reduceIte, ma_bd_some, ma_bd_none, ma_tl1, ma_tl0, ma_ap1, ma_ap0, b2i_0, b2i_1, b2i_01, ma_l10, ma_l01, eq_self, true_or, or_true, not_true_eq_false, not_false_eq_true, Bool.false_eq_true]
  have hn0 : 0 < n := by
    rcases Nat.eq_zero_or_pos n with e | e
    · subst e; exact (c0.mp nI_0).elim
    · exact e
  rcases Classical.propComplete (0 ≤ v ∧ v < 4) with c1 | c1
  case inr =>
    refine ⟨some (vI (-6)), sp_rx x (-6), sp_rm m (-6), ?_, ?_, ma_Iv_no sp_isb6 (ma_Iv_s hi)⟩
    · simp only [bk_79_0, bk_79_10, bk_79_16, bk_79_17, bk_79_21, bk_79_24, bk_79_30, bk_79_31, bk_79_47, bk_79_58, hF, c0, cx_isRule, c1, cx_refuse _ _ _ sp_isb6, ↓reduceIte, ma_bd_some, ma_bd_none, ma_tl1, ma_tl0, ma_ap1, ma_ap0, b2i_0, b2i_1, b2i_01, ma_l10, ma_l01, eq_self, true_or, or_true, not_true_eq_false, not_false_eq_true, Bool.false_eq_true]
    · simp only [bk_175_0, bk_175_7, bk_175_13, bk_175_14, bk_175_19, bk_175_22, bk_175_27, bk_175_30, bk_175_36, hFm, c0, cm_isRule, c1, cm_no _ _ _ sp_isb6, ↓reduceIte, ma_bd_some, ma_bd_none, ma_tl1, ma_tl0, ma_ap1, ma_ap0, b2i_0, b2i_1, b2i_01, ma_l10, ma_l01, eq_self, true_or, or_true, not_true_eq_false, not_false_eq_true, Bool.false_eq_true]
  obtain ⟨ρ, hρ, hv⟩ := sp_rule (of_eq_true c1)
  obtain ⟨m', hm1, hm2⟩ := cm_fairOf d t n ρ v x m ht hi hρ hv hn hn0 hF
  obtain ⟨x', p1, p2, p3⟩ := cx_play (d + 1) n ρ 300 false hρ (by omega) v 300 (-1) hv rfl (by rw [eq_true rfl, eq_true rfl]) x hn hk hF
  obtain ⟨o1, o2, o3, o4⟩ := sp_R_ok (ρ := ρ) (n := n) (l := false) (lf := -1) (M := 300) (by omega) ht hk hi.1.2.2.1
  generalize sp_R ρ false (-1) n 300 (x.1 2 0 0) (x.1 4 0) = R at p1 p3 o1 o2 o3 o4 hm1
  have hR1 : R.2.1 1 = nI n := o3.trans hF
  have hx1 : x'.1 2 3 0 1 = nI n := (p3.1 1 (by omega) (by omega)).symm.trans hR1
  have ha := cx_apart (d + 7) 3 n x' hx1 hn hn0
  have hfa : sp_fa R.2.2 n = sp_fa (x'.1 4 3) n := sp_fa_congr hn0 (fun r hr => p3.2 r (by rw [hR1, hni]; omega) 5 (by omega) (by omega))
  rw [← hfa] at ha
  refine ⟨some (vI (sp_fa R.2.2 n)), x', m', ?_, ?_, ma_Iv_m hm2 (ma_Iv_x p2 (ma_Iv_s hi))⟩
  · simp only [bk_79_0, bk_79_10, bk_79_16, bk_79_17, bk_79_21, bk_79_24, bk_79_30, bk_79_31, bk_79_47, bk_79_58, hF, c0, cx_isRule, c1, p1, ha, ↓reduceIte, ma_bd_some, ma_bd_none, ma_tl1, ma_tl0, ma_ap1, ma_ap0, b2i_0, b2i_1, b2i_01, ma_l10, ma_l01, eq_self, true_or, or_true, not_true_eq_false, not_false_eq_true, Bool.false_eq_true]
  · simp only [bk_175_0, bk_175_7, bk_175_13, bk_175_14, bk_175_19, bk_175_22, bk_175_27, bk_175_30, bk_175_36, hFm, c0, cm_isRule, c1, hm1, ↓reduceIte, ma_bd_some, ma_bd_none, ma_tl1, ma_tl0, ma_ap1, ma_ap0, b2i_0, b2i_1, b2i_01, ma_l10, ma_l01, eq_self, true_or, or_true, not_true_eq_false, not_false_eq_true, Bool.false_eq_true]
