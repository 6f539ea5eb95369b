/-! PART 75: call: hill. -/
theorem ma_Iv_fault {t : Nat} {x m : ma_S} (v : Int32) (hi : ma_Iv t x m) : ma_Iv t (ma_u x 1 0 0 10 v) (ma_u m 20 0 0 9 v) := by
  obtain ⟨h1, h2, h3, h4, h5, h6⟩ := hi
  have gx : ∀ g, g ≠ 1 → (ma_u x 1 0 0 10 v).1 g = x.1 g := fun g a => ma_u_g a _ _ _ _ _
  have gm : ∀ k, k ≠ 9 → (ma_u m 20 0 0 9 v).1 20 0 0 k = m.1 20 0 0 k := fun k a => by rw [ma_u_k, if_neg a]
  have g50 : (ma_u m 20 0 0 9 v).1 50 = m.1 50 := ma_u_g (by decide) _ _ _ _ _
  have x2 : (ma_u x 1 0 0 10 v).2 = x.2 := rfl
  have m2 : (ma_u m 20 0 0 9 v).2 = m.2 := rfl
  have x10 : (ma_u x 1 0 0 10 v).1 1 0 0 10 = v := by rw [ma_u_k, if_pos rfl]
  have x3 : (ma_u x 1 0 0 10 v).1 1 0 0 3 = x.1 1 0 0 3 := by rw [ma_u_k, if_neg (by decide)]
  have m9 : (ma_u m 20 0 0 9 v).1 20 0 0 9 = v := by rw [ma_u_k, if_pos rfl]
  unfold ma_Iv
  rw [gx 2 (by decide), gx 4 (by decide), gx 16 (by decide), gx 13 (by decide), gx 50 (by decide), g50, x2, m2, x10, x3, m9, gm 46 (by decide), gm 45 (by decide)]
  exact ⟨ma_IvH_S h1 (fun k a c => gm k (by omega)) (fun r k a c => by unfold ma_G; rw [g50]), h2, h3, h4, h5, rfl, h6.2⟩
def sp_Lk (f old : Nat → Int32) (k : Nat) : Nat → Int32 := fun j => if j < k then f j else old j
theorem sp_Lk_0 (f old : Nat → Int32) : sp_Lk f old 0 = old := by funext j; unfold sp_Lk; rw [if_neg (by omega)]
theorem sp_Lk_s (f old : Nat → Int32) (k : Nat) : upd (sp_Lk f old k) k (f k) = sp_Lk f old (k + 1) := by
  funext j
  unfold upd sp_Lk
  by_cases c : j = k
  · subst c; rw [if_pos rfl, if_pos (by omega)]
  · rw [if_neg c]
    by_cases c2 : j < k
    · rw [if_pos c2, if_pos (by omega)]
    · rw [if_neg c2, if_neg (by omega)]
theorem ma_rd_16 (x : ma_S) (R L F : Nat → Int32) (G : Nat → Nat → Int32) (s k : Nat) : (ma_rd x R L F G).1 16 s 0 k = x.1 16 s 0 k := by simp [ma_rd]
theorem cx_letters (d Z s : Nat) (x : ma_S) (R old F : Nat → Int32) (G : Nat → Nat → Int32) (hs : s < 8) (hz : x.1 16 s 0 2 = nI Z) (h160 : Z ≤ 160) (hZ : R 2 = nI Z) : ∀ c k, k + c = Z → ma_ex (d + 2) 24 18 [some (vR 7 0 0), some (vR 2 0 0), some (vR 16 s 0), some (vI (nI k))] [] (ma_rd x R (sp_Lk (fun j => Int64.toInt32 (x.2 s j)) old k) F G) = ma_ex (d + 2) 24 43 [some (vR 7 0 0), some (vR 2 0 0), some (vR 16 s 0), some (vI (nI Z))] [] (ma_rd x R (sp_Lk (fun j => Int64.toInt32 (x.2 s j)) old Z) F G) := by
  intro c
  induction c with
  | zero =>
    intro k h
    have e : k = Z := by omega
    subst e
    rw [bk_24_18, ma_rd_R, hZ, if_pos (nI_le (Nat.le_refl _) (by omega))]
  | succ c ih =>
    intro k h
    have hki := nI_toInt (n := k) (by omega)
    have hZi := nI_toInt (n := Z) (by omega)
    have hin : ma_in (nI k) 160 := ma_inI (by omega) (by omega)
    have hcl : (nI k).toNatClampNeg = k := nI_clamp (by omega)
    have ha := cx_asInt d s (nI k) (ma_rd x R (sp_Lk (fun j => Int64.toInt32 (x.2 s j)) old k) F G) hs (by rw [ma_rd_16, hz]; omega)
    have e2 : (ma_rd x R (sp_Lk (fun j => Int64.toInt32 (x.2 s j)) old k) F G).2 = x.2 := rfl
    rw [ma_rd_16, hz, if_pos ⟨nI_pos' (by omega), nI_lt (by omega) (by omega)⟩, hcl, e2] at ha
    have la : ma_la 120 = 160 := rfl
    have hst := sp_Lk_s (fun j => Int64.toInt32 (x.2 s j)) old k
    rw [← ih (k + 1) (by omega), bk_24_18, ma_rd_R, hZ, if_neg (nI_ge (by omega) (by omega))]
    simp only [bk_24_26, bk_24_36, ha, la, ma_if_pos hin, hcl, ma_rd_uL, hst, nI_1, ↓reduceIte, ma_bd_some, ma_bd_none, ma_tl1, ma_tl0, ma_ap1, ma_ap0, b2i_0, b2i_1, b2i_01, ma_l10, ma_l01, eq_self, true_or, or_true, not_true_eq_false, not_false_eq_true, Bool.false_eq_true]
theorem sp_lt_Lk (f g old : Nat → Int32) (Z p : Nat) : sp_lt (sp_Lk f old Z) Z p = sp_lt f Z p := by
  unfold sp_lt sp_Lk
  by_cases c : p < Z
  · rw [if_pos c, if_pos c, if_pos c]
  · rw [if_neg c, if_neg c]
/-- all items -/
def sp_loS (x m : ma_S) (L F S : Nat → Int32) (T : Nat → Nat → Int32) (B : Int) (cx cm : Option ma_R) : Prop := ∃ (j : Nat) (R' F' : Nat → Int32) (G' : Nat → Nat → Int32) (S' : Nat → Int32) (T' : Nat → Nat → Int32), cx = some (some (vI (nI j)), ma_rd x R' L F' G') ∧ R' 4 = -1 ∧ cm = some (some (vI (nI j)), ma_mh m S' T') ∧ sp_frS S S' ∧ sp_frT T T' ∧ sp_HR B F' G' S' T' ∧ (F 1).toInt ≤ (F' 1).toInt
def sp_loF (x m : ma_S) (L S : Nat → Int32) (T : Nat → Nat → Int32) (cx : Option ma_R) (cm : Option ma_R) (d : Nat) (sv q : Int32) : Prop := ∃ (p : Nat) (c n : Int32) (R' F' : Nat → Int32) (G' : Nat → Nat → Int32) (S' : Nat → Int32) (T' : Nat → Nat → Int32), p < 1000 ∧ cx = some (some (vI c), ma_rd x R' L F' G') ∧ R' 4 = nI p ∧ cm = ma_ex d 145 141 [some (vR 20 0 0), some (vI sv), some (vI q), some (vI n), some (vI 0)] [] (ma_mh m S' T') ∧ S' 30 = nI p ∧ sp_frS S S' ∧ sp_frT T T'
theorem sp_frS_t {S S' S'' : Nat → Int32} (h : sp_frS S S') (h' : sp_frS S' S'') : sp_frS S S'' := fun q a b c e => (h' q a b c e).trans (h q a b c e)
theorem hill_loop (d e Z s : Nat) (B : Int) (x m : ma_S) (L F0 S0 : Nat → Int32) (T0 : Nat → Nat → Int32) (sv q : Int32) (sh : Nat) (hB : 0 ≤ B ∧ B + 200 ≤ 1000000) : ∀ (c a j : Nat) (R F S : Nat → Int32) (G T : Nat → Nat → Int32), a + c = Z → j ≤ a → R 2 = nI Z → R 3 = nI a → R 4 = -1 → sp_MT m L Z s S T → S 27 = nI a → sp_HR (B + a) F G S T → sp_frS S0 S → sp_frT T0 T → (F0 1).toInt ≤ (F 1).toInt → sp_loS x m L F0 S0 T0 (B + 161) (ma_ex (d + 6) 24 59 [some (vR 7 0 0), some (vR 2 0 0), some (vR 16 sh 0), some (vI (nI j))] [] (ma_rd x R L F G)) (ma_ex (e + 6) 145 63 [some (vR 20 0 0), some (vI sv), some (vI q), some (vI (nI j)), some (vI 1)] [] (ma_mh m S T)) ∨ sp_loF x m L S0 T0 (ma_ex (d + 6) 24 59 [some (vR 7 0 0), some (vR 2 0 0), some (vR 16 sh 0), some (vI (nI j))] [] (ma_rd x R L F G)) (ma_ex (e + 6) 145 63 [some (vR 20 0 0), some (vI sv), some (vI q), some (vI (nI j)), some (vI 1)] [] (ma_mh m S T)) (e + 6) sv q := by
  intro c
  induction c using Nat.strongRecOn with
  | _ c ih =>
  intro a j R F S G T hac hj h2 h3 h4 hM h27 hH hfS hfT hFm
  have h160 : Z ≤ 160 := hM.2.2.1
  obtain ⟨g1, g2, g3, g4, g5, g6⟩ := id hM
  have n10 : ((1 : Int32) = 0) = False := by decide
  by_cases hz : a < Z
  · have cz : (nI Z ≤ nI a) = False := eq_false (nI_ge hz (by omega))
    have cj : (nI Z < nI j) = False := eq_false (nI_nlt (by omega) (by omega))
    obtain ⟨k1, k2⟩ := sp_MTc hM a hz
    have hex := cx_expect (d + 4) Z x L F G R a 59 h2 h160 (by omega) h3 h4
    by_cases h59 : sp_lt L Z a = 59
    · rw [if_pos h59] at hex
      have h59' := eq_true h59
      have hM1 : sp_MT m L Z s (upd S 27 (nI (a + 1))) T := sp_MT_S hM rfl rfl
      have hH1 : sp_HR (B + a) F G (upd S 27 (nI (a + 1))) T := sp_HR_S hH (fun k a1 a2 => by unfold upd; rw [if_neg (by omega)]) (fun _ _ _ _ => rfl)
      have pre : ma_ex (d + 6) 24 59 [some (vR 7 0 0), some (vR 2 0 0), some (vR 16 sh 0), some (vI (nI j))] [] (ma_rd x R L F G) = ma_bd (ma_cal (d + 6) 25 [vR 7 0 0] (ma_rd x (upd R 3 (nI (a + 1))) L F G)) (fun v σ' => ma_ex (d + 6) 24 96 [some (vR 7 0 0), some (vR 2 0 0), some (vR 16 sh 0), some (vI (nI j))] (Option.toList v ++ []) σ') := by
        rw [bk_24_59]
        simp only [bk_24_67, bk_24_78, bk_24_86, bk_24_92, ma_rd_R, h4, h2, h3, cz, cj, hex, ↓reduceIte, ma_bd_some, ma_bd_none, ma_tl1, ma_tl0, ma_ap1, ma_ap0, b2i_0, b2i_1, b2i_01, ma_l10, ma_l01, eq_self, true_or, or_true, not_true_eq_false, not_false_eq_true, Bool.false_eq_true]
      have prm : ma_ex (e + 6) 145 63 [some (vR 20 0 0), some (vI sv), some (vI q), some (vI (nI j)), some (vI 1)] [] (ma_mh m S T) = ma_bd (ma_cal (e + 6) 142 [vR 20 0 0] (ma_mh m (upd S 27 (nI (a + 1))) T)) (fun v σ' => ma_ex (e + 6) 145 129 [some (vR 20 0 0), some (vI sv), some (vI q), some (vI (nI j + 1)), some (vI 1)] (Option.toList v ++ []) σ') := by
        rw [bk_145_63]
        simp only [bk_145_68, bk_145_79, bk_145_112, ma_mh_F, ma_mh_J, n10, g1, g2, h27, cz, nI_add, ma_if_pos k1, k2, h59', ma_mh_uF, nI_1, ↓reduceIte, ma_bd_some, ma_bd_none, ma_tl1, ma_tl0, ma_ap1, ma_ap0, b2i_0, b2i_1, b2i_01, ma_l10, ma_l01, eq_self, true_or, or_true, not_true_eq_false, not_false_eq_true, Bool.false_eq_true]
      have u9 : sp_frS S (upd S 27 (nI (a + 1))) := fun q' a1 a2 a3 a4 => by unfold upd; rw [if_neg a2]
      rcases item_sim d e Z s (a + 1) (B + a) x m L (upd R 3 (nI (a + 1))) F (upd S 27 (nI (a + 1))) G T (by omega) (by omega) h2 rfl h4 hM1 rfl hH1 with ⟨p, R', F', G', S', T', p0, i1, i2, i3, i4, i5, i6, i7⟩ | ⟨a', R', F', G', S', T', p0, p1, i1, i2, i3, i4, i5, i6, i7, i8, i9, i10⟩
      · right
        refine ⟨p, nI j + 1, nI j + 1, R', F', G', S', T', p0, ?_, i3, ?_, i5, sp_frS_t hfS (sp_frS_t u9 i6), sp_frT_t hfT i7⟩
        · have c4 : (R' 4 = -1) = False := eq_false (by rw [i3]; exact nI_n1 (by omega))
          rw [pre, i1]
          simp only [bk_24_96, bk_24_59, bk_24_102, ma_rd_R, c4, ↓reduceIte, ma_bd_some, ma_bd_none, ma_tl1, ma_tl0, ma_ap1, ma_ap0, b2i_0, b2i_1, b2i_01, ma_l10, ma_l01, eq_self, true_or, or_true, not_true_eq_false, not_false_eq_true, Bool.false_eq_true]
        · rw [prm, i4]
          simp only [bk_145_129, bk_145_63, bk_145_134, ↓reduceIte, ma_bd_some, ma_bd_none, ma_tl1, ma_tl0, ma_ap1, ma_ap0, b2i_0, b2i_1, b2i_01, ma_l10, ma_l01, eq_self, true_or, or_true, not_true_eq_false, not_false_eq_true, Bool.false_eq_true]
      · have hM' : sp_MT m L Z s S' T' := sp_MT_T Z s m L (sp_MT_S hM1 (i7 26 (by omega) (by omega) (by omega) (by omega)) (i7 28 (by omega) (by omega) (by omega) (by omega))) (fun r q hq => i8 r q (by omega) (by omega))
        have hrec := ih (Z - a') (by omega) a' (j + 1) R' F' S' G' T' (by omega) (by omega) i2 i4 i3 hM' i6 (sp_HR_B (by omega) i9) (sp_frS_t hfS (sp_frS_t u9 i7)) (sp_frT_t hfT i8) (by omega)
        have e1 : ma_ex (d + 6) 24 59 [some (vR 7 0 0), some (vR 2 0 0), some (vR 16 sh 0), some (vI (nI j))] [] (ma_rd x R L F G) = ma_ex (d + 6) 24 59 [some (vR 7 0 0), some (vR 2 0 0), some (vR 16 sh 0), some (vI (nI (j + 1)))] [] (ma_rd x R' L F' G') := by
          rw [pre, i1, ma_bd_some, ma_tl0, ma_ap0, bk_24_96, nI_1]
        have e2 : ma_ex (e + 6) 145 63 [some (vR 20 0 0), some (vI sv), some (vI q), some (vI (nI j)), some (vI 1)] [] (ma_mh m S T) = ma_ex (e + 6) 145 63 [some (vR 20 0 0), some (vI sv), some (vI q), some (vI (nI (j + 1))), some (vI 1)] [] (ma_mh m S' T') := by
          rw [prm, i5, ma_bd_some, ma_tl1, ma_ap1, bk_145_129, nI_1]
        rw [e1, e2]
        exact hrec
    · right
      rw [if_neg h59] at hex
      have h59' := eq_false h59
      have nna := nI_n1 (f := a) (by omega)
      have c4 : (upd (upd R 4 (nI a)) 3 (nI (a + 1)) 4 = -1) = False := eq_false nna
      refine ⟨a, nI j + 1, nI j, upd (upd R 4 (nI a)) 3 (nI (a + 1)), F, G, upd S 30 (nI a), T, by omega, ?_, rfl, ?_, rfl, sp_frS_t hfS (fun q' a1 a2 a3 a4 => by unfold upd; rw [if_neg a4]), hfT⟩
      · rw [bk_24_59]
        simp only [bk_24_67, bk_24_78, bk_24_86, bk_24_92, en_25, bk_25_0, bk_25_8, bk_24_96, ma_rd_R, h4, h2, h3, cz, cj, hex, c4, ↓reduceIte, ma_bd_some, ma_bd_none, ma_tl1, ma_tl0, ma_ap1, ma_ap0, b2i_0, b2i_1, b2i_01, ma_l10, ma_l01, eq_self, true_or, or_true, not_true_eq_false, not_false_eq_true, Bool.false_eq_true]
        rw [bk_24_59, ma_rd_R, if_neg (of_eq_false c4), bk_24_102]
      · rw [bk_145_63]
        simp only [bk_145_68, bk_145_79, bk_145_99, bk_145_107, ma_mh_F, ma_mh_J, n10, g1, g2, h27, cz, nI_add, ma_if_pos k1, k2, h59', cm_wrong, ↓reduceIte, ma_bd_some, ma_bd_none, ma_tl1, ma_tl0, ma_ap1, ma_ap0, b2i_0, b2i_1, b2i_01, ma_l10, ma_l01, eq_self, true_or, or_true, not_true_eq_false, not_false_eq_true, Bool.false_eq_true]
        rw [bk_145_63, if_pos rfl, bk_145_134, if_pos rfl]
  · left
    have cz : (nI Z ≤ nI a) = True := eq_true (nI_le (by omega) (by omega))
    refine ⟨j, R, F, G, S, T, ?_, h4, ?_, hfS, hfT, sp_HR_B (by omega) hH, hFm⟩
    · rw [bk_24_59]
      simp only [bk_24_67, bk_24_102, ma_rd_R, h4, h2, h3, cz, ↓reduceIte, ma_bd_some, ma_bd_none, ma_tl1, ma_tl0, ma_ap1, ma_ap0, b2i_0, b2i_1, b2i_01, ma_l10, ma_l01, eq_self, true_or, or_true, not_true_eq_false, not_false_eq_true, Bool.false_eq_true]
    · rw [bk_145_63]
      simp only [bk_145_68, bk_145_134, bk_145_139, ma_mh_F, n10, g2, h27, cz, ↓reduceIte, ma_bd_some, ma_bd_none, ma_tl1, ma_tl0, ma_ap1, ma_ap0, b2i_0, b2i_1, b2i_01, ma_l10, ma_l01, eq_self, true_or, or_true, not_true_eq_false, not_false_eq_true, Bool.false_eq_true]
