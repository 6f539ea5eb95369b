/-! PART 73: HILLS from texts: the class's item, word by word. -/
section CI
variable (d Z : Nat) (x : ma_S) (L F : Nat → Int32) (G : Nat → Nat → Int32)
theorem cx_item_none (R : Nat → Int32) (a : Nat) (ha : a < 400) (hZ : R 2 = nI Z) (h160 : Z ≤ 160) (h3 : R 3 = nI a) (h4 : R 4 = -1) (h : (sp_rw L Z a 8 0 0).1 = -1) : ma_cal (d + 6) 25 [vR 7 0 0] (ma_rd x R L F G) = some (none, ma_rd x (upd R 4 (nI (a + (sp_rw L Z a 8 0 0).2))) L F G) := by
  have hw := cx_readWord d Z a x L F G R hZ h160 (by omega) h3
  rw [if_pos h, h] at hw
  rw [en_25]
  simp (decide := true) only [bk_25_0, bk_25_9, bk_25_18, bk_25_230, ma_rd_R, h4, hw, ↓reduceIte, ma_bd_some, ma_bd_none, ma_tl1, ma_tl0, ma_ap1, ma_ap0, b2i_0, b2i_1, b2i_01, ma_l10, ma_l01, eq_self, true_or, or_true, not_true_eq_false, not_false_eq_true, Bool.false_eq_true]
def sp_pcw (w : Nat) : Nat := [64, 72, 80, 88, 125, 143, 160, 191].getD w 0
theorem cx_item_word (R : Nat → Int32) (a w0 : Nat) (ha : a < 400) (hZ : R 2 = nI Z) (h160 : Z ≤ 160) (h3 : R 3 = nI a) (h4 : R 4 = -1) (hw : w0 < 8) (h : sp_same L Z a w0 = ma_lw w0) : ma_cal (d + 6) 25 [vR 7 0 0] (ma_rd x R L F G) = ma_ex (d + 5) 25 (sp_pcw w0) [some (vR 7 0 0), some (vI (nI a)), none] [] (ma_rd x (upd R 3 (nI (a + ma_lw w0))) L F G) := by
  have hwd := cx_readWord d Z a x L F G R hZ h160 (by omega) h3
  obtain ⟨g1, -⟩ := sp_rw_some (L := L) (Z := Z) (a := a) hw h 8 0 0 (Nat.zero_le _) (by omega) (by omega)
  have hne := nI_ne1 (j := w0) (by omega)
  have hwd2 : ma_cal (d + 5) 29 [vR 7 0 0] (ma_rd x R L F G) = some (some (vI (nI w0)), ma_rd x (upd R 3 (nI (a + ma_lw w0))) L F G) := by
    rw [hwd, g1]
    show some (some (vI (nI w0)), ma_rd x (if nI w0 = -1 then _ else upd R 3 (nI (a + ma_lw w0))) L F G) = _
    rw [if_neg (of_eq_false hne)]
  rw [en_25]
  rcases w0 with _|_|_|_|_|_|_|_|w
  all_goals first
    | omega
    | (simp (decide := true) only [bk_25_0, bk_25_9, ma_rd_R, h4, h3, hwd2, ↓reduceIte, ma_bd_some, ma_bd_none, ma_tl1, ma_tl0, ma_ap1, ma_ap0, b2i_0, b2i_1, b2i_01, ma_l10, ma_l01, eq_self, true_or, or_true, not_true_eq_false, not_false_eq_true, Bool.false_eq_true]
       simp (decide := true) only [bk_25_18, ↓reduceIte, ma_bd_some, ma_bd_none, ma_tl1, ma_tl0, ma_ap1, ma_ap0, b2i_0, b2i_1, b2i_01, ma_l10, ma_l01, eq_self, true_or, or_true, not_true_eq_false, not_false_eq_true, Bool.false_eq_true]
       rfl)
theorem nI_n1 {f : Nat} (h : f < 100000) : nI f ≠ -1 := fun e => by
  have h1 := nI_toInt (n := f) (by omega)
  rw [e] at h1
  have : (-1 : Int32).toInt = -1 := rfl
  omega
/-- top, foot -/
theorem cx_place (R : Nat → Int32) (a n : Nat) (wh : Int32) (ha : a < 450) (hZ : R 2 = nI Z) (h160 : Z ≤ 160) (h3 : R 3 = nI a) (h4 : R 4 = -1) (hF : F 1 = nI n) (hn : n ≤ 4) : (∀ f, sp_rn L Z 0 (nI n - 1) a = .inl f → ∃ R', ma_cal (d + 4) 27 [vR 7 0 0, vI wh] (ma_rd x R L F G) = some (none, ma_rd x R' L F G) ∧ R' 2 = nI Z ∧ R' 4 = nI f) ∧ (∀ p v, sp_rn L Z 0 (nI n - 1) a = .inr (p, v) → ∃ R', ma_cal (d + 4) 27 [vR 7 0 0, vI wh] (ma_rd x R L F G) = some (none, ma_rd x R' L F (ma_uG G v.toNatClampNeg (upd (G v.toNatClampNeg) 3 wh))) ∧ R' 2 = nI Z ∧ R' 4 = -1 ∧ R' 3 = nI p) := by
  obtain ⟨r1, r2⟩ := cx_readNumber d Z x L F G R a 0 (nI n - 1) hZ h160 (by omega) h3 h4
  have hni := nI_toInt (n := n) (by omega)
  have e1 : (1 : Int32).toInt = 1 := rfl
  have e0 : (0 : Int32).toInt = 0 := rfl
  refine ⟨fun f e => ?_, fun p v e => ?_⟩
  · obtain ⟨R', i1, i2, i3⟩ := r1 f e
    refine ⟨R', ?_, i2, i3⟩
    have c0 : (0 ≤ (-1 : Int32) ∧ (-1 : Int32) < nI n) = False := eq_false (fun z => absurd z.1 (by decide))
    rw [en_27]
    simp only [bk_27_0, bk_27_14, bk_27_23, bk_27_26, bk_27_39, ma_rd_Fk, hF, i1, cx_has, c0, ↓reduceIte, ma_bd_some, ma_bd_none, ma_tl1, ma_tl0, ma_ap1, ma_ap0, b2i_0, b2i_1, b2i_01, ma_l10, ma_l01, eq_self, true_or, or_true, not_true_eq_false, not_false_eq_true, Bool.false_eq_true]
  · obtain ⟨R', i1, i2, i3, i4, -⟩ := r2 p v e
    obtain ⟨_, _, _, l1, l2, l3, _, _, _⟩ := sp_rn_in e
    have l2' := ma_le.mp l2
    rw [ma_sub (by omega) (by omega)] at l2'
    have c0 : (0 ≤ v ∧ v < nI n) = True := eq_true ⟨l1, by rw [ma_lt]; omega⟩
    have hin : ma_in v 4 := ma_inI (by omega) (by omega)
    refine ⟨R', ?_, i2, i3, i4⟩
    rw [en_27]
    simp only [bk_27_0, bk_27_14, bk_27_23, bk_27_26, bk_27_39, ma_rd_Fk, hF, i1, cx_has, c0, ma_if_pos hin, ma_rd_uG, ↓reduceIte, ma_bd_some, ma_bd_none, ma_tl1, ma_tl0, ma_ap1, ma_ap0, b2i_0, b2i_1, b2i_01, ma_l10, ma_l01, eq_self, true_or, or_true, not_true_eq_false, not_false_eq_true, Bool.false_eq_true]
/-- a rider -/
theorem cx_readRider (R : Nat → Int32) (a n : Nat) (bg : Int32) (ha : a < 300) (hZ : R 2 = nI Z) (h160 : Z ≤ 160) (h3 : R 3 = nI a) (h4 : R 4 = -1) (hF : F 1 = nI n) (hn : n < 4) : (∀ f, sp_rn L Z 0 6 a = .inl f → ∃ R', ma_cal (d + 4) 26 [vR 7 0 0, vI bg] (ma_rd x R L F G) = some (none, ma_rd x R' L F G) ∧ R' 2 = nI Z ∧ R' 4 = nI f) ∧ (∀ p v, sp_rn L Z 0 6 a = .inr (p, v) → (∀ f, sp_rn L Z 0 9 p = .inl f → ∃ R', ma_cal (d + 4) 26 [vR 7 0 0, vI bg] (ma_rd x R L F G) = some (none, ma_rd x R' L F G) ∧ R' 2 = nI Z ∧ R' 4 = nI f) ∧ (∀ p2 v2, sp_rn L Z 0 9 p = .inr (p2, v2) → ∃ R', ma_cal (d + 4) 26 [vR 7 0 0, vI bg] (ma_rd x R L F G) = some (none, ma_rd x R' L (upd F 1 (nI (n + 1))) (ma_uG G n (sp_newR v v2 (G n)))) ∧ R' 2 = nI Z ∧ R' 4 = -1 ∧ R' 3 = nI p2)) := by
  obtain ⟨r1, r2⟩ := cx_readNumber d Z x L F G R a 0 6 hZ h160 (by omega) h3 h4
  have hroom : (nI n < 4) = True := eq_true (by rw [ma_lt, nI_toInt (by omega)]; have : (4 : Int32).toInt = 4 := rfl; omega)
  refine ⟨fun f e => ?_, fun p v e => ?_⟩
  · obtain ⟨R', i1, i2, i3⟩ := r1 f e
    have hf8 : f < 100000 := by
      have := sp_rn_f e
      omega
    have h4' : R' 4 ≠ -1 := by rw [i3]; exact nI_n1 hf8
    have i5 := cx_readNumber_f d x L F G R' 0 9 h4'
    have c4 : (upd R' 3 (R' 3 + 1) 4 = -1) = False := eq_false h4'
    refine ⟨upd R' 3 (R' 3 + 1), ?_, i2, i3⟩
    rw [en_26]
    simp only [bk_26_0, bk_26_7, bk_26_10, bk_26_15, bk_26_22, bk_26_30, bk_26_39, bk_26_48, bk_26_49, cx_hasRoom, ma_rd_Fk, hF, hroom, i1, i5, ma_rd_R, c4, ↓reduceIte, ma_bd_some, ma_bd_none, ma_tl1, ma_tl0, ma_ap1, ma_ap0, b2i_0, b2i_1, b2i_01, ma_l10, ma_l01, eq_self, true_or, or_true, not_true_eq_false, not_false_eq_true, Bool.false_eq_true]
  · obtain ⟨R', i1, i2, i3, i4, -⟩ := r2 p v e
    have hin := sp_rn_in e
    obtain ⟨t1, t2⟩ := cx_readNumber d Z x L F G R' p 0 9 i2 h160 (by omega) i4 i3
    refine ⟨fun f ef => ?_, fun p2 v2 ef => ?_⟩
    · obtain ⟨R2, j1, j2, j3⟩ := t1 f ef
      have hf8 : f < 100000 := by
        have := sp_rn_f ef
        omega
      have c4 : (R2 4 = -1) = False := eq_false (by rw [j3]; exact nI_n1 hf8)
      refine ⟨R2, ?_, j2, j3⟩
      rw [en_26]
      simp only [bk_26_0, bk_26_7, bk_26_10, bk_26_15, bk_26_22, bk_26_30, bk_26_39, bk_26_48, bk_26_49, cx_hasRoom, ma_rd_Fk, hF, hroom, i1, j1, ma_rd_R, c4, ↓reduceIte, ma_bd_some, ma_bd_none, ma_tl1, ma_tl0, ma_ap1, ma_ap0, b2i_0, b2i_1, b2i_01, ma_l10, ma_l01, eq_self, true_or, or_true, not_true_eq_false, not_false_eq_true, Bool.false_eq_true]
    · obtain ⟨R2, j1, j2, j3, j4, -⟩ := t2 p2 v2 ef
      have ha2 := cx_addRider d 4 n v v2 (ma_rd x R2 L F G) (by rw [ma_rd_Fk]; exact hF) hn
      rw [ma_rd_F, ma_rd_G, ma_rd_sh] at ha2
      refine ⟨R2, ?_, j2, j3, j4⟩
      rw [en_26]
      simp only [bk_26_0, bk_26_7, bk_26_10, bk_26_15, bk_26_22, bk_26_30, bk_26_39, bk_26_48, bk_26_49, cx_hasRoom, ma_rd_Fk, hF, hroom, i1, j1, ma_rd_R, j3, ha2, ↓reduceIte, ma_bd_some, ma_bd_none, ma_tl1, ma_tl0, ma_ap1, ma_ap0, b2i_0, b2i_1, b2i_01, ma_l10, ma_l01, eq_self, true_or, or_true, not_true_eq_false, not_false_eq_true, Bool.false_eq_true]
theorem cx_readRider_full (R : Nat → Int32) (bg : Nat) (hbg : bg < 100000) (h4 : F 1 = 4) : ∃ R', ma_cal (d + 4) 26 [vR 7 0 0, vI (nI bg)] (ma_rd x R L F G) = some (none, ma_rd x R' L F G) ∧ R' 2 = R 2 ∧ R' 4 = nI bg := by
  have e1 : upd R 4 (nI bg) 4 ≠ -1 := nI_n1 hbg
  have i1 := cx_readNumber_f d x L F G (upd R 4 (nI bg)) 0 6 e1
  have i2 := cx_readNumber_f d x L F G (upd (upd R 4 (nI bg)) 3 (upd R 4 (nI bg) 3 + 1)) 0 9 e1
  have c4 : (upd (upd (upd R 4 (nI bg)) 3 (upd R 4 (nI bg) 3 + 1)) 3 (upd (upd R 4 (nI bg)) 3 (upd R 4 (nI bg) 3 + 1) 3 + 1) 4 = -1) = False := eq_false e1
  have c44 : ((4 : Int32) < 4) = False := by decide
  refine ⟨upd (upd (upd R 4 (nI bg)) 3 (upd R 4 (nI bg) 3 + 1)) 3 (upd (upd R 4 (nI bg)) 3 (upd R 4 (nI bg) 3 + 1) 3 + 1), ?_, rfl, rfl⟩
  rw [en_26]
  simp only [bk_26_0, bk_26_7, bk_26_10, bk_26_15, bk_26_22, bk_26_30, bk_26_39, bk_26_48, bk_26_49, cx_hasRoom, ma_rd_Fk, h4, c44, ma_rd_uR, i1, i2, ma_rd_R, c4, ↓reduceIte, ma_bd_some, ma_bd_none, ma_tl1, ma_tl0, ma_ap1, ma_ap0, b2i_0, b2i_1, b2i_01, ma_l10, ma_l01, eq_self, true_or, or_true, not_true_eq_false, not_false_eq_true, Bool.false_eq_true]
/-- from the words on: top, foot -/
theorem cx_w12 (R : Nat → Int32) (a n w : Nat) (u1 : Int32) (hw : w = 1 ∨ w = 2) (ha : a < 450) (hZ : R 2 = nI Z) (h160 : Z ≤ 160) (h3 : R 3 = nI a) (h4 : R 4 = -1) (hF : F 1 = nI n) (hn : n ≤ 4) : (∀ f, sp_rn L Z 0 (nI n - 1) a = .inl f → ∃ R', ma_ex (d + 5) 25 (sp_pcw w) [some (vR 7 0 0), some (vI u1), none] [] (ma_rd x R L F G) = some (none, ma_rd x R' L F G) ∧ R' 2 = nI Z ∧ R' 4 = nI f) ∧ (∀ p v, sp_rn L Z 0 (nI n - 1) a = .inr (p, v) → ∃ R', ma_ex (d + 5) 25 (sp_pcw w) [some (vR 7 0 0), some (vI u1), none] [] (ma_rd x R L F G) = some (none, ma_rd x R' L F (ma_uG G v.toNatClampNeg (upd (G v.toNatClampNeg) 3 (if w = 1 then 1 else 0)))) ∧ R' 2 = nI Z ∧ R' 4 = -1 ∧ R' 3 = nI p) := by
  have z1 : sp_pcw 1 = 72 := rfl
  have z2 : sp_pcw 2 = 80 := rfl
  rcases hw with rfl | rfl
  · obtain ⟨r1, r2⟩ := cx_place (d + 1) Z x L F G R a n 1 ha hZ h160 h3 h4 hF hn
    refine ⟨fun f e => ?_, fun p v e => ?_⟩
    · obtain ⟨R', i1, i2, i3⟩ := r1 f e
      exact ⟨R', by rw [z1]; simp only [bk_25_72, bk_25_77, bk_25_230, i1, ↓reduceIte, ma_bd_some, ma_bd_none, ma_tl1, ma_tl0, ma_ap1, ma_ap0, b2i_0, b2i_1, b2i_01, ma_l10, ma_l01, eq_self, true_or, or_true, not_true_eq_false, not_false_eq_true, Bool.false_eq_true], i2, i3⟩
    · obtain ⟨R', i1, i2, i3, i4⟩ := r2 p v e
      exact ⟨R', by rw [z1, if_pos rfl]; simp only [bk_25_72, bk_25_77, bk_25_230, i1, ↓reduceIte, ma_bd_some, ma_bd_none, ma_tl1, ma_tl0, ma_ap1, ma_ap0, b2i_0, b2i_1, b2i_01, ma_l10, ma_l01, eq_self, true_or, or_true, not_true_eq_false, not_false_eq_true, Bool.false_eq_true], i2, i3, i4⟩
  · obtain ⟨r1, r2⟩ := cx_place (d + 1) Z x L F G R a n 0 ha hZ h160 h3 h4 hF hn
    refine ⟨fun f e => ?_, fun p v e => ?_⟩
    · obtain ⟨R', i1, i2, i3⟩ := r1 f e
      exact ⟨R', by rw [z2]; simp only [bk_25_80, bk_25_85, bk_25_230, i1, ↓reduceIte, ma_bd_some, ma_bd_none, ma_tl1, ma_tl0, ma_ap1, ma_ap0, b2i_0, b2i_1, b2i_01, ma_l10, ma_l01, eq_self, true_or, or_true, not_true_eq_false, not_false_eq_true, Bool.false_eq_true], i2, i3⟩
    · obtain ⟨R', i1, i2, i3, i4⟩ := r2 p v e
      exact ⟨R', by rw [z2, if_neg (by omega)]; simp only [bk_25_80, bk_25_85, bk_25_230, i1, ↓reduceIte, ma_bd_some, ma_bd_none, ma_tl1, ma_tl0, ma_ap1, ma_ap0, b2i_0, b2i_1, b2i_01, ma_l10, ma_l01, eq_self, true_or, or_true, not_true_eq_false, not_false_eq_true, Bool.false_eq_true], i2, i3, i4⟩
/-- minutes, pennies -/
theorem cx_w45 (R : Nat → Int32) (a w : Nat) (u1 : Int32) (hw : w = 4 ∨ w = 5) (ha : a < 450) (hZ : R 2 = nI Z) (h160 : Z ≤ 160) (h3 : R 3 = nI a) (h4 : R 4 = -1) : (∀ f, sp_rn L Z 0 (if w = 4 then 999 else 99) a = .inl f → ∃ R' F', ma_ex (d + 5) 25 (sp_pcw w) [some (vR 7 0 0), some (vI u1), none] [] (ma_rd x R L F G) = some (none, ma_rd x R' L F' G) ∧ R' 2 = nI Z ∧ R' 4 = nI f) ∧ (∀ p v, sp_rn L Z 0 (if w = 4 then 999 else 99) a = .inr (p, v) → ∃ R', ma_ex (d + 5) 25 (sp_pcw w) [some (vR 7 0 0), some (vI u1), none] [] (ma_rd x R L F G) = some (none, ma_rd x R' L (upd F w v) G) ∧ R' 2 = nI Z ∧ R' 4 = -1 ∧ R' 3 = nI p) := by
  have z1 : sp_pcw 4 = 125 := rfl
  have z2 : sp_pcw 5 = 143 := rfl
  rcases hw with rfl | rfl
  · obtain ⟨r1, r2⟩ := cx_readNumber (d + 2) Z x L F G R a 0 999 hZ h160 (by omega) h3 h4
    rw [if_pos rfl]
    refine ⟨fun f e => ?_, fun p v e => ?_⟩
    · obtain ⟨R', i1, i2, i3⟩ := r1 f e
      exact ⟨R', upd F 4 (-1), by rw [z1]; simp only [bk_25_125, bk_25_137, bk_25_230, i1, ma_rd_uF, ↓reduceIte, ma_bd_some, ma_bd_none, ma_tl1, ma_tl0, ma_ap1, ma_ap0, b2i_0, b2i_1, b2i_01, ma_l10, ma_l01, eq_self, true_or, or_true, not_true_eq_false, not_false_eq_true, Bool.false_eq_true], i2, i3⟩
    · obtain ⟨R', i1, i2, i3, i4, -⟩ := r2 p v e
      exact ⟨R', by rw [z1]; simp only [bk_25_125, bk_25_137, bk_25_230, i1, ma_rd_uF, ↓reduceIte, ma_bd_some, ma_bd_none, ma_tl1, ma_tl0, ma_ap1, ma_ap0, b2i_0, b2i_1, b2i_01, ma_l10, ma_l01, eq_self, true_or, or_true, not_true_eq_false, not_false_eq_true, Bool.false_eq_true], i2, i3, i4⟩
  · obtain ⟨r1, r2⟩ := cx_readNumber (d + 2) Z x L F G R a 0 99 hZ h160 (by omega) h3 h4
    rw [if_neg (by omega)]
    refine ⟨fun f e => ?_, fun p v e => ?_⟩
    · obtain ⟨R', i1, i2, i3⟩ := r1 f e
      exact ⟨R', upd F 5 (-1), by rw [z2]; simp only [bk_25_143, bk_25_154, bk_25_230, i1, ma_rd_uF, ↓reduceIte, ma_bd_some, ma_bd_none, ma_tl1, ma_tl0, ma_ap1, ma_ap0, b2i_0, b2i_1, b2i_01, ma_l10, ma_l01, eq_self, true_or, or_true, not_true_eq_false, not_false_eq_true, Bool.false_eq_true], i2, i3⟩
    · obtain ⟨R', i1, i2, i3, i4, -⟩ := r2 p v e
      exact ⟨R', by rw [z2]; simp only [bk_25_143, bk_25_154, bk_25_230, i1, ma_rd_uF, ↓reduceIte, ma_bd_some, ma_bd_none, ma_tl1, ma_tl0, ma_ap1, ma_ap0, b2i_0, b2i_1, b2i_01, ma_l10, ma_l01, eq_self, true_or, or_true, not_true_eq_false, not_false_eq_true, Bool.false_eq_true], i2, i3, i4⟩
/-- a move -/
theorem cx_w7 (R : Nat → Int32) (a : Nat) (u1 : Int32) (ha : a < 450) (hZ : R 2 = nI Z) (h160 : Z ≤ 160) (h3 : R 3 = nI a) (h4 : R 4 = -1) (hk : sp_ok F G) : (∀ f, sp_rn L Z 0 999 a = .inl f → ∃ R', ma_ex (d + 5) 25 (sp_pcw 7) [some (vR 7 0 0), some (vI u1), none] [] (ma_rd x R L F G) = some (none, ma_rd x R' L F G) ∧ R' 2 = nI Z ∧ R' 4 = nI f) ∧ (∀ p v, sp_rn L Z 0 999 a = .inr (p, v) → (sp_may F G v ≠ true → ∃ R', ma_ex (d + 5) 25 (sp_pcw 7) [some (vR 7 0 0), some (vI u1), none] [] (ma_rd x R L F G) = some (none, ma_rd x R' L F G) ∧ R' 2 = nI Z ∧ R' 4 = nI (a + 1)) ∧ (sp_may F G v = true → ∃ R', ma_ex (d + 5) 25 (sp_pcw 7) [some (vR 7 0 0), some (vI u1), none] [] (ma_rd x R L F G) = some (none, ma_rd x R' L (sp_mvF F G v) (sp_mvG F G v)) ∧ R' 2 = nI Z ∧ R' 4 = -1 ∧ R' 3 = nI p)) := by
  have z1 : sp_pcw 7 = 191 := rfl
  obtain ⟨r1, r2⟩ := cx_readNumber (d + 2) Z x L F G R a 0 999 hZ h160 (by omega) h3 h4
  rw [z1]
  refine ⟨fun f e => ?_, fun p v e => ?_⟩
  · obtain ⟨R', i1, i2, i3⟩ := r1 f e
    have hf8 : f < 100000 := by
      have := sp_rn_f e
      omega
    have c4 : (R' 4 = -1) = False := eq_false (by rw [i3]; exact nI_n1 hf8)
    exact ⟨R', by simp only [bk_25_191, bk_25_199, bk_25_230, i1, ma_rd_R, c4, ↓reduceIte, ma_bd_some, ma_bd_none, ma_tl1, ma_tl0, ma_ap1, ma_ap0, b2i_0, b2i_1, b2i_01, ma_l10, ma_l01, eq_self, true_or, or_true, not_true_eq_false, not_false_eq_true, Bool.false_eq_true], i2, i3⟩
  · obtain ⟨R', i1, i2, i3, i4, i5⟩ := r2 p v e
    have hmk := cx_make (d + 1) 4 v (ma_rd x R' L F G) (by rw [ma_rd_F, ma_rd_G]; exact hk)
    rw [ma_rd_F, ma_rd_G, ma_rd_sh] at hmk
    refine ⟨fun c => ?_, fun c => ?_⟩
    · rw [if_neg c] at hmk
      exact ⟨upd R' 4 (nI (a + 1)), by simp only [bk_25_191, bk_25_199, bk_25_208, bk_25_216, bk_25_219, bk_25_230, i1, ma_rd_R, i3, i5, hmk, ma_rd_uR, ↓reduceIte, ma_bd_some, ma_bd_none, ma_tl1, ma_tl0, ma_ap1, ma_ap0, b2i_0, b2i_1, b2i_01, ma_l10, ma_l01, eq_self, true_or, or_true, not_true_eq_false, not_false_eq_true, Bool.false_eq_true], i2, rfl⟩
    · rw [if_pos c] at hmk
      exact ⟨R', by simp only [bk_25_191, bk_25_199, bk_25_208, bk_25_216, bk_25_230, i1, ma_rd_R, i3, hmk, ↓reduceIte, ma_bd_some, ma_bd_none, ma_tl1, ma_tl0, ma_ap1, ma_ap0, b2i_0, b2i_1, b2i_01, ma_l10, ma_l01, eq_self, true_or, or_true, not_true_eq_false, not_false_eq_true, Bool.false_eq_true], i2, i3, i4⟩
/-- sledges -/
theorem cx_w3 (R : Nat → Int32) (a : Nat) (u1 : Int32) (ha : a < 300) (hZ : R 2 = nI Z) (h160 : Z ≤ 160) (h3 : R 3 = nI a) (h4 : R 4 = -1) : (∀ f, sp_rn L Z 0 3 a = .inl f → ∃ R' F', ma_ex (d + 5) 25 (sp_pcw 3) [some (vR 7 0 0), some (vI u1), none] [] (ma_rd x R L F G) = some (none, ma_rd x R' L F' G) ∧ R' 2 = nI Z ∧ R' 4 = nI f) ∧ (∀ p v, sp_rn L Z 0 3 a = .inr (p, v) → (∀ f, sp_rn L Z 0 (3 - v) p = .inl f → ∃ R' F', ma_ex (d + 5) 25 (sp_pcw 3) [some (vR 7 0 0), some (vI u1), none] [] (ma_rd x R L F G) = some (none, ma_rd x R' L F' G) ∧ R' 2 = nI Z ∧ R' 4 = nI f) ∧ (∀ p2 v2, sp_rn L Z 0 (3 - v) p = .inr (p2, v2) → ∃ R', ma_ex (d + 5) 25 (sp_pcw 3) [some (vR 7 0 0), some (vI u1), none] [] (ma_rd x R L F G) = some (none, ma_rd x R' L (upd (upd F 2 v) 3 v2) G) ∧ R' 2 = nI Z ∧ R' 4 = -1 ∧ R' 3 = nI p2)) := by
  have z1 : sp_pcw 3 = 88 := rfl
  obtain ⟨r1, r2⟩ := cx_readNumber (d + 2) Z x L F G R a 0 3 hZ h160 (by omega) h3 h4
  rw [z1]
  refine ⟨fun f e => ?_, fun p v e => ?_⟩
  · obtain ⟨R', i1, i2, i3⟩ := r1 f e
    have hf8 : f < 100000 := by
      have := sp_rn_f e
      omega
    have h4' : R' 4 ≠ -1 := by rw [i3]; exact nI_n1 hf8
    have u2 : upd F 2 (-1) 2 = -1 := rfl
    have i5 := cx_readNumber_f (d + 2) x L (upd F 2 (-1)) G R' 0 (3 - -1) h4'
    exact ⟨upd R' 3 (R' 3 + 1), upd (upd F 2 (-1)) 3 (-1), by simp only [bk_25_88, bk_25_98, bk_25_119, bk_25_230, i1, ma_rd_uF, ma_rd_Fk, u2, i5, ↓reduceIte, ma_bd_some, ma_bd_none, ma_tl1, ma_tl0, ma_ap1, ma_ap0, b2i_0, b2i_1, b2i_01, ma_l10, ma_l01, eq_self, true_or, or_true, not_true_eq_false, not_false_eq_true, Bool.false_eq_true], i2, i3⟩
  · obtain ⟨R', i1, i2, i3, i4, -⟩ := r2 p v e
    have hin := sp_rn_in e
    have u2 : upd F 2 v 2 = v := rfl
    obtain ⟨t1, t2⟩ := cx_readNumber (d + 2) Z x L (upd F 2 v) G R' p 0 (3 - v) i2 h160 (by omega) i4 i3
    refine ⟨fun f ef => ?_, fun p2 v2 ef => ?_⟩
    · obtain ⟨R2, j1, j2, j3⟩ := t1 f ef
      exact ⟨R2, upd (upd F 2 v) 3 (-1), by simp only [bk_25_88, bk_25_98, bk_25_119, bk_25_230, i1, ma_rd_uF, ma_rd_Fk, u2, j1, ↓reduceIte, ma_bd_some, ma_bd_none, ma_tl1, ma_tl0, ma_ap1, ma_ap0, b2i_0, b2i_1, b2i_01, ma_l10, ma_l01, eq_self, true_or, or_true, not_true_eq_false, not_false_eq_true, Bool.false_eq_true], j2, j3⟩
    · obtain ⟨R2, j1, j2, j3, j4, -⟩ := t2 p2 v2 ef
      exact ⟨R2, by simp only [bk_25_88, bk_25_98, bk_25_119, bk_25_230, i1, ma_rd_uF, ma_rd_Fk, u2, j1, ↓reduceIte, ma_bd_some, ma_bd_none, ma_tl1, ma_tl0, ma_ap1, ma_ap0, b2i_0, b2i_1, b2i_01, ma_l10, ma_l01, eq_self, true_or, or_true, not_true_eq_false, not_false_eq_true, Bool.false_eq_true], j2, j3, j4⟩
/-- hill -/
theorem cx_w6 (R : Nat → Int32) (a : Nat) (u1 : Int32) (ha : a < 300) (hZ : R 2 = nI Z) (h160 : Z ≤ 160) (h3 : R 3 = nI a) (h4 : R 4 = -1) : (∀ f, sp_rn L Z 1 9 a = .inl f → ∃ R' F', ma_ex (d + 5) 25 (sp_pcw 6) [some (vR 7 0 0), some (vI u1), none] [] (ma_rd x R L F G) = some (none, ma_rd x R' L F' G) ∧ R' 2 = nI Z ∧ R' 4 = nI f) ∧ (∀ p v, sp_rn L Z 1 9 a = .inr (p, v) → (∀ f, sp_rn L Z 1 9 p = .inl f → ∃ R' F', ma_ex (d + 5) 25 (sp_pcw 6) [some (vR 7 0 0), some (vI u1), none] [] (ma_rd x R L F G) = some (none, ma_rd x R' L F' G) ∧ R' 2 = nI Z ∧ R' 4 = nI f) ∧ (∀ p2 v2, sp_rn L Z 1 9 p = .inr (p2, v2) → ∃ R', ma_ex (d + 5) 25 (sp_pcw 6) [some (vR 7 0 0), some (vI u1), none] [] (ma_rd x R L F G) = some (none, ma_rd x R' L (upd (upd F 6 v) 7 v2) G) ∧ R' 2 = nI Z ∧ R' 4 = -1 ∧ R' 3 = nI p2)) := by
  have z1 : sp_pcw 6 = 160 := rfl
  obtain ⟨r1, r2⟩ := cx_readNumber (d + 2) Z x L F G R a 1 9 hZ h160 (by omega) h3 h4
  rw [z1]
  refine ⟨fun f e => ?_, fun p v e => ?_⟩
  · obtain ⟨R', i1, i2, i3⟩ := r1 f e
    have hf8 : f < 100000 := by
      have := sp_rn_f e
      omega
    have h4' : R' 4 ≠ -1 := by rw [i3]; exact nI_n1 hf8
    have i5 := cx_readNumber_f (d + 2) x L (upd F 6 (-1)) G R' 1 9 h4'
    exact ⟨upd R' 3 (R' 3 + 1), upd (upd F 6 (-1)) 7 (-1), by simp only [bk_25_160, bk_25_171, bk_25_185, bk_25_230, i1, ma_rd_uF, i5, ↓reduceIte, ma_bd_some, ma_bd_none, ma_tl1, ma_tl0, ma_ap1, ma_ap0, b2i_0, b2i_1, b2i_01, ma_l10, ma_l01, eq_self, true_or, or_true, not_true_eq_false, not_false_eq_true, Bool.false_eq_true], i2, i3⟩
  · obtain ⟨R', i1, i2, i3, i4, -⟩ := r2 p v e
    have hin := sp_rn_in e
    obtain ⟨t1, t2⟩ := cx_readNumber (d + 2) Z x L (upd F 6 v) G R' p 1 9 i2 h160 (by omega) i4 i3
    refine ⟨fun f ef => ?_, fun p2 v2 ef => ?_⟩
    · obtain ⟨R2, j1, j2, j3⟩ := t1 f ef
      exact ⟨R2, upd (upd F 6 v) 7 (-1), by simp only [bk_25_160, bk_25_171, bk_25_185, bk_25_230, i1, ma_rd_uF, j1, ↓reduceIte, ma_bd_some, ma_bd_none, ma_tl1, ma_tl0, ma_ap1, ma_ap0, b2i_0, b2i_1, b2i_01, ma_l10, ma_l01, eq_self, true_or, or_true, not_true_eq_false, not_false_eq_true, Bool.false_eq_true], j2, j3⟩
    · obtain ⟨R2, j1, j2, j3, j4, -⟩ := t2 p2 v2 ef
      exact ⟨R2, by simp only [bk_25_160, bk_25_171, bk_25_185, bk_25_230, i1, ma_rd_uF, j1, ↓reduceIte, ma_bd_some, ma_bd_none, ma_tl1, ma_tl0, ma_ap1, ma_ap0, b2i_0, b2i_1, b2i_01, ma_l10, ma_l01, eq_self, true_or, or_true, not_true_eq_false, not_false_eq_true, Bool.false_eq_true], j2, j3, j4⟩
end CI
