/-! PART 40: calls: status. -/
def sp_bits (W : Nat → Int32) : Nat → Int32
  | 0 => 0
  | k + 1 => sp_bits W k ||| (W k <<< (nI k &&& 31))
theorem sp_bits_congr {f g : Nat → Int32} : ∀ n, (∀ r, r < n → f r = g r) → sp_bits f n = sp_bits g n := by
  intro n
  induction n with
  | zero => intro _; rfl
  | succ n ih =>
    intro h
    show sp_bits f n ||| (f n <<< (nI n &&& 31)) = sp_bits g n ||| (g n <<< (nI n &&& 31))
    rw [ih (fun r hr => h r (by omega)), h n (by omega)]
theorem cx_atTop_loop (d i n : Nat) (σ : ma_S) (hF : σ.1 2 i 0 1 = nI n) (hn : n ≤ 4) (hW : ∀ r, r < n → σ.1 4 i r 3 = 0 ∨ σ.1 4 i r 3 = 1) :
    ∀ c k, n - k = c → k ≤ n → ma_ex d 5 4 [some (vR 2 i 0), some (vI (sp_bits (fun r => σ.1 4 i r 3) k)), some (vI (nI k))] [] σ = some (some (vI (sp_bits (fun r => σ.1 4 i r 3) n)), σ) := by
  intro c
  induction c with
  | zero =>
    intro k hj hk
    have : k = n := by omega
    subst this
    rw [bk_5_4, if_pos (by rw [hF]; exact nI_le (Nat.le_refl _) (by omega)), bk_5_37]
  | succ c ih =>
    intro k hj hk
    have hlt : k < n := by omega
    have hs : sp_bits (fun r => σ.1 4 i r 3) (k + 1) = sp_bits (fun r => σ.1 4 i r 3) k ||| (σ.1 4 i k 3 <<< (nI k &&& 31)) := rfl
    have hih := ih (k + 1) (by omega) (by omega)
    rw [hs, nI_succ] at hih
    rw [← hih, bk_5_4, if_neg (by rw [hF]; exact nI_ge hlt (by omega)), bk_5_12, ma_if_pos (sp_nIin hlt hn), nI_clamp (by omega)]
    rcases hW k hlt with e | e
    · rw [e, if_neg (by decide), bk_5_31, Int32.zero_shiftLeft, Int32.or_zero]
    · rw [e, if_pos rfl, bk_5_25, bk_5_31]
theorem cx_atTop (d i n : Nat) (σ : ma_S) (hF : σ.1 2 i 0 1 = nI n) (hn : n ≤ 4) (hW : ∀ r, r < n → σ.1 4 i r 3 = 0 ∨ σ.1 4 i r 3 = 1) : ma_cal (d + 1) 5 [vR 2 i 0] σ = some (some (vI (sp_bits (fun r => σ.1 4 i r 3) n)), σ) := by
  rw [en_5, bk_5_0, ← cx_atTop_loop d i n σ hF hn hW n 0 (by omega) (by omega), nI_0]
  rfl
theorem cm_bits_loop (d n : Nat) (w : Int32) (σ : ma_S) (hF : σ.1 20 0 0 1 = nI n) (hn : n ≤ 4) :
    ∀ c k, n - k = c → k ≤ n → ma_ex d 202 91 [some (vR 20 0 0), some (vI w), some (vI (sp_bits (fun r => σ.1 50 3 0 r) k)), some (vI (nI k))] [] σ = some (some (vI (sp_bits (fun r => σ.1 50 3 0 r) n)), σ) := by
  intro c
  induction c with
  | zero =>
    intro k hj hk
    have : k = n := by omega
    subst this
    rw [bk_202_91, if_pos (by rw [hF]; exact nI_le (Nat.le_refl _) (by omega)), bk_202_116]
  | succ c ih =>
    intro k hj hk
    have hlt : k < n := by omega
    have hs : sp_bits (fun r => σ.1 50 3 0 r) (k + 1) = sp_bits (fun r => σ.1 50 3 0 r) k ||| (σ.1 50 3 0 k <<< (nI k &&& 31)) := rfl
    have hih := ih (k + 1) (by omega) (by omega)
    rw [hs, nI_succ] at hih
    rw [← hih, bk_202_91, if_neg (by rw [hF]; exact nI_ge hlt (by omega)), bk_202_99, ma_if_pos (sp_nIin hlt hn), nI_clamp (by omega)]
theorem op_status (d t : Nat) (x m : ma_S) (w : Int32) (hi : ma_Iv t x m) : ma_Op (d + 3) 97 202 [vI w] t x m := by
  unfold ma_Op
  rw [en_97, en_202]
  obtain ⟨n, hn, hF, hFm⟩ := ma_Iv_n hi
  have hni : (nI n).toInt = n := nI_toInt (by omega)
  have hok := ma_Iv_ok hi
  have hW : ∀ r, r < n → x.1 4 0 r 3 = 0 ∨ x.1 4 0 r 3 = 1 := fun r hr => (hok.2.2.2.2.2.2.2.2 r (by rw [hF, hni]; omega)).2.2.1
  have hat := cx_atTop (d + 1) 0 n x hF hn hW
  have hbl := cm_bits_loop (d + 2) n 1 m hFm hn n 0 (by omega) (by omega)
  have hb0 : sp_bits (fun r => m.1 50 3 0 r) 0 = 0 := rfl
  rw [hb0, nI_0] at hbl
  have hbe : sp_bits (fun r => m.1 50 3 0 r) n = sp_bits (fun r => x.1 4 0 r 3) n := sp_bits_congr n (fun r hr => ma_Iv_G hi r (by rw [hF, hni]; omega) 3 (by omega) (by omega))
  rw [hbe] at hbl
  have hall := cx_allRuns (d + 1) 0 n x hF hn
  have hallm := cm_allOf (d + 1) 5 n m hFm hn rfl
  have hsum : sp_sum (fun r => m.1 50 5 0 r) n = sp_sum (fun r => x.1 4 0 r 5) n := sp_sum_congr n (fun r hr => ma_Iv_G hi r (by rw [hF, hni]; omega) 5 (by omega) (by omega))
  rw [hsum] at hallm
  have f2 := ma_Iv_F hi 2 (by omega) (by omega)
  have f3 := ma_Iv_F hi 3 (by omega) (by omega)
  have f4 := ma_Iv_F hi 4 (by omega) (by omega)
  have f5 := ma_Iv_F hi 5 (by omega) (by omega)
  have f6 := ma_Iv_F hi 6 (by omega) (by omega)
  have f7 := ma_Iv_F hi 7 (by omega) (by omega)
  have f8 := ma_Iv_F hi 8 (by omega) (by omega)
  have hT := hi.2.2.2.1.1
  have e0 : (0 : Int32).toInt = 0 := rfl
  have e10 : (10 : Int32).toInt = 10 := rfl
  have e11 : (11 : Int32).toInt = 11 := rfl
  have e17 : (17 : Int32).toInt = 17 := rfl
  by_cases c : 11 ≤ w ∧ w ≤ 17
  · have c1 := ma_le.mp c.1
    have c2 := ma_le.mp c.2
    have s1 := ma_sub (a := w) (b := 11) (by omega) (by omega)
    have s2 := ma_sub (a := w) (b := 10) (by omega) (by omega)
    have i1 : ma_in (w - 11) 7 := ma_inI (by omega) (by omega)
    have i2 : ma_in (w - 10) 8 := ma_inI (by omega) (by omega)
    have q1 := ma_clN (x := w - 11)
    have q2 := ma_clN (x := w - 10)
    have q : (w - 10).toNatClampNeg = (w - 11).toNatClampNeg + 1 := by omega
    have hR := hi.2.2.1 (w - 11).toNatClampNeg (by omega)
    have b1 : (w < 11) = False := eq_false (by rw [ma_lt]; omega)
    have b2 : (17 < w) = False := eq_false (by rw [ma_lt]; omega)
    have ne : ∀ v : Int32, v.toInt ≤ 10 → (w = v) = False := fun v hv => eq_false (fun e => by rw [e] at c1; omega)
    have n0 := ne 0 (by decide)
    have n1 := ne 1 (by decide)
    have n2 := ne 2 (by decide)
    have n3 := ne 3 (by decide)
    have n4 := ne 4 (by decide)
    have n5 := ne 5 (by decide)
    have n6 := ne 6 (by decide)
    have n7 := ne 7 (by decide)
    have n8 := ne 8 (by decide)
    have n9 := ne 9 (by decide)
    have n10 := ne 10 (by decide)
    refine ⟨some (vI (x.1 50 124 0 (w - 11).toNatClampNeg)), x, m, ?_, ?_, ma_Iv_s hi⟩
    · simp only [bk_97_0, bk_97_148, bk_97_156, bk_97_159, bk_97_172, n0, n1, n2, n3, n4, n5, n6, n7, n8, n9, n10, cx_isIn, eq_true c, ma_if_pos i1, ↓reduceIte, ma_bd_some, ma_bd_none, ma_tl1, ma_tl0, ma_ap1, ma_ap0, b2i_0, b2i_1, b2i_01, ma_l10, ma_l01, eq_self, true_or, or_true, not_true_eq_false, not_false_eq_true, Bool.false_eq_true]
    · simp only [bk_202_0, bk_202_6, bk_202_12, b1, b2, ma_if_pos i2, q, ← hR, ↓reduceIte, ma_bd_some, ma_bd_none, ma_tl1, ma_tl0, ma_ap1, ma_ap0, b2i_0, b2i_1, b2i_01, ma_l10, ma_l01, eq_self, true_or, or_true, not_true_eq_false, not_false_eq_true, Bool.false_eq_true]
  · by_cases w0 : w = 0
    · subst w0
      refine ⟨some (vI (nI n)), x, m, ?_, ?_, ma_Iv_s hi⟩
      · simp (decide := true) only [bk_97_0, bk_97_60, hF, ↓reduceIte]
      · simp (decide := true) only [bk_202_0, bk_202_22, bk_202_84, hFm, ↓reduceIte]
    by_cases w1 : w = 1
    · subst w1
      refine ⟨some (vI (sp_bits (fun r => x.1 4 0 r 3) n)), x, m, ?_, ?_, ma_Iv_s hi⟩
      · simp (decide := true) only [bk_97_0, bk_97_68, bk_97_75, hat, ↓reduceIte, ma_bd_some, ma_tl1, ma_ap1]
      · simp (decide := true) only [bk_202_0, bk_202_22, bk_202_89, hbl, ↓reduceIte]
    by_cases w2 : w = 2
    · subst w2
      refine ⟨some (vI (x.1 2 0 0 2)), x, m, ?_, ?_, ma_Iv_s hi⟩
      · simp (decide := true) only [bk_97_0, bk_97_76, ↓reduceIte]
      · simp (decide := true) only [bk_202_0, bk_202_22, bk_202_118, f2, ↓reduceIte]
    by_cases w3 : w = 3
    · subst w3
      refine ⟨some (vI (x.1 2 0 0 3)), x, m, ?_, ?_, ma_Iv_s hi⟩
      · simp (decide := true) only [bk_97_0, bk_97_84, ↓reduceIte]
      · simp (decide := true) only [bk_202_0, bk_202_22, bk_202_123, f3, ↓reduceIte]
    by_cases w4 : w = 4
    · subst w4
      refine ⟨some (vI (x.1 2 0 0 4)), x, m, ?_, ?_, ma_Iv_s hi⟩
      · simp (decide := true) only [bk_97_0, bk_97_92, ↓reduceIte]
      · simp (decide := true) only [bk_202_0, bk_202_22, bk_202_128, f4, ↓reduceIte]
    by_cases w5 : w = 5
    · subst w5
      refine ⟨some (vI (x.1 2 0 0 5)), x, m, ?_, ?_, ma_Iv_s hi⟩
      · simp (decide := true) only [bk_97_0, bk_97_100, ↓reduceIte]
      · simp (decide := true) only [bk_202_0, bk_202_22, bk_202_133, f5, ↓reduceIte]
    by_cases w6 : w = 6
    · subst w6
      refine ⟨some (vI (x.1 2 0 0 6)), x, m, ?_, ?_, ma_Iv_s hi⟩
      · simp (decide := true) only [bk_97_0, bk_97_108, ↓reduceIte]
      · simp (decide := true) only [bk_202_0, bk_202_22, bk_202_138, f6, ↓reduceIte]
    by_cases w7 : w = 7
    · subst w7
      refine ⟨some (vI (x.1 2 0 0 7)), x, m, ?_, ?_, ma_Iv_s hi⟩
      · simp (decide := true) only [bk_97_0, bk_97_116, ↓reduceIte]
      · simp (decide := true) only [bk_202_0, bk_202_22, bk_202_143, f7, ↓reduceIte]
    by_cases w8 : w = 8
    · subst w8
      refine ⟨some (vI (sp_sum (fun r => x.1 4 0 r 5) n)), x, m, ?_, ?_, ma_Iv_s hi⟩
      · simp (decide := true) only [bk_97_0, bk_97_124, bk_97_131, hall, ↓reduceIte, ma_bd_some, ma_tl1, ma_ap1]
      · simp (decide := true) only [bk_202_0, bk_202_22, bk_202_148, bk_202_156, hallm, ↓reduceIte, ma_bd_some, ma_tl1, ma_ap1]
    by_cases w9 : w = 9
    · subst w9
      refine ⟨some (vI (x.1 2 0 0 8)), x, m, ?_, ?_, ma_Iv_s hi⟩
      · simp (decide := true) only [bk_97_0, bk_97_132, ↓reduceIte]
      · simp (decide := true) only [bk_202_0, bk_202_22, bk_202_157, f8, ↓reduceIte]
    by_cases w10 : w = 10
    · subst w10
      refine ⟨some (vI (x.1 13 0 0 1)), x, m, ?_, ?_, ma_Iv_s hi⟩
      · simp (decide := true) only [bk_97_0, bk_97_140, ↓reduceIte]
      · simp (decide := true) only [bk_202_0, bk_202_22, bk_202_162, ← hT, ↓reduceIte]
    · refine ⟨some (vI (-1)), x, m, ?_, ?_, ma_Iv_s hi⟩
      · simp only [bk_97_0, bk_97_148, bk_97_156, bk_97_171, bk_97_172, w0, w1, w2, w3, w4, w5, w6, w7, w8, w9, w10, cx_isIn, eq_false c, ↓reduceIte, ma_bd_some, ma_bd_none, ma_tl1, ma_tl0, ma_ap1, ma_ap0, b2i_0, b2i_1, b2i_01, ma_l10, ma_l01, eq_self, true_or, or_true, not_true_eq_false, not_false_eq_true, Bool.false_eq_true]
      · by_cases b1 : w < 11
        · simp only [bk_202_0, bk_202_22, bk_202_167, b1, w0, w1, w2, w3, w4, w5, w6, w7, w8, w9, w10, ↓reduceIte, ma_bd_some, ma_bd_none, ma_tl1, ma_tl0, ma_ap1, ma_ap0, b2i_0, b2i_1, b2i_01, ma_l10, ma_l01, eq_self, true_or, or_true, not_true_eq_false, not_false_eq_true, Bool.false_eq_true]
        · have b2 : (17 < w) = True := eq_true (by
            rw [ma_le, ma_le] at c
            rw [ma_lt] at b1 ⊢
            omega)
          simp only [bk_202_0, bk_202_6, bk_202_22, bk_202_167, b1, b2, w0, w1, w2, w3, w4, w5, w6, w7, w8, w9, w10, ↓reduceIte, ma_bd_some, ma_bd_none, ma_tl1, ma_tl0, ma_ap1, ma_ap0, b2i_0, b2i_1, b2i_01, ma_l10, ma_l01, eq_self, true_or, or_true, not_true_eq_false, not_false_eq_true, Bool.false_eq_true]
