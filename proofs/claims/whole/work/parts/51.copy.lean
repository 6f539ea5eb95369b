/-! PART 51: call: copy. -/
theorem ma_cJ_a (σ : ma_S) (a sp b dp k : Nat) (h : a ≠ b) : (ma_cJ σ a sp b dp k).2 a = σ.2 a := by
  funext j
  simp only [ma_cJ]
  rw [if_neg h]
theorem ma_cJ_0 (σ : ma_S) (a sp b dp : Nat) : ma_cJ σ a sp b dp 0 = σ := by
  refine ma_S_ext (fun _ _ _ _ => rfl) (fun i k => ?_)
  simp only [ma_cJ]
  split
  · rename_i h
    subst h
    unfold va_cpy
    rw [if_neg (by omega)]
  · rfl
theorem ma_cJ_s (σ : ma_S) (a sp b dp k : Nat) (h : a ≠ b) : ma_uJ (ma_cJ σ a sp b dp k) b (dp + k) (σ.2 a (sp + k)) = ma_cJ σ a sp b dp (k + 1) := by
  refine ma_S_ext (fun _ _ _ _ => rfl) (fun i j => ?_)
  simp only [ma_uJ, ma_cJ]
  by_cases hi : i = b
  · subst hi
    rw [if_pos rfl, if_pos rfl]
    unfold va_cpy
    by_cases hj : j = dp + k
    · subst hj
      rw [if_pos ⟨rfl, rfl⟩, if_pos (by omega), show dp + k - dp = k by omega]
    · rw [if_neg (fun z => hj z.2)]
      by_cases h2 : dp ≤ j ∧ j < dp + k
      · rw [if_pos h2, if_pos (by omega)]
      · rw [if_neg h2, if_neg (by omega)]
  · rw [if_neg (fun z => hi z.1), if_neg hi, if_neg hi]
theorem sp_cell2 {s i k : Int32} (S I K : Nat) (h1 : s.toInt = S) (h2 : i.toInt = I) (h3 : k.toInt = K) (hs : S < 8) (hi : I + K < 160) : ma_in (160 * s + i + k) 1280 ∧ (160 * s + i + k).toNatClampNeg = 160 * S + I + K := by
  have h160 : (160 : Int32).toInt = 160 := rfl
  have m1 : (160 * s).toInt = 160 * S := by rw [ma_mul (by rw [h160]; omega) (by rw [h160]; omega), h160, h1]
  have a1 := ma_add (a := 160 * s) (b := i) (by omega) (by omega)
  have a2 := ma_add (a := 160 * s + i) (b := k) (by omega) (by omega)
  exact ⟨ma_inI (by omega) (by omega), by rw [ma_clN]; omega⟩
theorem cm_copy1 (d P I N : Nat) (p q i j n : Int32) (m : ma_S) (h1 : p.toInt = P) (h2 : i.toInt = I) (h3 : n.toInt = N) (hP : P < 8) (hI : I + N ≤ 160) : ∀ c k, k + c = N → ma_ex d 119 167 [some (vR 20 0 0), some (vI p), some (vI q), some (vI i), some (vI j), some (vI n), some (vI (nI k))] [] (ma_cJ m 10 (160 * P + I) 11 0 k) = ma_ex d 119 202 [some (vR 20 0 0), some (vI p), some (vI q), some (vI i), some (vI j), some (vI n), some (vI (nI N))] [] (ma_cJ m 10 (160 * P + I) 11 0 N) := by
  intro c
  induction c with
  | zero =>
    intro k h
    have hk := nI_toInt (n := k) (by omega)
    have e : k = N := by omega
    subst e
    rw [bk_119_167, if_pos (by rw [ma_le]; omega)]
  | succ c ih =>
    intro k h
    have hk := nI_toInt (n := k) (by omega)
    obtain ⟨q1, q2⟩ := sp_cell2 P I k h1 h2 hk hP (by omega)
    have hin : ma_in (nI k) 160 := ma_inI (by omega) (by omega)
    have hcl : (nI k).toNatClampNeg = k := nI_clamp (by omega)
    have hs := ma_cJ_s m 10 (160 * P + I) 11 0 k (by decide)
    rw [Nat.zero_add] at hs
    rw [← ih (k + 1) (by omega), bk_119_167, if_neg (by rw [ma_le]; omega), bk_119_174, ma_if_pos q1, ma_if_pos hin, q2, hcl, ma_cJ_a _ _ _ _ _ _ (by decide), hs, nI_succ]
theorem cm_copy2 (d Q J N : Nat) (p q i j n : Int32) (m : ma_S) (h1 : q.toInt = Q) (h2 : j.toInt = J) (h3 : n.toInt = N) (hQ : Q < 8) (hJ : J + N ≤ 160) : ∀ c k, k + c = N → ma_ex d 119 205 [some (vR 20 0 0), some (vI p), some (vI q), some (vI i), some (vI j), some (vI n), some (vI (nI k))] [] (ma_cJ m 11 0 10 (160 * Q + J) k) = some (some (vI 1), ma_cJ m 11 0 10 (160 * Q + J) N) := by
  intro c
  induction c with
  | zero =>
    intro k h
    have hk := nI_toInt (n := k) (by omega)
    have e : k = N := by omega
    subst e
    rw [bk_119_205, if_pos (by rw [ma_le]; omega), bk_119_241]
  | succ c ih =>
    intro k h
    have hk := nI_toInt (n := k) (by omega)
    obtain ⟨q1, q2⟩ := sp_cell2 Q J k h1 h2 hk hQ (by omega)
    have hin : ma_in (nI k) 160 := ma_inI (by omega) (by omega)
    have hcl : (nI k).toNatClampNeg = k := nI_clamp (by omega)
    have hs := ma_cJ_s m 11 0 10 (160 * Q + J) k (by decide)
    rw [Nat.zero_add] at hs
    rw [← ih (k + 1) (by omega), bk_119_205, if_neg (by rw [ma_le]; omega), bk_119_212, ma_if_pos hin, ma_if_pos q1, q2, hcl, ma_cJ_a _ _ _ _ _ _ (by decide), hs, nI_succ]
theorem ma_Iv_copy {t P Q I J N : Nat} {x m : ma_S} (hi : ma_Iv t x m) (hP : P < 8) (hp : m.1 50 8 0 P = 1) (hI : I + N ≤ 160) (hJ : J + N ≤ 160) : ma_Iv t (ma_cJ x P I Q J N) (ma_cJ (ma_cJ m 10 (160 * P + I) 11 0 N) 11 0 10 (160 * Q + J) N) := by
  obtain ⟨h1, h2, h3, h4, h5, h6⟩ := hi
  refine ⟨h1, ?_, h3, h4, h5, h6⟩
  intro s hs
  rcases h2 s hs with e | e | ⟨a1, a2, a3, a4, a5, a6, a7, a8⟩
  · exact Or.inl e
  · exact Or.inr (Or.inl e)
  · refine Or.inr (Or.inr ⟨a1, a2, a3, a4, a5, a6, a7, fun k hk => ?_⟩)
    have hpe : ∀ i, i < 160 → x.2 P i = m.2 10 (160 * P + i) := by
      rcases h2 P hP with ⟨a, _⟩ | ⟨a, _⟩ | ⟨_, _, _, _, _, _, _, c⟩
      · rw [a] at hp; exact absurd hp (by decide)
      · rw [a] at hp; exact absurd hp (by decide)
      · exact c
    simp only [ma_cJ]
    have n1011 : ¬ (10 : Nat) = 11 := by decide
    simp only [n1011, if_true, if_false]
    unfold va_cpy
    by_cases hq : s = Q
    · subst hq
      rw [if_pos rfl]
      by_cases hr : J ≤ k ∧ k < J + N
      · have e1 : 0 + (160 * s + k - (160 * s + J)) = k - J := by omega
        rw [if_pos hr, if_pos (by omega), hpe _ (by omega), e1]
        show _ = if 0 ≤ k - J ∧ k - J < 0 + N then _ else _
        rw [if_pos (by omega), Nat.sub_zero, Nat.add_assoc]
      · rw [if_neg hr, if_neg (by omega)]
        exact a8 k hk
    · rw [if_neg hq, if_neg (by omega)]
      exact a8 k hk
theorem sp_ct {t P : Nat} {x m : ma_S} (hi : ma_Iv t x m) (hP : P < 8) : ((0 ≤ x.1 16 P 0 1 ∧ x.1 16 P 0 1 < 100) = (m.1 50 8 0 P = 2)) ∧ ((100 ≤ x.1 16 P 0 1) = (m.1 50 8 0 P = 1)) ∧ (m.1 50 8 0 P = 0 ∨ m.1 50 8 0 P = 1 ∨ m.1 50 8 0 P = 2) ∧ (m.1 50 8 0 P = 1 → x.1 16 P 0 1 = 100 + m.1 50 9 0 P ∧ x.1 16 P 0 2 = m.1 50 10 0 P ∧ 0 ≤ (m.1 50 10 0 P).toInt ∧ (m.1 50 10 0 P).toInt ≤ 160) := by
  have e0 : (0 : Int32).toInt = 0 := rfl
  have e1 : (-1 : Int32).toInt = -1 := rfl
  have e100 : (100 : Int32).toInt = 100 := rfl
  have hn := (ma_Iv_ok hi).2.1
  rcases hi.2.1 P hP with ⟨a, b, _⟩ | ⟨a, b, _, c, d⟩ | ⟨a, b, c, d, e, f, g, _⟩
  · rw [a, b]
    refine ⟨by decide, by decide, Or.inl rfl, fun z => absurd z (by decide)⟩
  · rw [a, b]
    refine ⟨?_, ?_, Or.inr (Or.inr rfl), fun z => absurd z (by decide)⟩
    · rw [eq_true rfl]
      exact eq_true ⟨by rw [ma_le]; omega, by rw [ma_lt]; omega⟩
    · rw [show ((2 : Int32) = 1) = False by decide]
      exact eq_false (by rw [ma_le]; omega)
  · have hs := ma_add (a := 100) (b := m.1 50 9 0 P) (by omega) (by omega)
    rw [a, b]
    refine ⟨?_, ?_, Or.inr (Or.inl rfl), fun _ => ⟨rfl, e, f, g⟩⟩
    · rw [show ((1 : Int32) = 2) = False by decide]
      exact eq_false (fun z => by have := ma_lt.mp z.2; omega)
    · rw [eq_true rfl]
      exact eq_true (by rw [ma_le]; omega)
theorem sp_100 (a b : Int32) : (100 + a = 100 + b) = (a = b) := by
  apply propext
  constructor
  · intro h
    have := congrArg (fun z => z - 100) h
    simp only [sp_cut] at this
    exact this
  · intro h
    rw [h]
theorem op_copy (d t : Nat) (x m : ma_S) (p q i j n : Int32) (hi : ma_Iv t x m) : ma_Op (d + 3) 62 119 [vI p, vI q, vI i, vI j, vI n] t x m := by
  unfold ma_Op
  rw [en_62, en_119]
  rcases Classical.propComplete (0 ≤ p ∧ p < 8) with c1 | c1
  case inr =>
    refine ⟨some (vI (-1)), sp_rx x (-1), sp_rm m (-1), ?_, ?_, ma_Iv_no sp_isb1 (ma_Iv_s hi)⟩
    · simp (decide := true) only [en_100, bk_62_0, bk_62_11, bk_62_18, bk_62_24, bk_62_25, bk_100_0, bk_100_4, bk_100_7, bk_100_11, bk_100_14, bk_100_16, bk_100_37, bk_100_40, bk_100_45, bk_100_48, bk_100_61, bk_100_65, bk_100_66, bk_100_73, bk_100_76, bk_100_81, bk_100_84, bk_100_89, bk_100_92, bk_100_97, bk_100_100, bk_100_105, bk_100_108, bk_100_111, bk_100_116, bk_100_119, bk_100_123, bk_100_128, bk_100_140, bk_100_153, bk_100_157, bk_100_158, bk_100_165, bk_100_169, bk_100_171, cx_isShelf, c1, cx_refuse _ _ _ sp_isb1, ↓reduceIte, ma_bd_some, ma_bd_none, ma_tl1, ma_tl0, ma_ap1, ma_ap0, b2i_0, b2i_1, b2i_01, ma_l10, ma_l01, eq_self, true_or, or_true, not_true_eq_false, not_false_eq_true, Bool.false_eq_true]
    · simp only [bk_119_0, bk_119_5, bk_119_8, bk_119_13, bk_119_16, bk_119_21, bk_119_22, bk_119_32, bk_119_42, bk_119_52, bk_119_62, bk_119_77, bk_119_83, bk_119_84, bk_119_93, bk_119_102, bk_119_108, bk_119_109, bk_119_114, bk_119_120, bk_119_121, bk_119_125, bk_119_130, bk_119_143, bk_119_157, bk_119_163, bk_119_164, bk_119_174, bk_119_202, bk_119_212, bk_119_241, cm_isShelf, c1, cm_no _ _ _ sp_isb1, ↓reduceIte, ma_bd_some, ma_bd_none, ma_tl1, ma_tl0, ma_ap1, ma_ap0, b2i_0, b2i_1, b2i_01, ma_l10, ma_l01, eq_self, true_or, or_true, not_true_eq_false, not_false_eq_true, Bool.false_eq_true]
  rcases Classical.propComplete (0 ≤ q ∧ q < 8) with c2 | c2
  case inr =>
    refine ⟨some (vI (-1)), sp_rx x (-1), sp_rm m (-1), ?_, ?_, ma_Iv_no sp_isb1 (ma_Iv_s hi)⟩
    · simp (decide := true) only [en_100, bk_62_0, bk_62_11, bk_62_18, bk_62_24, bk_62_25, bk_100_0, bk_100_4, bk_100_7, bk_100_11, bk_100_14, bk_100_16, bk_100_37, bk_100_40, bk_100_45, bk_100_48, bk_100_61, bk_100_65, bk_100_66, bk_100_73, bk_100_76, bk_100_81, bk_100_84, bk_100_89, bk_100_92, bk_100_97, bk_100_100, bk_100_105, bk_100_108, bk_100_111, bk_100_116, bk_100_119, bk_100_123, bk_100_128, bk_100_140, bk_100_153, bk_100_157, bk_100_158, bk_100_165, bk_100_169, bk_100_171, cx_isShelf, c1, c2, cx_refuse _ _ _ sp_isb1, ↓reduceIte, ma_bd_some, ma_bd_none, ma_tl1, ma_tl0, ma_ap1, ma_ap0, b2i_0, b2i_1, b2i_01, ma_l10, ma_l01, eq_self, true_or, or_true, not_true_eq_false, not_false_eq_true, Bool.false_eq_true]
    · simp only [bk_119_0, bk_119_5, bk_119_8, bk_119_13, bk_119_16, bk_119_21, bk_119_22, bk_119_32, bk_119_42, bk_119_52, bk_119_62, bk_119_77, bk_119_83, bk_119_84, bk_119_93, bk_119_102, bk_119_108, bk_119_109, bk_119_114, bk_119_120, bk_119_121, bk_119_125, bk_119_130, bk_119_143, bk_119_157, bk_119_163, bk_119_164, bk_119_174, bk_119_202, bk_119_212, bk_119_241, cm_isShelf, c1, c2, cm_no _ _ _ sp_isb1, ↓reduceIte, ma_bd_some, ma_bd_none, ma_tl1, ma_tl0, ma_ap1, ma_ap0, b2i_0, b2i_1, b2i_01, ma_l10, ma_l01, eq_self, true_or, or_true, not_true_eq_false, not_false_eq_true, Bool.false_eq_true]
  obtain ⟨pin, pl, pz⟩ := sp_in8 (of_eq_true c1)
  obtain ⟨qin, ql, qz⟩ := sp_in8 (of_eq_true c2)
  obtain ⟨p1, p2, p3, p4⟩ := sp_ct hi pl
  obtain ⟨q1, q2, q3, q4⟩ := sp_ct hi ql
  by_cases b1 : m.1 50 8 0 p.toNatClampNeg = 1 ∧ m.1 50 8 0 q.toNatClampNeg = 1
  case neg =>
    rcases p3 with p3 | p3 | p3 <;> rcases q3 with q3 | q3 | q3
    all_goals first
      | (exfalso; exact b1 ⟨p3, q3⟩)
      | (rw [p3] at p1 p2
         rw [q3] at q1 q2
         refine ⟨some (vI (-2)), sp_rx x (-2), sp_rm m (-2), ?_, ?_, ma_Iv_no sp_isb2 (ma_Iv_s hi)⟩
         · simp (decide := true) only [en_100, bk_62_0, bk_62_11, bk_62_18, bk_62_24, bk_62_25, bk_100_0, bk_100_4, bk_100_7, bk_100_11, bk_100_14, bk_100_16, bk_100_37, bk_100_40, bk_100_45, bk_100_48, bk_100_61, bk_100_65, bk_100_66, bk_100_73, bk_100_76, bk_100_81, bk_100_84, bk_100_89, bk_100_92, bk_100_97, bk_100_100, bk_100_105, bk_100_108, bk_100_111, bk_100_116, bk_100_119, bk_100_123, bk_100_128, bk_100_140, bk_100_153, bk_100_157, bk_100_158, bk_100_165, bk_100_169, bk_100_171, cx_isShelf, cx_hasRow, cx_hasRider, p1, p2, q1, q2, c1, c2, ma_if_pos pin, ma_if_pos qin, cx_refuse _ _ _ sp_isb2, ↓reduceIte, ma_bd_some, ma_bd_none, ma_tl1, ma_tl0, ma_ap1, ma_ap0, b2i_0, b2i_1, b2i_01, ma_l10, ma_l01, eq_self, true_or, or_true, not_true_eq_false, not_false_eq_true, Bool.false_eq_true]
           done
         · simp (decide := true) only [bk_119_0, bk_119_5, bk_119_8, bk_119_13, bk_119_16, bk_119_21, bk_119_22, bk_119_32, bk_119_42, bk_119_52, bk_119_62, bk_119_77, bk_119_83, bk_119_84, bk_119_93, bk_119_102, bk_119_108, bk_119_109, bk_119_114, bk_119_120, bk_119_121, bk_119_125, bk_119_130, bk_119_143, bk_119_157, bk_119_163, bk_119_164, bk_119_174, bk_119_202, bk_119_212, bk_119_241, cm_isShelf, c1, c2, p3, q3, ma_if_pos pin, ma_if_pos qin, cm_no _ _ _ sp_isb2, ↓reduceIte, ma_bd_some, ma_bd_none, ma_tl1, ma_tl0, ma_ap1, ma_ap0, b2i_0, b2i_1, b2i_01, ma_l10, ma_l01, eq_self, true_or, or_true, not_true_eq_false, not_false_eq_true, Bool.false_eq_true]
           done)
      | (rw [p3] at p1 p2
         rw [q3] at q1 q2
         refine ⟨some (vI (-3)), sp_rx x (-3), sp_rm m (-3), ?_, ?_, ma_Iv_no sp_isb3 (ma_Iv_s hi)⟩
         · simp (decide := true) only [en_100, bk_62_0, bk_62_11, bk_62_18, bk_62_24, bk_62_25, bk_100_0, bk_100_4, bk_100_7, bk_100_11, bk_100_14, bk_100_16, bk_100_37, bk_100_40, bk_100_45, bk_100_48, bk_100_61, bk_100_65, bk_100_66, bk_100_73, bk_100_76, bk_100_81, bk_100_84, bk_100_89, bk_100_92, bk_100_97, bk_100_100, bk_100_105, bk_100_108, bk_100_111, bk_100_116, bk_100_119, bk_100_123, bk_100_128, bk_100_140, bk_100_153, bk_100_157, bk_100_158, bk_100_165, bk_100_169, bk_100_171, cx_isShelf, cx_hasRow, cx_hasRider, p1, p2, q1, q2, c1, c2, ma_if_pos pin, ma_if_pos qin, cx_refuse _ _ _ sp_isb3, ↓reduceIte, ma_bd_some, ma_bd_none, ma_tl1, ma_tl0, ma_ap1, ma_ap0, b2i_0, b2i_1, b2i_01, ma_l10, ma_l01, eq_self, true_or, or_true, not_true_eq_false, not_false_eq_true, Bool.false_eq_true]
           done
         · simp (decide := true) only [bk_119_0, bk_119_5, bk_119_8, bk_119_13, bk_119_16, bk_119_21, bk_119_22, bk_119_32, bk_119_42, bk_119_52, bk_119_62, bk_119_77, bk_119_83, bk_119_84, bk_119_93, bk_119_102, bk_119_108, bk_119_109, bk_119_114, bk_119_120, bk_119_121, bk_119_125, bk_119_130, bk_119_143, bk_119_157, bk_119_163, bk_119_164, bk_119_174, bk_119_202, bk_119_212, bk_119_241, cm_isShelf, c1, c2, p3, q3, ma_if_pos pin, ma_if_pos qin, cm_no _ _ _ sp_isb3, ↓reduceIte, ma_bd_some, ma_bd_none, ma_tl1, ma_tl0, ma_ap1, ma_ap0, b2i_0, b2i_1, b2i_01, ma_l10, ma_l01, eq_self, true_or, or_true, not_true_eq_false, not_false_eq_true, Bool.false_eq_true]
           done)
  obtain ⟨r1, r2⟩ := b1
  rw [r1] at p1 p2
  rw [r2] at q1 q2
  obtain ⟨p5, p6, p7, p8⟩ := p4 r1
  obtain ⟨q5, q6, q7, q8⟩ := q4 r2
  have hC : (x.1 16 p.toNatClampNeg 0 1 = x.1 16 q.toNatClampNeg 0 1) = (m.1 50 9 0 p.toNatClampNeg = m.1 50 9 0 q.toNatClampNeg) := by rw [p5, q5, sp_100]
  have n12 : ((1 : Int32) = 2) = False := by decide
  have n10 : ((1 : Int32) = 0) = False := by decide
  have n11 : ((1 : Int32) = 1) = True := by decide
  rcases Classical.propComplete (m.1 50 9 0 p.toNatClampNeg = m.1 50 9 0 q.toNatClampNeg) with c3 | c3
  case inr =>
    refine ⟨some (vI (-2)), sp_rx x (-2), sp_rm m (-2), ?_, ?_, ma_Iv_no sp_isb2 (ma_Iv_s hi)⟩
    · simp (decide := true) only [en_100, bk_62_0, bk_62_11, bk_62_18, bk_62_24, bk_62_25, bk_100_0, bk_100_4, bk_100_7, bk_100_11, bk_100_14, bk_100_16, bk_100_37, bk_100_40, bk_100_45, bk_100_48, bk_100_61, bk_100_65, bk_100_66, bk_100_73, bk_100_76, bk_100_81, bk_100_84, bk_100_89, bk_100_92, bk_100_97, bk_100_100, bk_100_105, bk_100_108, bk_100_111, bk_100_116, bk_100_119, bk_100_123, bk_100_128, bk_100_140, bk_100_153, bk_100_157, bk_100_158, bk_100_165, bk_100_169, bk_100_171, cx_isShelf, cx_hasRow, cx_hasRider, p1, p2, q1, q2, hC, c1, c2, c3, ma_if_pos pin, ma_if_pos qin, cx_refuse _ _ _ sp_isb2, ↓reduceIte, ma_bd_some, ma_bd_none, ma_tl1, ma_tl0, ma_ap1, ma_ap0, b2i_0, b2i_1, b2i_01, ma_l10, ma_l01, eq_self, true_or, or_true, not_true_eq_false, not_false_eq_true, Bool.false_eq_true]
    · simp (decide := true) only [bk_119_0, bk_119_5, bk_119_8, bk_119_13, bk_119_16, bk_119_21, bk_119_22, bk_119_32, bk_119_42, bk_119_52, bk_119_62, bk_119_77, bk_119_83, bk_119_84, bk_119_93, bk_119_102, bk_119_108, bk_119_109, bk_119_114, bk_119_120, bk_119_121, bk_119_125, bk_119_130, bk_119_143, bk_119_157, bk_119_163, bk_119_164, bk_119_174, bk_119_202, bk_119_212, bk_119_241, cm_isShelf, c1, c2, c3, r1, r2, ma_if_pos pin, ma_if_pos qin, cm_no _ _ _ sp_isb2, ↓reduceIte, ma_bd_some, ma_bd_none, ma_tl1, ma_tl0, ma_ap1, ma_ap0, b2i_0, b2i_1, b2i_01, ma_l10, ma_l01, eq_self, true_or, or_true, not_true_eq_false, not_false_eq_true, Bool.false_eq_true]
  have hx0 : ∀ v : Int32, (100 ≤ x.1 16 p.toNatClampNeg 0 1) = True := fun _ => by rw [p2]; exact n11
  rcases Classical.propComplete (0 ≤ n) with c4 | c4
  case inr =>
    refine ⟨some (vI (-4)), sp_rx x (-4), sp_rm m (-4), ?_, ?_, ma_Iv_no sp_isb4 (ma_Iv_s hi)⟩
    · simp (decide := true) only [en_100, bk_62_0, bk_62_11, bk_62_18, bk_62_24, bk_62_25, bk_100_0, bk_100_4, bk_100_7, bk_100_11, bk_100_14, bk_100_16, bk_100_37, bk_100_40, bk_100_45, bk_100_48, bk_100_61, bk_100_65, bk_100_66, bk_100_73, bk_100_76, bk_100_81, bk_100_84, bk_100_89, bk_100_92, bk_100_97, bk_100_100, bk_100_105, bk_100_108, bk_100_111, bk_100_116, bk_100_119, bk_100_123, bk_100_128, bk_100_140, bk_100_153, bk_100_157, bk_100_158, bk_100_165, bk_100_169, bk_100_171, cx_isShelf, cx_hasRow, cx_hasRider, p1, p2, q1, q2, hC, c1, c2, c3, c4, ma_if_pos pin, ma_if_pos qin, cx_refuse _ _ _ sp_isb4, ↓reduceIte, ma_bd_some, ma_bd_none, ma_tl1, ma_tl0, ma_ap1, ma_ap0, b2i_0, b2i_1, b2i_01, ma_l10, ma_l01, eq_self, true_or, or_true, not_true_eq_false, not_false_eq_true, Bool.false_eq_true]
    · simp (decide := true) only [bk_119_0, bk_119_5, bk_119_8, bk_119_13, bk_119_16, bk_119_21, bk_119_22, bk_119_32, bk_119_42, bk_119_52, bk_119_62, bk_119_77, bk_119_83, bk_119_84, bk_119_93, bk_119_102, bk_119_108, bk_119_109, bk_119_114, bk_119_120, bk_119_121, bk_119_125, bk_119_130, bk_119_143, bk_119_157, bk_119_163, bk_119_164, bk_119_174, bk_119_202, bk_119_212, bk_119_241, cm_isShelf, c1, c2, c3, c4, r1, r2, ma_if_pos pin, ma_if_pos qin, cm_no _ _ _ sp_isb4, ↓reduceIte, ma_bd_some, ma_bd_none, ma_tl1, ma_tl0, ma_ap1, ma_ap0, b2i_0, b2i_1, b2i_01, ma_l10, ma_l01, eq_self, true_or, or_true, not_true_eq_false, not_false_eq_true, Bool.false_eq_true]
  rcases Classical.propComplete (0 ≤ i) with c5 | c5 <;> rcases Classical.propComplete (0 ≤ j) with c6 | c6 <;> rcases Classical.propComplete (i ≤ m.1 50 10 0 p.toNatClampNeg - n) with c7 | c7 <;> rcases Classical.propComplete (j ≤ m.1 50 10 0 q.toNatClampNeg - n) with c8 | c8
  all_goals try
    refine ⟨some (vI (-5)), sp_rx x (-5), sp_rm m (-5), ?_, ?_, ma_Iv_no sp_isb5 (ma_Iv_s hi)⟩
    · simp (decide := true) only [en_100, bk_62_0, bk_62_11, bk_62_18, bk_62_24, bk_62_25, bk_100_0, bk_100_4, bk_100_7, bk_100_11, bk_100_14, bk_100_16, bk_100_37, bk_100_40, bk_100_45, bk_100_48, bk_100_61, bk_100_65, bk_100_66, bk_100_73, bk_100_76, bk_100_81, bk_100_84, bk_100_89, bk_100_92, bk_100_97, bk_100_100, bk_100_105, bk_100_108, bk_100_111, bk_100_116, bk_100_119, bk_100_123, bk_100_128, bk_100_140, bk_100_153, bk_100_157, bk_100_158, bk_100_165, bk_100_169, bk_100_171, cx_isShelf, cx_hasRow, cx_hasRider, p1, p2, q1, q2, hC, p6, q6, ma_nlt i 0, ma_nlt j 0, ma_nlt (_ - n) i, ma_nlt (_ - n) j, c1, c2, c3, c4, c5, c6, c7, c8, ma_if_pos pin, ma_if_pos qin, cx_refuse _ _ _ sp_isb5, ↓reduceIte, ma_bd_some, ma_bd_none, ma_tl1, ma_tl0, ma_ap1, ma_ap0, b2i_0, b2i_1, b2i_01, ma_l10, ma_l01, eq_self, true_or, or_true, not_true_eq_false, not_false_eq_true, Bool.false_eq_true]
      done
    · simp (decide := true) only [bk_119_0, bk_119_5, bk_119_8, bk_119_13, bk_119_16, bk_119_21, bk_119_22, bk_119_32, bk_119_42, bk_119_52, bk_119_62, bk_119_77, bk_119_83, bk_119_84, bk_119_93, bk_119_102, bk_119_108, bk_119_109, bk_119_114, bk_119_120, bk_119_121, bk_119_125, bk_119_130, bk_119_143, bk_119_157, bk_119_163, bk_119_164, bk_119_174, bk_119_202, bk_119_212, bk_119_241, cm_isShelf, ma_nlt i 0, ma_nlt j 0, ma_nlt (_ - n) i, ma_nlt (_ - n) j, c1, c2, c3, c4, c5, c6, c7, c8, r1, r2, ma_if_pos pin, ma_if_pos qin, cm_no _ _ _ sp_isb5, ↓reduceIte, ma_bd_some, ma_bd_none, ma_tl1, ma_tl0, ma_ap1, ma_ap0, b2i_0, b2i_1, b2i_01, ma_l10, ma_l01, eq_self, true_or, or_true, not_true_eq_false, not_false_eq_true, Bool.false_eq_true]
      done
  have k0 : (0 : Int32).toInt = 0 := rfl
  have l4 := ma_le.mp (of_eq_true c4)
  have l5 := ma_le.mp (of_eq_true c5)
  have l6 := ma_le.mp (of_eq_true c6)
  have l7 := ma_le.mp (of_eq_true c7)
  have l8 := ma_le.mp (of_eq_true c8)
  have hnl := Int32.toInt_lt n
  rw [ma_sub (by omega) (by omega)] at l7 l8
  obtain ⟨N, hN⟩ : ∃ N : Nat, n.toInt = N := ⟨n.toInt.toNat, by omega⟩
  obtain ⟨I, hI⟩ : ∃ I : Nat, i.toInt = I := ⟨i.toInt.toNat, by omega⟩
  obtain ⟨J, hJ⟩ : ∃ J : Nat, j.toInt = J := ⟨j.toInt.toNat, by omega⟩
  have cn : n.toNatClampNeg = N := by rw [ma_clN]; omega
  have ci : i.toNatClampNeg = I := by rw [ma_clN]; omega
  have cj : j.toNatClampNeg = J := by rw [ma_clN]; omega
  have hm1 := cm_copy1 (d + 2) p.toNatClampNeg I N p q i j n m pz hI hN pl (by omega) N 0 (by omega)
  have hm2 := cm_copy2 (d + 2) q.toNatClampNeg J N p q i j n (ma_cJ m 10 (160 * p.toNatClampNeg + I) 11 0 N) qz hJ hN ql (by omega) N 0 (by omega)
  rw [ma_cJ_0, nI_0] at hm1 hm2
  have hc : (i < 0 ∨ j < 0 ∨ n < 0 ∨ ma_lj p.toNatClampNeg < i.toNatClampNeg + n.toNatClampNeg ∨ ma_lj q.toNatClampNeg < j.toNatClampNeg + n.toNatClampNeg) = False := eq_false (by
    rw [ma_lj8 pl, ma_lj8 ql, cn, ci, cj, ma_lt, ma_lt, ma_lt]
    omega)
  refine ⟨some (vI 1), _, _, ?_, ?_, ma_Iv_copy (ma_Iv_s hi) pl r1 (I := I) (J := J) (N := N) (Q := q.toNatClampNeg) (by omega) (by omega)⟩
  · have hR : ma_cal (d + 2) 100 [vR 1 0 0, vI p, vI q, vI i, vI j, vI n] x = some (some (vI 0), x) := by
      simp (decide := true) only [en_100, bk_100_0, bk_100_4, bk_100_7, bk_100_11, bk_100_14, bk_100_16, bk_100_37, bk_100_40, bk_100_45, bk_100_48, bk_100_61, bk_100_65, bk_100_66, bk_100_73, bk_100_76, bk_100_81, bk_100_84, bk_100_89, bk_100_92, bk_100_97, bk_100_100, bk_100_105, bk_100_108, bk_100_111, bk_100_116, bk_100_119, bk_100_123, bk_100_128, bk_100_140, bk_100_153, bk_100_157, bk_100_158, bk_100_165, bk_100_169, bk_100_171, cx_isShelf, cx_hasRow, cx_hasRider, p1, p2, q1, q2, hC, p6, q6, ma_nlt i 0, ma_nlt j 0, ma_nlt (_ - n) i, ma_nlt (_ - n) j, c1, c2, c3, c4, c5, c6, c7, c8, ma_if_pos pin, ma_if_pos qin, ↓reduceIte, ma_bd_some, ma_bd_none, ma_tl1, ma_tl0, ma_ap1, ma_ap0, b2i_0, b2i_1, b2i_01, ma_l10, ma_l01, eq_self, true_or, or_true, not_true_eq_false, not_false_eq_true, Bool.false_eq_true]
    simp only [bk_62_0, bk_62_11, bk_62_18, bk_62_24, bk_62_25, hR, hc, ma_if_pos pin, ma_if_pos qin, ↓reduceIte, ma_bd_some, ma_bd_none, ma_tl1, ma_tl0, ma_ap1, ma_ap0, b2i_0, b2i_1, b2i_01, ma_l10, ma_l01, eq_self, true_or, or_true, not_true_eq_false, not_false_eq_true, Bool.false_eq_true]
    rw [cn, ci, cj]
  · simp (decide := true) only [bk_119_0, bk_119_5, bk_119_8, bk_119_13, bk_119_16, bk_119_21, bk_119_22, bk_119_32, bk_119_42, bk_119_52, bk_119_62, bk_119_77, bk_119_83, bk_119_84, bk_119_93, bk_119_102, bk_119_108, bk_119_109, bk_119_114, bk_119_120, bk_119_121, bk_119_125, bk_119_130, bk_119_143, bk_119_157, bk_119_163, bk_119_164, bk_119_174, bk_119_202, bk_119_212, bk_119_241, cm_isShelf, ma_nlt i 0, ma_nlt j 0, ma_nlt (_ - n) i, c1, c2, c3, c4, c5, c6, c7, c8, r1, r2, ma_if_pos pin, ma_if_pos qin, hm1, hm2, ↓reduceIte, ma_bd_some, ma_bd_none, ma_tl1, ma_tl0, ma_ap1, ma_ap0, b2i_0, b2i_1, b2i_01, ma_l10, ma_l01, eq_self, true_or, or_true, not_true_eq_false, not_false_eq_true, Bool.false_eq_true]
