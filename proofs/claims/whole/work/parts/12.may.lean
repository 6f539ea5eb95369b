/-! PART 12: minutesOf, mayBe of the class; isMove, lasts, mayBe of the model. -/
theorem ma_lm11 : ((-1 : Int32) = -1) = True := by simp
/-- a hill's numbers are as they can be -/
def sp_ok (F : Nat → Int32) (G : Nat → Nat → Int32) : Prop := 0 ≤ (F 1).toInt ∧ (F 1).toInt ≤ 4 ∧ 0 ≤ (F 4).toInt ∧ (F 4).toInt ≤ 999 ∧ 1 ≤ (F 6).toInt ∧ (F 6).toInt ≤ 9 ∧ 1 ≤ (F 7).toInt ∧ (F 7).toInt ≤ 9 ∧
  ∀ r : Nat, (r : Int) < (F 1).toInt → (0 ≤ (G r 1).toInt ∧ (G r 1).toInt ≤ 6) ∧ (0 ≤ (G r 2).toInt ∧ (G r 2).toInt ≤ 9) ∧ (G r 3 = 0 ∨ G r 3 = 1) ∧ (0 ≤ (G r 4).toInt ∧ (G r 4).toInt ≤ 99)
theorem sp_ri_lt {n m : Int32} (h : sp_isM n m = true) : m.toInt = 700 ∨ ((sp_ri m : Int) < n.toInt ∧ (sp_two (m / 100) = true → (sp_rj m : Int) < n.toInt)) := by
  have h2 := sp_isM_iff.mp h
  have h0 : 0 ≤ m.toInt := by omega
  have z2 := sp_r10 h0
  have z3 := sp_r1 h0
  unfold sp_ri sp_rj
  rw [ma_clN, ma_clN, z2, z3]
  rcases h2 with h2 | ⟨h3, h4, h5, h6⟩
  · exact Or.inl h2
  · refine Or.inr ⟨by omega, fun e => ?_⟩
    rw [if_pos e] at h6
    omega
theorem sp_one_pos (x : Int32) : 1 ≤ (sp_one x).toInt := by
  unfold sp_one
  split
  · decide
  · rename_i h
    simp only [ma_lt] at h
    have e1 : (1 : Int32).toInt = 1 := rfl
    omega
theorem sp_down_pos (k l : Int32) : 1 ≤ (sp_down k l).toInt := by
  unfold sp_down
  repeat' split
  all_goals exact sp_one_pos _
theorem sp_pull_pos (k l t : Int32) : 1 ≤ (sp_pull k l t).toInt := by
  unfold sp_pull
  repeat' split
  all_goals exact sp_one_pos _
theorem sp_walk_pos {st ti : Int32} (h1 : 1 ≤ st.toInt) (h2 : st.toInt ≤ 9) (h3 : 0 ≤ ti.toInt) (h4 : ti.toInt ≤ 99) : 1 ≤ (sp_walk st ti).toInt := by
  unfold sp_walk
  have e1 : (st / 2).toInt = st.toInt / 2 := ma_div (by omega) (by decide)
  have e2 : (ti / 10).toInt = ti.toInt / 10 := ma_div h3 (by decide)
  have e3 : (st / 2 + ti / 10).toInt = st.toInt / 2 + ti.toInt / 10 := by rw [ma_add (by rw [e1, e2]; omega) (by rw [e1, e2]; omega), e1, e2]
  have e0 : (1 : Int32).toInt = 1 := rfl
  rw [ma_add (by rw [e3, e0]; omega) (by rw [e3, e0]; omega), e3, e0]
  omega
theorem sp_last_pos {F : Nat → Int32} {G : Nat → Nat → Int32} {m : Int32} (h : sp_ok F G) (hm : sp_isM (F 1) m = true) : 1 ≤ (sp_last F G m).toInt := by
  obtain ⟨h1, h2, h3, h4, h5, h6, h7, h8, hr⟩ := h
  unfold sp_last
  have e1 : (1 : Int32).toInt = 1 := rfl
  by_cases a0 : m / 100 = 0
  · rw [if_pos a0]; exact sp_down_pos _ _
  rw [if_neg a0]
  by_cases a1 : m / 100 = 1
  · rw [if_pos a1]; exact sp_one_pos _
  rw [if_neg a1]
  by_cases a2 : m / 100 = 2
  · rw [if_pos a2]; exact sp_pull_pos _ _ _
  rw [if_neg a2]
  by_cases a3 : m / 100 = 3
  · rw [if_pos a3]; exact sp_one_pos _
  rw [if_neg a3]
  by_cases a4 : m / 100 = 4
  · rw [if_pos a4]
    rcases sp_ri_lt hm with z | ⟨z, -⟩
    · exfalso
      have := sp_d100 (m := m) (by omega)
      rw [a4, z] at this
      exact absurd this (by decide)
    · have q := hr _ z
      exact sp_walk_pos h5 h6 q.2.2.2.1 q.2.2.2.2
  rw [if_neg a4]
  by_cases a5 : m / 100 = 5
  · rw [if_pos a5]; decide
  rw [if_neg a5]
  by_cases a6 : m / 100 = 6
  · rw [if_pos a6, ma_add (by omega) (by omega)]; omega
  · rw [if_neg a6]; decide
theorem cx_minutesOf (d i : Nat) (m : Int32) (σ : ma_S) (hn : (σ.1 2 i 0 1).toInt ≤ 4) : ma_cal (d + 2) 15 [vR 2 i 0, vI m] σ = some (some (vI (if sp_isM (σ.1 2 i 0 1) m = true then sp_last (σ.1 2 i 0) (σ.1 4 i) m else -1)), σ) := by
  rw [en_15]
  by_cases h : sp_isM (σ.1 2 i 0 1) m = true
  · have hi := sp_isM_in hn h
    simp only [bk_15_0, bk_15_5, bk_15_8, bk_15_10, bk_15_37, bk_15_80, bk_15_88, bk_15_89, bk_15_98, bk_15_106, bk_15_115, bk_15_123, bk_15_124, bk_15_133, bk_15_141, bk_15_148, bk_15_156, bk_15_157, bk_15_159, bk_15_166, cx_isMove, cx_sortOf, cx_downAlone, cx_pullAlone, cx_walkUp, h, ma_if_pos hi.1, ma_if_pos hi.2, ma_bd_some, ma_bd_none, ma_tl1, ma_tl0, ma_ap1, ma_ap0, b2i_0, b2i_1, b2i_01, ma_l10, ma_l01, eq_self, if_true, if_false, true_or, or_true, not_true_eq_false, not_false_eq_true, Bool.false_eq_true, sp_max1, ma_a1, ma_a2, ma_a3, ma_s1, ma_s2, ma_s0, ma_m2, sp_minc, sp_last, sp_ri, sp_rj]
    repeat' split
    all_goals first | with_reducible rfl | (simp_all; done)
  · simp only [bk_15_0, bk_15_5, bk_15_8, bk_15_10, bk_15_37, bk_15_80, bk_15_88, bk_15_89, bk_15_98, bk_15_106, bk_15_115, bk_15_123, bk_15_124, bk_15_133, bk_15_141, bk_15_148, bk_15_156, bk_15_157, bk_15_159, bk_15_166, cx_isMove, h, ma_bd_some, ma_bd_none, ma_tl1, ma_tl0, ma_ap1, ma_ap0, b2i_0, b2i_1, b2i_01, ma_l10, ma_l01, eq_self, if_true, if_false, true_or, or_true, not_true_eq_false, not_false_eq_true, Bool.false_eq_true]
theorem sp_may_iff (F : Nat → Int32) (G : Nat → Nat → Int32) (m : Int32) : sp_may F G m = true ↔ (sp_isM (F 1) m = true ∧ sp_last F G m ≤ F 4 ∧
  (if m / 100 = 0 then G (sp_ri m) 3 = 1 ∧ 0 < F 3
   else if m / 100 = 1 then G (sp_ri m) 3 = 1 ∧ G (sp_rj m) 3 = 1 ∧ 0 < F 3
   else if m / 100 = 2 then ¬ G (sp_ri m) 3 = 1 ∧ 0 < F 2
   else if m / 100 = 3 then ¬ G (sp_ri m) 3 = 1 ∧ ¬ G (sp_rj m) 3 = 1 ∧ 0 < F 2
   else if m / 100 = 4 then ¬ G (sp_ri m) 3 = 1
   else if m / 100 = 5 then ¬ G (sp_ri m) 3 = 1 ∧ 0 < F 2 ∧ 0 < F 5
   else if m / 100 = 6 then G (sp_ri m) 3 = 1
   else True)) := by
  unfold sp_may
  rw [decide_eq_true_iff]
theorem cx_mayBe (d i : Nat) (m : Int32) (σ : ma_S) (hk : sp_ok (σ.1 2 i 0) (σ.1 4 i)) : ma_cal (d + 3) 16 [vR 2 i 0, vI m] σ = some (some (vI (b2i (sp_may (σ.1 2 i 0) (σ.1 4 i) m = true))), σ) := by
  rw [en_16]
  have hn := hk.2.1
  have tt : sp_may (σ.1 2 i 0) (σ.1 4 i) m = true → some (some (vI 1), σ) = some (some (vI (b2i (sp_may (σ.1 2 i 0) (σ.1 4 i) m = true))), σ) := fun e => by rw [b2i_t e]
  have ff : ¬ sp_may (σ.1 2 i 0) (σ.1 4 i) m = true → some (some (vI 0), σ) = some (some (vI (b2i (sp_may (σ.1 2 i 0) (σ.1 4 i) m = true))), σ) := fun e => by rw [b2i_f e]
  by_cases h : sp_isM (σ.1 2 i 0 1) m = true
  · have hi := sp_isM_in hn h
    have hp := sp_last_pos hk h
    have hne : (sp_last (σ.1 2 i 0) (σ.1 4 i) m = -1) = False := eq_false (fun e => by rw [e] at hp; exact absurd hp (by decide))
    simp only [bk_16_0, bk_16_5, bk_16_11, bk_16_19, bk_16_21, bk_16_40, bk_16_44, bk_16_45, bk_16_62, bk_16_66, bk_16_67, bk_16_73, bk_16_116, bk_16_120, bk_16_127, bk_16_131, bk_16_132, bk_16_133, bk_16_137, bk_16_142, bk_16_149, bk_16_153, bk_16_154, bk_16_155, bk_16_159, bk_16_166, bk_16_170, bk_16_171, bk_16_172, bk_16_176, bk_16_181, bk_16_188, bk_16_192, bk_16_193, bk_16_194, bk_16_198, bk_16_202, bk_16_203, bk_16_204, bk_16_208, bk_16_215, bk_16_222, bk_16_226, bk_16_227, bk_16_228, bk_16_230, cx_minutesOf _ _ _ _ hn, cx_sortOf, h, hne, ma_if_pos hi.1, ma_if_pos hi.2, ma_bd_some, ma_bd_none, ma_tl1, ma_tl0, ma_ap1, ma_ap0, b2i_0, b2i_1, b2i_01, ma_l10, ma_l01, eq_self, if_true, if_false, true_or, or_true, not_true_eq_false, not_false_eq_true, Bool.false_eq_true]
    have hI := sp_may_iff (σ.1 2 i 0) (σ.1 4 i) m
    simp only [h, true_and, sp_ri, sp_rj] at hI
    generalize sp_may (σ.1 2 i 0) (σ.1 4 i) m = B at *
    generalize σ.1 4 i (ma_rm (m / 10) 10).toNatClampNeg 3 = w1 at *
    generalize σ.1 4 i (ma_rm m 10).toNatClampNeg 3 = w2 at *
    generalize sp_last (σ.1 2 i 0) (σ.1 4 i) m = la at *
    generalize m / 100 = o at *
    generalize σ.1 2 i 0 2 = f2 at *
    generalize σ.1 2 i 0 3 = f3 at *
    generalize σ.1 2 i 0 4 = f4 at *
    generalize σ.1 2 i 0 5 = f5 at *
    clear hk hi hn hp hne h
    by_cases c1 : la ≤ f4 <;> by_cases c2 : w1 = 1 <;> by_cases c3 : w2 = 1 <;> simp only [c1, c2, c3, if_true, if_false, true_and, false_and, not_true_eq_false, not_false_eq_true] at hI ⊢
    all_goals (repeat' split)
    all_goals first
      | (apply tt; rw [hI]; clear hI tt ff; simp_all; done)
      | (apply ff; rw [hI]; clear hI tt ff; simp_all; done)
      | (apply tt; rw [hI]; clear hI tt ff; simp only [ma_lt, ma_le] at *; simp_all; done)
      | (apply ff; rw [hI]; clear hI tt ff; simp only [ma_lt, ma_le] at *; simp_all; done)
      | (apply ff; rw [hI]; clear hI tt ff; subst_vars; simp only [ma_lt, ma_le, if_true, if_false] at *; simp at *; omega)
  · have hf : ¬ sp_may (σ.1 2 i 0) (σ.1 4 i) m = true := fun e => h (by unfold sp_may at e; exact (of_decide_eq_true e).1)
    simp only [bk_16_0, bk_16_5, bk_16_11, bk_16_19, bk_16_21, bk_16_40, bk_16_44, bk_16_45, bk_16_62, bk_16_66, bk_16_67, bk_16_73, bk_16_116, bk_16_120, bk_16_127, bk_16_131, bk_16_132, bk_16_133, bk_16_137, bk_16_142, bk_16_149, bk_16_153, bk_16_154, bk_16_155, bk_16_159, bk_16_166, bk_16_170, bk_16_171, bk_16_172, bk_16_176, bk_16_181, bk_16_188, bk_16_192, bk_16_193, bk_16_194, bk_16_198, bk_16_202, bk_16_203, bk_16_204, bk_16_208, bk_16_215, bk_16_222, bk_16_226, bk_16_227, bk_16_228, bk_16_230, cx_minutesOf _ _ _ _ hn, h, ma_lm11, ma_bd_some, ma_bd_none, ma_tl1, ma_tl0, ma_ap1, ma_ap0, b2i_0, b2i_1, b2i_01, ma_l10, ma_l01, eq_self, if_true, if_false, true_or, or_true, not_true_eq_false, not_false_eq_true, Bool.false_eq_true]
    exact ff hf
