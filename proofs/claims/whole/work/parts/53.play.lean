/-! PART 53: RULES: strongest, in turns, the whole play of the class. -/
def sp_xs (F : Nat → Int32) (G : Nat → Nat → Int32) (n : Nat) : Int32 :=
  if sp_hd (sp_o F G n 1) = -1 then
    (if sp_ls (sp_QL F G) (sp_o F G n 2) (-1) = -1 then (if sp_hd (sp_o F G n 4) = -1 then sp_hd (sp_o F G n 0) else sp_hd (sp_o F G n 4)) else sp_ls (sp_QL F G) (sp_o F G n 2) (-1))
  else sp_hd (sp_o F G n 1)
theorem sp_hd_0 {l : List Nat} (h40 : l.length ≤ 40) (h : ∀ v ∈ l, v ≤ 700) : (nI l.length ≤ 0) = (sp_hd l = -1) := by
  rcases l with _ | ⟨v, t⟩
  · exact (eq_true (by decide)).trans (eq_true rfl).symm
  · have h1 := nI_ne1 (h v List.mem_cons_self)
    have e : sp_hd (v :: t) = nI v := rfl
    rw [e, h1]
    rw [List.length_cons] at *
    exact eq_false (nI_nle (by omega) (by omega))
theorem sp_hd_wr {l : List Nat} {old : Nat → Int32} (h : ¬ sp_hd l = -1) : sp_wr old l 0 = sp_hd l := by
  rcases l with _ | ⟨v, t⟩
  · exact absurd rfl h
  · rfl
theorem sp_ls_hd {Q : Nat → Int32 → Bool} {l : List Nat} (h : ∀ v ∈ l, v ≤ 700) : (sp_ls Q l (-1) = -1) = (sp_hd l = -1) := by
  rcases l with _ | ⟨v, t⟩
  · rfl
  · have h1 := nI_ne1 (h v List.mem_cons_self)
    have e : sp_hd (v :: t) = nI v := rfl
    have e2 : sp_ls Q (v :: t) (-1) = sp_ls Q t (nI v) := by
      show sp_ls Q t _ = _
      rw [if_pos rfl]
    rw [e, h1, e2]
    exact eq_false (sp_ls_ne t _ (fun w hw => h w (List.mem_cons_of_mem _ hw)) (of_eq_false h1))
theorem cx_strongest (d n : Nat) (σ : ma_S) (F : Nat → Int32) (G : Nat → Nat → Int32) (f S : Nat → Int32) (hk : sp_ok F G) (hF : F 1 = nI n) (hn : n ≤ 4) : ∃ f', ma_cal (d + 6) 48 [vR 6 0 0] (ma_sg σ F G f S) = some (some (vI (sp_xs F G n)), ma_sg σ F G f' S) := by
  have ls : ∀ o v g, v = nI o → o ≤ 4 → ma_cal (d + 5) 20 [vR 2 3 0, vI v, vI v] (ma_sg σ F G g S) = some (some (vI (nI (sp_o F G n o).length)), ma_sg σ F G (sp_wr g (sp_o F G n o)) S) := fun o v g hv ho => cx_sgList d n σ F G g S o v hv hk hF hn ho
  have l1 := ls 1 1 f rfl (by omega)
  have l2 := ls 2 2 (sp_wr f (sp_o F G n 1)) rfl (by omega)
  have l4 := ls 4 4 (sp_wr (sp_wr f (sp_o F G n 1)) (sp_o F G n 2)) rfl (by omega)
  have l0 := ls 0 0 (sp_wr (sp_wr (sp_wr f (sp_o F G n 1)) (sp_o F G n 2)) (sp_o F G n 4)) rfl (by omega)
  have b7 : ∀ o, o ≤ 4 → ∀ v ∈ sp_o F G n o, v ≤ 700 := fun o ho v hv => by have := (sp_o_mem hF hn ho hv).1; omega
  have z : ∀ o, o ≤ 4 → (nI (sp_o F G n o).length ≤ 0) = (sp_hd (sp_o F G n o) = -1) := fun o ho => sp_hd_0 (sp_o_len hn ho) (b7 o ho)
  have z1 := z 1 (by omega)
  have z2 := z 2 (by omega)
  have z4 := z 4 (by omega)
  have z0 := z 0 (by omega)
  have y2 := sp_ls_hd (Q := sp_QL F G) (b7 2 (by omega))
  have la : ma_la 103 = 40 := rfl
  have hin : ma_in (0 : Int32) 40 := ⟨by decide, by decide⟩
  have c0 : Int32.toNatClampNeg 0 = 0 := by decide
  unfold sp_xs
  rw [en_48]
  rcases Classical.propComplete (sp_hd (sp_o F G n 1) = -1) with c1 | c1
  case inr =>
    refine ⟨sp_wr f (sp_o F G n 1), ?_⟩
    have hw := sp_hd_wr (old := f) (of_eq_false c1)
    simp only [bk_48_0, bk_48_9, bk_48_12, bk_48_22, bk_48_31, bk_48_36, bk_48_41, bk_48_42, bk_48_51, bk_48_54, bk_48_64, bk_48_73, bk_48_76, bk_48_88, bk_48_89, l1, z1, c1, Nat.reduceAdd, la, ma_if_pos hin, ma_sg_fk, c0, hw, ↓reduceIte, ma_bd_some, ma_bd_none, ma_tl1, ma_tl0, ma_ap1, ma_ap0, b2i_0, b2i_1, b2i_01, ma_l10, ma_l01, eq_self, true_or, or_true, not_true_eq_false, not_false_eq_true, Bool.false_eq_true]
  rcases Classical.propComplete (sp_hd (sp_o F G n 2) = -1) with c2 | c2
  case inr =>
    refine ⟨sp_wr (sp_wr f (sp_o F G n 1)) (sp_o F G n 2), ?_⟩
    have hq := cx_quickest (d + 2) n 2 σ F G (sp_wr f (sp_o F G n 1)) S hk hF hn (by omega) (fun e => by
      have e2 : sp_hd (sp_o F G n 2) = -1 := by rw [List.eq_nil_of_length_eq_zero e]; rfl
      exact of_eq_false c2 e2)
    simp only [bk_48_0, bk_48_9, bk_48_12, bk_48_22, bk_48_31, bk_48_36, bk_48_41, bk_48_42, bk_48_51, bk_48_54, bk_48_64, bk_48_73, bk_48_76, bk_48_88, bk_48_89, l1, l2, z1, z2, y2, c1, c2, hq, ↓reduceIte, ma_bd_some, ma_bd_none, ma_tl1, ma_tl0, ma_ap1, ma_ap0, b2i_0, b2i_1, b2i_01, ma_l10, ma_l01, eq_self, true_or, or_true, not_true_eq_false, not_false_eq_true, Bool.false_eq_true]
  rcases Classical.propComplete (sp_hd (sp_o F G n 4) = -1) with c4 | c4
  case inr =>
    refine ⟨sp_wr (sp_wr (sp_wr f (sp_o F G n 1)) (sp_o F G n 2)) (sp_o F G n 4), ?_⟩
    have hw := sp_hd_wr (old := sp_wr (sp_wr f (sp_o F G n 1)) (sp_o F G n 2)) (of_eq_false c4)
    simp only [bk_48_0, bk_48_9, bk_48_12, bk_48_22, bk_48_31, bk_48_36, bk_48_41, bk_48_42, bk_48_51, bk_48_54, bk_48_64, bk_48_73, bk_48_76, bk_48_88, bk_48_89, l1, l2, l4, z1, z2, z4, y2, c1, c2, c4, Nat.reduceAdd, la, ma_if_pos hin, ma_sg_fk, c0, hw, ↓reduceIte, ma_bd_some, ma_bd_none, ma_tl1, ma_tl0, ma_ap1, ma_ap0, b2i_0, b2i_1, b2i_01, ma_l10, ma_l01, eq_self, true_or, or_true, not_true_eq_false, not_false_eq_true, Bool.false_eq_true]
  refine ⟨sp_wr (sp_wr (sp_wr (sp_wr f (sp_o F G n 1)) (sp_o F G n 2)) (sp_o F G n 4)) (sp_o F G n 0), ?_⟩
  rcases Classical.propComplete (sp_hd (sp_o F G n 0) = -1) with c5 | c5
  · simp only [bk_48_0, bk_48_9, bk_48_12, bk_48_22, bk_48_31, bk_48_36, bk_48_41, bk_48_42, bk_48_51, bk_48_54, bk_48_64, bk_48_73, bk_48_76, bk_48_88, bk_48_89, l1, l2, l4, l0, z1, z2, z4, z0, y2, c1, c2, c4, c5, ↓reduceIte, ma_bd_some, ma_bd_none, ma_tl1, ma_tl0, ma_ap1, ma_ap0, b2i_0, b2i_1, b2i_01, ma_l10, ma_l01, eq_self, true_or, or_true, not_true_eq_false, not_false_eq_true, Bool.false_eq_true]
    rw [of_eq_true c5]
  · have hw := sp_hd_wr (old := sp_wr (sp_wr (sp_wr f (sp_o F G n 1)) (sp_o F G n 2)) (sp_o F G n 4)) (of_eq_false c5)
    simp only [bk_48_0, bk_48_9, bk_48_12, bk_48_22, bk_48_31, bk_48_36, bk_48_41, bk_48_42, bk_48_51, bk_48_54, bk_48_64, bk_48_73, bk_48_76, bk_48_88, bk_48_89, l1, l2, l4, l0, z1, z2, z4, z0, y2, c1, c2, c4, c5, Nat.reduceAdd, la, ma_if_pos hin, ma_sg_fk, c0, hw, ↓reduceIte, ma_bd_some, ma_bd_none, ma_tl1, ma_tl0, ma_ap1, ma_ap0, b2i_0, b2i_1, b2i_01, ma_l10, ma_l01, eq_self, true_or, or_true, not_true_eq_false, not_false_eq_true, Bool.false_eq_true]
/-- whose turn it is behind one's -/
def sp_nk (n k : Nat) : Nat := if k + 1 < n then k + 1 else 0
theorem sp_nk_lt {n k : Nat} (h : k < n) : sp_nk n k < n := by unfold sp_nk; split <;> omega
def sp_tn (A : Nat → Bool) (U : Nat → Int32) (n : Nat) : Nat → Nat → Int32 × Nat
  | 0, k => (-1, k)
  | c + 1, k => if A k = true then (nI (10 * k), k) else if U k = -1 then sp_tn A U n c (sp_nk n k) else (U k, sp_nk n k)
def sp_A (F : Nat → Int32) (G : Nat → Nat → Int32) (k : Nat) : Bool := sp_P F G (10 * k)
def sp_U (l : Bool) (F : Nat → Int32) (G : Nat → Nat → Int32) (k : Nat) : Int32 := if l = true ∧ sp_P F G (500 + 10 * k) = true then nI (500 + 10 * k) else if sp_P F G (200 + 10 * k) = true then nI (200 + 10 * k) else -1
theorem cx_inTurns_loop (d n : Nat) (l : Bool) (σ : ma_S) (F : Nat → Int32) (G : Nat → Nat → Int32) (f S0 : Nat → Int32) (hk : sp_ok F G) (hF : F 1 = nI n) (hn : n ≤ 4) : ∀ (c a k : Nat) (u2 u3 u4 : Option ma_V), a + c = n → (k < n ∨ n = 0) → ma_ex (d + 3) 45 2 [some (vR 6 0 0), some (vI (nI a)), u2, u3, u4] [] (ma_sg σ F G f (sp_S S0 (b2i (l = true)) (nI k))) = some (some (vI (sp_tn (sp_A F G) (sp_U l F G) n c k).1), ma_sg σ F G f (sp_S S0 (b2i (l = true)) (nI (sp_tn (sp_A F G) (sp_U l F G) n c k).2))) := by
  intro c
  induction c with
  | zero =>
    intro a k u2 u3 u4 h hkn
    rw [bk_45_2, ma_sg_Fk, hF, if_pos (nI_le (by omega) (by omega)), bk_45_128]
    rfl
  | succ c ih =>
    intro a k u2 u3 u4 h hkn
    have hkn' : k < n := by omega
    have hih := ih (a + 1) (sp_nk n k) (some (vI (nI (10 * k)))) (some (vI (nI (200 + 10 * k)))) (some (vI (nI (500 + 10 * k)))) (by omega) (Or.inl (sp_nk_lt hkn'))
    rw [nI_succ] at hih
    have hmv : ∀ o w, w = nI o → o ≤ 7 → 100 * w + 10 * nI k + 0 = nI (100 * o + 10 * k) := fun o w hw ho => by
      have z := nI_mv (o := o) (r := k) (q := 0) ho (by omega) (by omega)
      rw [nI_0, Nat.add_zero] at z
      rw [hw]
      exact z
    have v0 := hmv 0 0 rfl (by omega)
    have v2 := hmv 2 2 rfl (by omega)
    have v5 := hmv 5 5 rfl (by omega)
    rw [show 100 * 0 + 10 * k = 10 * k by omega] at v0
    rw [show 100 * 2 + 10 * k = 200 + 10 * k by omega] at v2
    rw [show 100 * 5 + 10 * k = 500 + 10 * k by omega] at v5
    have eA : sp_A F G k = sp_may F G (nI (10 * k)) := rfl
    have hnx : (nI n ≤ nI k + 1) = (sp_nk n k = 0) := by
      apply propext
      rw [nI_1, nI_leI (by omega) (by omega)]
      unfold sp_nk
      split <;> omega
    have hst : sp_tn (sp_A F G) (sp_U l F G) n (c + 1) k = if sp_A F G k = true then (nI (10 * k), k) else if sp_U l F G k = -1 then sp_tn (sp_A F G) (sp_U l F G) n c (sp_nk n k) else (sp_U l F G k, sp_nk n k) := rfl
    rw [bk_45_2, ma_sg_Fk, hF, if_neg (nI_ge (by omega) (by omega)), hst]
    by_cases cA : sp_A F G k = true
    · rw [if_pos cA]
      have cA' := eq_true (eA ▸ cA)
      simp only [bk_45_0, bk_45_13, bk_45_22, bk_45_32, bk_45_42, bk_45_52, bk_45_55, bk_45_57, bk_45_74, bk_45_83, bk_45_84, bk_45_94, bk_45_103, bk_45_106, bk_45_109, bk_45_117, bk_45_120, bk_45_122, bk_45_128, cx_moveOf, ma_sg_Sk, sp_S_2, v0, v2, v5, cx_sgMay _ _ _ _ _ _ _ hk, cA', ↓reduceIte, ma_bd_some, ma_bd_none, ma_tl1, ma_tl0, ma_ap1, ma_ap0, b2i_0, b2i_1, b2i_01, ma_l10, ma_l01, eq_self, true_or, or_true, not_true_eq_false, not_false_eq_true, Bool.false_eq_true]
    · rw [if_neg cA]
      have cA' := eq_false (eA ▸ cA)
      have n5 : ¬ nI (500 + 10 * k) = -1 := of_eq_false (nI_ne1 (by omega))
      have n2 : ¬ nI (200 + 10 * k) = -1 := of_eq_false (nI_ne1 (by omega))
      have tail : ma_ex (d + 3) 45 84 [some (vR 6 0 0), some (vI (nI a)), some (vI (nI (10 * k))), some (vI (nI (200 + 10 * k))), some (vI (nI (500 + 10 * k)))] [vI (nI (sp_nk n k)), vR 6 0 0] (ma_sg σ F G f (sp_S S0 (b2i (l = true)) (nI k))) = some (some (vI (if sp_U l F G k = -1 then sp_tn (sp_A F G) (sp_U l F G) n c (sp_nk n k) else (sp_U l F G k, sp_nk n k)).1), ma_sg σ F G f (sp_S S0 (b2i (l = true)) (nI (if sp_U l F G k = -1 then sp_tn (sp_A F G) (sp_U l F G) n c (sp_nk n k) else (sp_U l F G k, sp_nk n k)).2))) := by
        cases l
        · have nf : ¬ (false = true ∧ sp_may F G (nI (500 + 10 * k)) = true) := fun z => Bool.false_ne_true z.1
          rcases Classical.propComplete (sp_may F G (nI (200 + 10 * k)) = true) with c2 | c2
          · have hU : sp_U false F G k = nI (200 + 10 * k) := by unfold sp_U sp_P; rw [if_neg nf, if_pos (of_eq_true c2)]
            rw [hU, if_neg n2]
            simp only [bk_45_0, bk_45_13, bk_45_22, bk_45_32, bk_45_42, bk_45_52, bk_45_55, bk_45_57, bk_45_74, bk_45_83, bk_45_84, bk_45_94, bk_45_103, bk_45_106, bk_45_109, bk_45_117, bk_45_120, bk_45_122, bk_45_128, ma_sg_uS, sp_S_u2, ma_sg_Sk, sp_S_1, cx_sgMay _ _ _ _ _ _ _ hk, c2, ↓reduceIte, ma_bd_some, ma_bd_none, ma_tl1, ma_tl0, ma_ap1, ma_ap0, b2i_0, b2i_1, b2i_01, ma_l10, ma_l01, eq_self, true_or, or_true, not_true_eq_false, not_false_eq_true, Bool.false_eq_true]
          · have hU : sp_U false F G k = -1 := by unfold sp_U sp_P; rw [if_neg nf, if_neg (of_eq_false c2)]
            rw [hU, if_pos rfl, ← hih]
            simp only [bk_45_0, bk_45_13, bk_45_22, bk_45_32, bk_45_42, bk_45_52, bk_45_55, bk_45_57, bk_45_74, bk_45_83, bk_45_84, bk_45_94, bk_45_103, bk_45_106, bk_45_109, bk_45_117, bk_45_120, bk_45_122, bk_45_128, ma_sg_uS, sp_S_u2, ma_sg_Sk, sp_S_1, cx_sgMay _ _ _ _ _ _ _ hk, c2, ↓reduceIte, ma_bd_some, ma_bd_none, ma_tl1, ma_tl0, ma_ap1, ma_ap0, b2i_0, b2i_1, b2i_01, ma_l10, ma_l01, eq_self, true_or, or_true, not_true_eq_false, not_false_eq_true, Bool.false_eq_true]
        · rcases Classical.propComplete (sp_may F G (nI (500 + 10 * k)) = true) with c5 | c5
          · have hU : sp_U true F G k = nI (500 + 10 * k) := by unfold sp_U sp_P; rw [if_pos ⟨rfl, of_eq_true c5⟩]
            rw [hU, if_neg n5]
            simp only [bk_45_0, bk_45_13, bk_45_22, bk_45_32, bk_45_42, bk_45_52, bk_45_55, bk_45_57, bk_45_74, bk_45_83, bk_45_84, bk_45_94, bk_45_103, bk_45_106, bk_45_109, bk_45_117, bk_45_120, bk_45_122, bk_45_128, ma_sg_uS, sp_S_u2, ma_sg_Sk, sp_S_1, cx_sgMay _ _ _ _ _ _ _ hk, c5, ↓reduceIte, ma_bd_some, ma_bd_none, ma_tl1, ma_tl0, ma_ap1, ma_ap0, b2i_0, b2i_1, b2i_01, ma_l10, ma_l01, eq_self, true_or, or_true, not_true_eq_false, not_false_eq_true, Bool.false_eq_true]
          · have nf : ¬ (true = true ∧ sp_may F G (nI (500 + 10 * k)) = true) := fun z => of_eq_false c5 z.2
            rcases Classical.propComplete (sp_may F G (nI (200 + 10 * k)) = true) with c2 | c2
            · have hU : sp_U true F G k = nI (200 + 10 * k) := by unfold sp_U sp_P; rw [if_neg nf, if_pos (of_eq_true c2)]
              rw [hU, if_neg n2]
              simp only [bk_45_0, bk_45_13, bk_45_22, bk_45_32, bk_45_42, bk_45_52, bk_45_55, bk_45_57, bk_45_74, bk_45_83, bk_45_84, bk_45_94, bk_45_103, bk_45_106, bk_45_109, bk_45_117, bk_45_120, bk_45_122, bk_45_128, ma_sg_uS, sp_S_u2, ma_sg_Sk, sp_S_1, cx_sgMay _ _ _ _ _ _ _ hk, c5, c2, ↓reduceIte, ma_bd_some, ma_bd_none, ma_tl1, ma_tl0, ma_ap1, ma_ap0, b2i_0, b2i_1, b2i_01, ma_l10, ma_l01, eq_self, true_or, or_true, not_true_eq_false, not_false_eq_true, Bool.false_eq_true]
            · have hU : sp_U true F G k = -1 := by unfold sp_U sp_P; rw [if_neg nf, if_neg (of_eq_false c2)]
              rw [hU, if_pos rfl, ← hih]
              simp only [bk_45_0, bk_45_13, bk_45_22, bk_45_32, bk_45_42, bk_45_52, bk_45_55, bk_45_57, bk_45_74, bk_45_83, bk_45_84, bk_45_94, bk_45_103, bk_45_106, bk_45_109, bk_45_117, bk_45_120, bk_45_122, bk_45_128, ma_sg_uS, sp_S_u2, ma_sg_Sk, sp_S_1, cx_sgMay _ _ _ _ _ _ _ hk, c5, c2, ↓reduceIte, ma_bd_some, ma_bd_none, ma_tl1, ma_tl0, ma_ap1, ma_ap0, b2i_0, b2i_1, b2i_01, ma_l10, ma_l01, eq_self, true_or, or_true, not_true_eq_false, not_false_eq_true, Bool.false_eq_true]
      rw [← tail]
      rcases Classical.propComplete (sp_nk n k = 0) with c0 | c0
      · have e0 : nI (sp_nk n k) = 0 := by rw [of_eq_true c0, nI_0]
        simp only [bk_45_13, bk_45_22, bk_45_32, bk_45_42, bk_45_52, bk_45_57, bk_45_83, cx_moveOf, ma_sg_Sk, ma_sg_Fk, hF, sp_S_2, v0, v2, v5, cx_sgMay _ _ _ _ _ _ _ hk, cA', hnx, c0, e0, ↓reduceIte, ma_bd_some, ma_bd_none, ma_tl1, ma_tl0, ma_ap1, ma_ap0, b2i_0, b2i_1, b2i_01, ma_l10, ma_l01, eq_self, true_or, or_true, not_true_eq_false, not_false_eq_true, Bool.false_eq_true]
      · have e0 : nI k + 1 = nI (sp_nk n k) := by
          have : sp_nk n k = k + 1 := by
            have z := of_eq_false c0
            unfold sp_nk at z ⊢
            split
            · rfl
            · rename_i w; rw [if_neg w] at z; exact absurd rfl z
          rw [this, nI_succ]
        have hnx2 := eq_false (nI_ge (sp_nk_lt hkn') (by omega))
        simp only [bk_45_13, bk_45_22, bk_45_32, bk_45_42, bk_45_52, bk_45_57, bk_45_74, cx_moveOf, ma_sg_Sk, ma_sg_Fk, hF, sp_S_2, v0, v2, v5, cx_sgMay _ _ _ _ _ _ _ hk, cA', hnx2, e0, ↓reduceIte, ma_bd_some, ma_bd_none, ma_tl1, ma_tl0, ma_ap1, ma_ap0, b2i_0, b2i_1, b2i_01, ma_l10, ma_l01, eq_self, true_or, or_true, not_true_eq_false, not_false_eq_true, Bool.false_eq_true]
theorem cx_inTurns (d n k : Nat) (l : Bool) (σ : ma_S) (F : Nat → Int32) (G : Nat → Nat → Int32) (f S0 : Nat → Int32) (hk : sp_ok F G) (hF : F 1 = nI n) (hn : n ≤ 4) (hkn : k < n ∨ n = 0) : ma_cal (d + 4) 45 [vR 6 0 0] (ma_sg σ F G f (sp_S S0 (b2i (l = true)) (nI k))) = some (some (vI (sp_tn (sp_A F G) (sp_U l F G) n n k).1), ma_sg σ F G f (sp_S S0 (b2i (l = true)) (nI (sp_tn (sp_A F G) (sp_U l F G) n n k).2))) := by
  have h := cx_inTurns_loop d n l σ F G f S0 hk hF hn n 0 k none none none (by omega) hkn
  rw [nI_0] at h
  rw [en_45, bk_45_0, h]
theorem sp_tn_lt {A : Nat → Bool} {U : Nat → Int32} {n : Nat} : ∀ c k, k < n → (sp_tn A U n c k).2 < n := by
  intro c
  induction c with
  | zero => intro k h; exact h
  | succ c ih =>
    intro k h
    unfold sp_tn
    split
    · exact h
    split
    · exact ih _ (sp_nk_lt h)
    · exact sp_nk_lt h
/-- the next MOVE of a RULE, and whose turn it is then -/
def sp_nx (ρ : Nat) (l : Bool) (F : Nat → Int32) (G : Nat → Nat → Int32) (n t : Nat) : Int32 × Nat :=
  if ρ = 0 then (if sp_may F G 101 = true then 101 else 301, t)
  else if ρ = 1 then sp_tn (sp_A F G) (sp_U l F G) n n t
  else if ρ = 2 then (if sp_ls (sp_QT G) (sp_o F G n 0) (-1) = -1 then sp_ls (sp_QT G) (sp_o F G n 2) (-1) else sp_ls (sp_QT G) (sp_o F G n 0) (-1), t)
  else (sp_xs F G n, t)
theorem sp_nx_lt {ρ : Nat} {l : Bool} {F : Nat → Int32} {G : Nat → Nat → Int32} {n t : Nat} (h : t < n ∨ n = 0) : (sp_nx ρ l F G n t).2 < n ∨ n = 0 := by
  rcases h with h | h
  · left
    unfold sp_nx
    split
    · exact h
    split
    · exact sp_tn_lt n t h
    split
    · exact h
    · exact h
  · exact Or.inr h
/-- c MOVES at most by a RULE, k before: how many then, and the hill -/
def sp_pl (ρ : Nat) (l : Bool) (n : Nat) : Nat → Nat → (Nat → Int32) → (Nat → Nat → Int32) → Nat → Nat × (Nat → Int32) × (Nat → Nat → Int32)
  | 0, k, F, G, _ => (k, F, G)
  | c + 1, k, F, G, t => if sp_may F G (sp_nx ρ l F G n t).1 = true then sp_pl ρ l n c (k + 1) (sp_mvF F G (sp_nx ρ l F G n t).1) (sp_mvG F G (sp_nx ρ l F G n t).1) (sp_nx ρ l F G n t).2 else (k, F, G)
theorem cx_rule (d n ρ t : Nat) (l : Bool) (hρ : ρ ≤ 3) (mo li go ma : Int32) (u7 : Option ma_V) (a b : Nat) (σ : ma_S) (F : Nat → Int32) (G : Nat → Nat → Int32) (f S0 : Nat → Int32) (hk : sp_ok F G) (hF : F 1 = nI n) (hn : n ≤ 4) (ht : t < n ∨ n = 0) : ∃ f', ma_ex (d + 6) 43 61 [some (vR 6 0 0), some (vR 2 a b), some (vI (nI ρ)), some (vI mo), some (vI li), some (vI ma), some (vI go), u7] [] (ma_sg σ F G f (sp_S S0 (b2i (l = true)) (nI t))) = ma_ex (d + 6) 43 121 [some (vR 6 0 0), some (vR 2 a b), some (vI (nI ρ)), some (vI mo), some (vI li), some (vI ma), some (vI go), some (vI (sp_nx ρ l F G n t).1)] [] (ma_sg σ F G f' (sp_S S0 (b2i (l = true)) (nI (sp_nx ρ l F G n t).2))) := by
  rcases (show ρ = 0 ∨ ρ = 1 ∨ ρ = 2 ∨ ρ = 3 by omega) with rfl | rfl | rfl | rfl
  · refine ⟨f, ?_⟩
    have e : sp_nx 0 l F G n t = (if sp_may F G 101 = true then 101 else 301, t) := rfl
    have h := cx_together (d + 2) σ F G f (sp_S S0 (b2i (l = true)) (nI t)) hk
    have z : nI 0 = 0 := nI_0
    rw [e]
    simp only [bk_43_61, bk_43_88, bk_43_92, z, h, ↓reduceIte, ma_bd_some, ma_bd_none, ma_tl1, ma_tl0, ma_ap1, ma_ap0, b2i_0, b2i_1, b2i_01, ma_l10, ma_l01, eq_self, true_or, or_true, not_true_eq_false, not_false_eq_true, Bool.false_eq_true]
  · refine ⟨f, ?_⟩
    have e : sp_nx 1 l F G n t = sp_tn (sp_A F G) (sp_U l F G) n n t := rfl
    have h := cx_inTurns (d + 2) n t l σ F G f S0 hk hF hn ht
    have z : nI 1 = 1 := rfl
    rw [e]
    simp (decide := true) only [bk_43_61, bk_43_97, bk_43_101, z, h, ↓reduceIte, ma_bd_some, ma_bd_none, ma_tl1, ma_tl0, ma_ap1, ma_ap0, b2i_0, b2i_1, b2i_01, ma_l10, ma_l01, eq_self, true_or, or_true, not_true_eq_false, not_false_eq_true, Bool.false_eq_true]
  · obtain ⟨f', h⟩ := cx_rested d n σ F G f (sp_S S0 (b2i (l = true)) (nI t)) hk hF hn
    refine ⟨f', ?_⟩
    have e : sp_nx 2 l F G n t = (if sp_ls (sp_QT G) (sp_o F G n 0) (-1) = -1 then sp_ls (sp_QT G) (sp_o F G n 2) (-1) else sp_ls (sp_QT G) (sp_o F G n 0) (-1), t) := rfl
    have z : nI 2 = 2 := rfl
    rw [e]
    simp (decide := true) only [bk_43_61, bk_43_106, bk_43_110, z, h, ↓reduceIte, ma_bd_some, ma_bd_none, ma_tl1, ma_tl0, ma_ap1, ma_ap0, b2i_0, b2i_1, b2i_01, ma_l10, ma_l01, eq_self, true_or, or_true, not_true_eq_false, not_false_eq_true, Bool.false_eq_true]
  · obtain ⟨f', h⟩ := cx_strongest d n σ F G f (sp_S S0 (b2i (l = true)) (nI t)) hk hF hn
    refine ⟨f', ?_⟩
    have e : sp_nx 3 l F G n t = (sp_xs F G n, t) := rfl
    have z : nI 3 = 3 := rfl
    rw [e]
    simp (decide := true) only [bk_43_61, bk_43_115, bk_43_119, z, h, ↓reduceIte, ma_bd_some, ma_bd_none, ma_tl1, ma_tl0, ma_ap1, ma_ap0, b2i_0, b2i_1, b2i_01, ma_l10, ma_l01, eq_self, true_or, or_true, not_true_eq_false, not_false_eq_true, Bool.false_eq_true]
theorem cx_play_loop (d n ρ M : Nat) (l : Bool) (hρ : ρ ≤ 3) (hM : M ≤ 300) (mo li : Int32) (hmo : mo = nI M) (a b : Nat) (σ : ma_S) (S0 : Nat → Int32) (hn : n ≤ 4) : ∀ (c k t : Nat) (F : Nat → Int32) (G : Nat → Nat → Int32) (f : Nat → Int32) (u7 : Option ma_V), k + c = M → sp_ok F G → F 1 = nI n → (t < n ∨ n = 0) → ∃ (f' : Nat → Int32) (t' : Nat), ma_ex (d + 6) 43 50 [some (vR 6 0 0), some (vR 2 a b), some (vI (nI ρ)), some (vI mo), some (vI li), some (vI (nI k)), some (vI 1), u7] [] (ma_sg σ F G f (sp_S S0 (b2i (l = true)) (nI t))) = some (some (vI (nI (sp_pl ρ l n c k F G t).1)), ma_sg σ (sp_pl ρ l n c k F G t).2.1 (sp_pl ρ l n c k F G t).2.2 f' (sp_S S0 (b2i (l = true)) (nI t'))) := by
  have n10 : ¬ (1 : Int32) = 0 := by decide
  intro c
  induction c with
  | zero =>
    intro k t F G f u7 h hk hF ht
    refine ⟨f, t, ?_⟩
    rw [bk_43_50, if_neg n10, bk_43_55, hmo, if_pos (nI_le (by omega) (by omega)), bk_43_150]
    rfl
  | succ c ih =>
    intro k t F G f u7 h hk hF ht
    obtain ⟨f1, h1⟩ := cx_rule d n ρ t l hρ mo li 1 (nI k) u7 a b σ F G f S0 hk hF hn ht
    have hmk := cx_sgMake (d + 2) σ F G f1 (sp_S S0 (b2i (l = true)) (nI (sp_nx ρ l F G n t).2)) (sp_nx ρ l F G n t).1 hk
    have hst : sp_pl ρ l n (c + 1) k F G t = if sp_may F G (sp_nx ρ l F G n t).1 = true then sp_pl ρ l n c (k + 1) (sp_mvF F G (sp_nx ρ l F G n t).1) (sp_mvG F G (sp_nx ρ l F G n t).1) (sp_nx ρ l F G n t).2 else (k, F, G) := rfl
    have e61 : ma_ex (d + 6) 43 50 [some (vR 6 0 0), some (vR 2 a b), some (vI (nI ρ)), some (vI mo), some (vI li), some (vI (nI k)), some (vI 1), u7] [] (ma_sg σ F G f (sp_S S0 (b2i (l = true)) (nI t))) = ma_ex (d + 6) 43 61 [some (vR 6 0 0), some (vR 2 a b), some (vI (nI ρ)), some (vI mo), some (vI li), some (vI (nI k)), some (vI 1), u7] [] (ma_sg σ F G f (sp_S S0 (b2i (l = true)) (nI t))) := by
      rw [bk_43_50, if_neg n10, bk_43_55, hmo, if_neg (nI_ge (by omega) (by omega))]
    rw [e61, h1, hst]
    by_cases hm : sp_may F G (sp_nx ρ l F G n t).1 = true
    · rw [if_pos hm] at hmk ⊢
      obtain ⟨f2, t2, h2⟩ := ih (k + 1) (sp_nx ρ l F G n t).2 _ _ f1 (some (vI (sp_nx ρ l F G n t).1)) (by omega) (sp_mv_ok hk hm) (by rw [sp_mvF_1]; exact hF) (sp_nx_lt ht)
      refine ⟨f2, t2, ?_⟩
      rw [← h2]
      simp only [bk_43_121, bk_43_130, bk_43_139, bk_43_144, hmk, nI_1, ↓reduceIte, ma_bd_some, ma_bd_none, ma_tl1, ma_tl0, ma_ap1, ma_ap0, b2i_0, b2i_1, b2i_01, ma_l10, ma_l01, eq_self, true_or, or_true, not_true_eq_false, not_false_eq_true, Bool.false_eq_true]
    · rw [if_neg hm] at hmk ⊢
      refine ⟨f1, (sp_nx ρ l F G n t).2, ?_⟩
      have a0 : nI k + 0 = nI k := Int32.add_zero _
      simp only [bk_43_121, bk_43_130, bk_43_143, bk_43_144, bk_43_50, bk_43_150, hmk, a0, ↓reduceIte, ma_bd_some, ma_bd_none, ma_tl1, ma_tl0, ma_ap1, ma_ap0, b2i_0, b2i_1, b2i_01, ma_l10, ma_l01, eq_self, true_or, or_true, not_true_eq_false, not_false_eq_true, Bool.false_eq_true]
