/-! PART 55: RULES: the model's turns. -/
theorem nI_t10 {k : Nat} (h : k ≤ 4) : 10 * nI k = nI (10 * k) := by
  rcases k with _|_|_|_|_|k
  all_goals first | omega | decide
theorem nI_a10 {k : Nat} (h : k ≤ 4) : 500 + nI (10 * k) = nI (500 + 10 * k) ∧ 200 + nI (10 * k) = nI (200 + 10 * k) := by
  rcases k with _|_|_|_|_|k
  all_goals first | omega | exact ⟨by decide, by decide⟩
theorem sp_nk_rm {n k : Nat} (hk : k < n) (hn : n ≤ 4) : ma_rm (nI k + 1) (nI n) = nI (sp_nk n k) := by
  have h : ∀ n : Fin 5, ∀ k : Fin 5, k.val < n.val → ma_rm (nI k.val + 1) (nI n.val) = nI (sp_nk n.val k.val) := by decide +kernel
  exact h ⟨n, by omega⟩ ⟨k, by omega⟩ hk
def sp_up (l : Bool) (S : Nat → Int32) (T : Nat → Nat → Int32) (k : Nat) : Nat := if l = true ∧ sp_may S T (nI (500 + 10 * k)) = true then 500 + 10 * k else 200 + 10 * k
theorem sp_U_up (l : Bool) (S : Nat → Int32) (T : Nat → Nat → Int32) (k : Nat) : sp_U l S T k = if sp_may S T (nI (sp_up l S T k)) = true then nI (sp_up l S T k) else -1 := by
  unfold sp_U sp_up sp_P
  by_cases c : l = true ∧ sp_may S T (nI (500 + 10 * k)) = true
  · rw [if_pos c, if_pos c, if_pos c.2]
  · rw [if_neg c, if_neg c]
theorem sp_up_w {l : Bool} {S : Nat → Int32} {T : Nat → Nat → Int32} {k : Nat} (hk : sp_ok S T) (h4 : k < 4) (hm : sp_may S T (nI (sp_up l S T k)) = true) : T k 3 = 0 := by
  have key : ∀ o, (o = 5 ∨ o = 2) → sp_may S T (nI (100 * o + 10 * k)) = true → T k 3 = 0 := by
    intro o ho hm
    obtain ⟨h1, -, h3⟩ := (sp_may_iff S T _).mp hm
    have hv := nI_toInt (n := 100 * o + 10 * k) (by omega)
    have hri := sp_ri_of (o := o) (r := k) (by omega) (by omega)
    have hd := sp_d100 (m := nI (100 * o + 10 * k)) (by omega)
    have hso : nI (100 * o + 10 * k) / 100 = nI o := by
      rw [ma_eq, hd, hv, nI_toInt (by omega)]
      omega
    rw [hso, hri] at h3
    have hT : ¬ T k 3 = 1 := by
      rcases ho with rfl | rfl
      · have n0 : ¬ nI 5 = 0 := by decide
        have n1 : ¬ nI 5 = 1 := by decide
        have n2 : ¬ nI 5 = 2 := by decide
        have n3 : ¬ nI 5 = 3 := by decide
        have n4 : ¬ nI 5 = 4 := by decide
        have n5 : nI 5 = 5 := by decide
        rw [if_neg n0, if_neg n1, if_neg n2, if_neg n3, if_neg n4, if_pos n5] at h3
        exact h3.1
      · have n0 : ¬ nI 2 = 0 := by decide
        have n1 : ¬ nI 2 = 1 := by decide
        have n2 : nI 2 = 2 := by decide
        rw [if_neg n0, if_neg n1, if_pos n2] at h3
        exact h3.1
    rcases sp_ri_lt h1 with z | ⟨z, -⟩
    · rw [hv] at z; omega
    · rw [hri] at z
      exact ((hk.2.2.2.2.2.2.2.2 k z).2.2.1).resolve_right hT
  unfold sp_up at hm
  by_cases c : l = true ∧ sp_may S T (nI (500 + 10 * k)) = true
  · exact key 5 (Or.inl rfl) c.2
  · rw [if_neg c] at hm
    exact key 2 (Or.inr rfl) hm
theorem cm_td_0 (d n k : Nat) (l : Bool) (σ : ma_S) (S : Nat → Int32) (T : Nat → Nat → Int32) (i : Nat) (hk : sp_ok S T) (hF : S 1 = nI n) (hn : n ≤ 4) (hkn : k < n) (h40 : S 40 = nI k) (h41 : S 41 = nI i) (hi : i < n) (u2 u3 u4 : Option ma_V) : ma_ex (d + 4) 169 0 [some (vR 20 0 0), some (vI (b2i (l = true))), u2, u3, u4] [] (ma_mh σ S T) = if S 43 = 0 then ma_ex (d + 4) 169 65 [some (vR 20 0 0), some (vI (b2i (l = true))), some (vI (nI (sp_up l S T k))), u3, u4] [] (ma_mh σ S T) else ma_ex (d + 4) 169 97 [some (vR 20 0 0), some (vI (b2i (l = true))), some (vI (nI (sp_up l S T k))), u3, u4] [] (ma_mh σ S T) := by
  have q1 := eq_false (nI_nle (n := n) (by omega) (by omega))
  have q2 := eq_false (nI_ge hi (by omega))
  have t10 := nI_t10 (k := k) (by omega)
  obtain ⟨a5, a2⟩ := nI_a10 (k := k) (by omega)
  unfold sp_up
  cases l
  · rw [if_neg (show ¬ (false = true ∧ _) from fun z => Bool.false_ne_true z.1)]
    simp only [bk_169_0, bk_169_7, bk_169_18, bk_169_46, bk_169_49, ma_mh_F, hF, h40, h41, q1, q2, t10, a2, ↓reduceIte, ma_bd_some, ma_bd_none, ma_tl1, ma_tl0, ma_ap1, ma_ap0, b2i_0, b2i_1, b2i_01, ma_l10, ma_l01, eq_self, true_or, or_true, not_true_eq_false, not_false_eq_true, Bool.false_eq_true]
  · rcases Classical.propComplete (sp_may S T (nI (500 + 10 * k)) = true) with c | c
    · rw [if_pos (show true = true ∧ sp_may S T (nI (500 + 10 * k)) = true from ⟨rfl, of_eq_true c⟩)]
      simp only [bk_169_0, bk_169_7, bk_169_18, bk_169_22, bk_169_37, bk_169_40, bk_169_49, ma_mh_F, hF, h40, h41, q1, q2, t10, a5, cm_mhMay _ _ _ _ _ hk, c, ↓reduceIte, ma_bd_some, ma_bd_none, ma_tl1, ma_tl0, ma_ap1, ma_ap0, b2i_0, b2i_1, b2i_01, ma_l10, ma_l01, eq_self, true_or, or_true, not_true_eq_false, not_false_eq_true, Bool.false_eq_true]
    · rw [if_neg (show ¬ (true = true ∧ sp_may S T (nI (500 + 10 * k)) = true) from fun z => of_eq_false c z.2)]
      simp only [bk_169_0, bk_169_7, bk_169_18, bk_169_22, bk_169_37, bk_169_46, bk_169_49, ma_mh_F, hF, h40, h41, q1, q2, t10, a5, a2, cm_mhMay _ _ _ _ _ hk, c, ↓reduceIte, ma_bd_some, ma_bd_none, ma_tl1, ma_tl0, ma_ap1, ma_ap0, b2i_0, b2i_1, b2i_01, ma_l10, ma_l01, eq_self, true_or, or_true, not_true_eq_false, not_false_eq_true, Bool.false_eq_true]
/-- behind one whose turn it was, in the model's numbers -/
def sp_tS (n k : Nat) (S : Nat → Int32) : Nat → Int32 := upd (upd S 43 0) 40 (nI (sp_nk n k))
theorem cm_td_97 (d n k up : Nat) (l : Bool) (σ : ma_S) (S : Nat → Int32) (T : Nat → Nat → Int32) (hup : up = sp_up l S T k) (hk : sp_ok S T) (hF : S 1 = nI n) (hn : n ≤ 4) (hkn : k < n) (h40 : S 40 = nI k) (u3 u4 : Option ma_V) : ma_ex (d + 4) 169 97 [some (vR 20 0 0), some (vI (b2i (l = true))), some (vI (nI up)), u3, u4] [] (ma_mh σ S T) = if sp_U l S T k = -1 then ma_ex (d + 4) 169 152 [some (vR 20 0 0), some (vI (b2i (l = true))), some (vI (nI up)), some (vI (nI k)), some (vI (S 43))] [] (ma_mh σ (sp_tS n k S) T) else some (some (vI (sp_U l S T k)), ma_mh σ (upd (sp_tS n k S) 41 0) T) := by
  have q0 := eq_false (nI_ne0 (n := n) (by omega) (by omega))
  have hin : ma_in (nI k) 4 := sp_nIin hkn hn
  have hcl : (nI k).toNatClampNeg = k := nI_clamp (by omega)
  have hnk := sp_nk_rm hkn hn
  have u1 : upd S 43 0 1 = S 1 := rfl
  have u40 : upd S 43 0 40 = S 40 := rfl
  have hk2 : sp_ok (sp_tS n k S) T := hk
  have hmay : ∀ m, sp_may (sp_tS n k S) T m = sp_may S T m := fun _ => rfl
  have eS : upd (upd S 43 0) 40 (nI (sp_nk n k)) = sp_tS n k S := rfl
  have hup7 : up ≤ 700 := by rw [hup]; unfold sp_up; split <;> omega
  have hne := nI_ne1 hup7
  rw [sp_U_up, ← hup]
  rcases Classical.propComplete (sp_may S T (nI up) = true) with c | c
  · have hw := sp_up_w (l := l) hk (show k < 4 by omega) (by rw [← hup]; exact of_eq_true c)
    rw [if_pos (of_eq_true c), if_neg (of_eq_false hne)]
    simp only [bk_169_97, bk_169_137, bk_169_142, bk_169_145, ma_mh_F, ma_mh_A, ma_mh_uF, u1, u40, h40, hF, q0, hnk, eS, ma_if_pos hin, hcl, hw, cm_mhMay _ _ _ _ _ hk2, hmay, c, ↓reduceIte, ma_bd_some, ma_bd_none, ma_tl1, ma_tl0, ma_ap1, ma_ap0, b2i_0, b2i_1, b2i_01, ma_l10, ma_l01, eq_self, true_or, or_true, not_true_eq_false, not_false_eq_true, Bool.false_eq_true]
  · rw [if_neg (of_eq_false c), if_pos rfl]
    rcases Classical.propComplete (T k 3 = 0) with c2 | c2
    · simp only [bk_169_97, bk_169_137, bk_169_142, ma_mh_F, ma_mh_A, ma_mh_uF, u1, u40, h40, hF, q0, hnk, eS, ma_if_pos hin, hcl, c2, cm_mhMay _ _ _ _ _ hk2, hmay, c, ↓reduceIte, ma_bd_some, ma_bd_none, ma_tl1, ma_tl0, ma_ap1, ma_ap0, b2i_0, b2i_1, b2i_01, ma_l10, ma_l01, eq_self, true_or, or_true, not_true_eq_false, not_false_eq_true, Bool.false_eq_true]
    · simp only [bk_169_97, ma_mh_F, ma_mh_A, ma_mh_uF, u1, u40, h40, hF, q0, hnk, eS, ma_if_pos hin, hcl, c2, ↓reduceIte, ma_bd_some, ma_bd_none, ma_tl1, ma_tl0, ma_ap1, ma_ap0, b2i_0, b2i_1, b2i_01, ma_l10, ma_l01, eq_self, true_or, or_true, not_true_eq_false, not_false_eq_true, Bool.false_eq_true]
/-- what the model's turns leave behind -/
def sp_tE (S S' : Nat → Int32) (p : Int32 × Nat) : Prop := (∀ q, q ≠ 40 → q ≠ 41 → q ≠ 43 → S' q = S q) ∧ (p.1 ≠ -1 → S' 40 = nI p.2 ∧ S' 41 = 0 ∧ ∃ D : Bool, S' 43 = b2i (D = true) ∧ (D = true → p.1 = nI (10 * p.2)))
theorem cm_turned_loop (d n : Nat) (l : Bool) (σ : ma_S) (T : Nat → Nat → Int32) (hn : n ≤ 4) : ∀ (c i k : Nat) (S : Nat → Int32) (u2 u3 u4 : Option ma_V), i + c = n → k < n → sp_ok S T → S 1 = nI n → S 40 = nI k → S 41 = nI i → S 43 = 0 → ∃ S', ma_ex (d + 4) 169 0 [some (vR 20 0 0), some (vI (b2i (l = true))), u2, u3, u4] [] (ma_mh σ S T) = some (some (vI (sp_tn (sp_A S T) (sp_U l S T) n c k).1), ma_mh σ S' T) ∧ sp_tE S S' (sp_tn (sp_A S T) (sp_U l S T) n c k) := by
  intro c
  induction c with
  | zero =>
    intro i k S u2 u3 u4 h hkn hk hF h40 h41 h43
    have q1 := eq_false (nI_nle (n := n) (by omega) (by omega))
    have q2 := eq_true (nI_le (show n ≤ i by omega) (by omega))
    refine ⟨S, ?_, fun _ _ _ _ => rfl, fun z => absurd rfl z⟩
    simp only [bk_169_0, bk_169_7, bk_169_170, ma_mh_F, hF, h41, q1, q2, ↓reduceIte, ma_bd_some, ma_bd_none, ma_tl1, ma_tl0, ma_ap1, ma_ap0, b2i_0, b2i_1, b2i_01, ma_l10, ma_l01, eq_self, true_or, or_true, not_true_eq_false, not_false_eq_true, Bool.false_eq_true]
    rfl
  | succ c ih =>
    intro i k S u2 u3 u4 h hkn hk hF h40 h41 h43
    have hst : sp_tn (sp_A S T) (sp_U l S T) n (c + 1) k = if sp_A S T k = true then (nI (10 * k), k) else if sp_U l S T k = -1 then sp_tn (sp_A S T) (sp_U l S T) n c (sp_nk n k) else (sp_U l S T k, sp_nk n k) := rfl
    have t10 := nI_t10 (k := k) (by omega)
    have eA : sp_A S T k = sp_may S T (nI (10 * k)) := rfl
    rw [cm_td_0 d n k l σ S T i hk hF hn hkn h40 h41 (by omega), if_pos h43, hst, eA]
    rcases Classical.propComplete (sp_may S T (nI (10 * k)) = true) with cA | cA
    · rw [if_pos (of_eq_true cA)]
      refine ⟨upd (upd S 43 1) 41 0, ?_, fun q a b e => ?_, fun _ => ⟨?_, rfl, true, rfl, fun _ => rfl⟩⟩
      · have u40 : upd (upd S 43 1) 41 0 40 = S 40 := rfl
        simp only [bk_169_65, bk_169_76, bk_169_79, ma_mh_F, ma_mh_uF, u40, h40, t10, cm_mhMay _ _ _ _ _ hk, cA, ↓reduceIte, ma_bd_some, ma_bd_none, ma_tl1, ma_tl0, ma_ap1, ma_ap0, b2i_0, b2i_1, b2i_01, ma_l10, ma_l01, eq_self, true_or, or_true, not_true_eq_false, not_false_eq_true, Bool.false_eq_true]
      · unfold upd
        rw [if_neg b, if_neg e]
      · exact h40
    · rw [if_neg (of_eq_false cA)]
      have e97 : ma_ex (d + 4) 169 65 [some (vR 20 0 0), some (vI (b2i (l = true))), some (vI (nI (sp_up l S T k))), u3, u4] [] (ma_mh σ S T) = ma_ex (d + 4) 169 97 [some (vR 20 0 0), some (vI (b2i (l = true))), some (vI (nI (sp_up l S T k))), u3, u4] [] (ma_mh σ S T) := by
        simp only [bk_169_65, bk_169_76, ma_mh_F, h40, t10, cm_mhMay _ _ _ _ _ hk, cA, ↓reduceIte, ma_bd_some, ma_bd_none, ma_tl1, ma_tl0, ma_ap1, ma_ap0, b2i_0, b2i_1, b2i_01, ma_l10, ma_l01, eq_self, true_or, or_true, not_true_eq_false, not_false_eq_true, Bool.false_eq_true]
      rw [e97, cm_td_97 d n k _ l σ S T rfl hk hF hn hkn h40]
      by_cases cU : sp_U l S T k = -1
      · rw [if_pos cU, if_pos cU]
        have v41 : sp_tS n k S 41 = nI i := h41
        obtain ⟨S', h1, h2, h3⟩ := ih (i + 1) (sp_nk n k) (upd (sp_tS n k S) 41 (nI (i + 1))) (some (vI (nI (sp_up l S T k)))) (some (vI (nI k))) (some (vI 0)) (by omega) (sp_nk_lt hkn) hk hF rfl rfl rfl
        have eA2 : sp_A (upd (sp_tS n k S) 41 (nI (i + 1))) T = sp_A S T := rfl
        have eU2 : sp_U l (upd (sp_tS n k S) 41 (nI (i + 1))) T = sp_U l S T := rfl
        rw [eA2, eU2] at h1 h3
        refine ⟨S', ?_, fun q a b e => ?_, h3⟩
        · rw [← h1]
          simp only [bk_169_152, bk_169_157, bk_169_167, ma_mh_F, ma_mh_uF, h43, v41, nI_1, ↓reduceIte, ma_bd_some, ma_bd_none, ma_tl1, ma_tl0, ma_ap1, ma_ap0, b2i_0, b2i_1, b2i_01, ma_l10, ma_l01, eq_self, true_or, or_true, not_true_eq_false, not_false_eq_true, Bool.false_eq_true]
        · rw [h2 q a b e]
          unfold sp_tS upd
          rw [if_neg b, if_neg a, if_neg e]
      · rw [if_neg cU, if_neg cU]
        refine ⟨upd (sp_tS n k S) 41 0, rfl, fun q a b e => ?_, fun _ => ⟨rfl, rfl, false, rfl, fun z => absurd z Bool.false_ne_true⟩⟩
        unfold sp_tS upd
        rw [if_neg b, if_neg a, if_neg e]
theorem sp_tn_cyc {A : Nat → Bool} {U : Nat → Int32} {n k : Nat} (hn : n ≤ 4) (hk : k < n) (hA : A k = false) (hU : U k = -1) : (sp_tn A U n n k).1 = (sp_tn A U n n (sp_nk n k)).1 ∧ ((sp_tn A U n n k).1 ≠ -1 → (sp_tn A U n n k).2 = (sp_tn A U n n (sp_nk n k)).2) := by
  rcases n with _|_|_|_|_|n
  · omega
  · have : k = 0 := by omega
    subst this
    simp [sp_tn, sp_nk, hA, hU]
  · rcases k with _|_|k
    all_goals first | omega | skip
    all_goals
      simp only [sp_tn, sp_nk, hA, hU]
      simp
      repeat' split
      all_goals simp_all
  · rcases k with _|_|_|k
    all_goals first | omega | skip
    all_goals
      simp only [sp_tn, sp_nk, hA, hU]
      simp
      repeat' split
      all_goals simp_all
  · rcases k with _|_|_|_|k
    all_goals first | omega | skip
    all_goals
      simp only [sp_tn, sp_nk, hA, hU]
      simp
      repeat' split
      all_goals simp_all
  · omega
theorem cm_turned (d n k : Nat) (l D : Bool) (σ : ma_S) (S : Nat → Int32) (T : Nat → Nat → Int32) (hn : n ≤ 4) (hkn : k < n ∨ n = 0) (hk : sp_ok S T) (hF : S 1 = nI n) (h40 : S 40 = nI k) (h41 : S 41 = 0) (h43 : S 43 = b2i (D = true)) (hD : D = true → sp_A S T k = false) : ∃ S', ma_cal (d + 5) 169 [vR 20 0 0, vI (b2i (l = true))] (ma_mh σ S T) = some (some (vI (sp_tn (sp_A S T) (sp_U l S T) n n k).1), ma_mh σ S' T) ∧ sp_tE S S' (sp_tn (sp_A S T) (sp_U l S T) n n k) := by
  rw [en_169]
  rcases hkn with hkn | hkn
  · cases D
    · exact cm_turned_loop d n l σ T hn n 0 k S none none none (by omega) hkn hk hF h40 (by rw [h41, nI_0]) h43
    · have hA := hD rfl
      have h43' : S 43 = 1 := h43
      rw [cm_td_0 d n k l σ S T 0 hk hF hn hkn h40 (by rw [h41, nI_0]) (by omega), if_neg (by rw [h43']; decide), cm_td_97 d n k _ l σ S T rfl hk hF hn hkn h40]
      by_cases cU : sp_U l S T k = -1
      · rw [if_pos cU]
        obtain ⟨y1, y2⟩ := sp_tn_cyc (A := sp_A S T) (U := sp_U l S T) hn hkn hA cU
        have v41 : sp_tS n k S 41 = nI 0 := by rw [nI_0]; exact h41
        obtain ⟨S', h1, h2, h3⟩ := cm_turned_loop d n l σ T hn n 0 (sp_nk n k) (sp_tS n k S) (some (vI (nI (sp_up l S T k)))) (some (vI (nI k))) (some (vI 1)) (by omega) (sp_nk_lt hkn) hk hF rfl v41 rfl
        have eA2 : sp_A (sp_tS n k S) T = sp_A S T := rfl
        have eU2 : sp_U l (sp_tS n k S) T = sp_U l S T := rfl
        rw [eA2, eU2] at h1 h3
        have n10 : ((1 : Int32) = 0) = False := by decide
        refine ⟨S', ?_, fun q a b e => ?_, fun z => ?_⟩
        · rw [y1, ← h1]
          simp only [bk_169_152, bk_169_167, h43', n10, ↓reduceIte, ma_bd_some, ma_bd_none, ma_tl1, ma_tl0, ma_ap1, ma_ap0, b2i_0, b2i_1, b2i_01, ma_l10, ma_l01, eq_self, true_or, or_true, not_true_eq_false, not_false_eq_true, Bool.false_eq_true]
        · rw [h2 q a b e]
          unfold sp_tS upd
          rw [if_neg a, if_neg e]
        · have z2 := y2 z
          rw [y1] at z
          obtain ⟨a, b, E, e1, e2⟩ := h3 z
          exact ⟨by rw [z2]; exact a, b, E, e1, fun w => by rw [y1, z2]; exact e2 w⟩
      · rw [if_neg cU]
        have hst : sp_tn (sp_A S T) (sp_U l S T) n n k = (sp_U l S T k, sp_nk n k) := by
          rcases n with _ | n
          · omega
          · show (if sp_A S T k = true then _ else if sp_U l S T k = -1 then _ else _) = _
            rw [if_neg (by rw [hA]; exact Bool.false_ne_true), if_neg cU]
        rw [hst]
        refine ⟨upd (sp_tS n k S) 41 0, rfl, fun q a b e => ?_, fun _ => ⟨rfl, rfl, false, rfl, fun z => absurd z Bool.false_ne_true⟩⟩
        unfold sp_tS upd
        rw [if_neg b, if_neg a, if_neg e]
  · subst hkn
    refine ⟨S, ?_, fun _ _ _ _ => rfl, fun z => absurd rfl z⟩
    have q : ((0 : Int32) ≤ 0) = True := by decide
    simp only [bk_169_0, bk_169_170, ma_mh_F, hF, nI_0, q, ↓reduceIte, ma_bd_some, ma_bd_none, ma_tl1, ma_tl0, ma_ap1, ma_ap0, b2i_0, b2i_1, b2i_01, ma_l10, ma_l01, eq_self, true_or, or_true, not_true_eq_false, not_false_eq_true, Bool.false_eq_true]
    rfl
