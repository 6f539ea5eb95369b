/-! PART 56: RULES: the model's ruled, goesOn; both sides by one specification. -/
theorem sp_may_n1 (F : Nat → Int32) (G : Nat → Nat → Int32) : sp_may F G (-1) = false := by
  cases h : sp_may F G (-1) with
  | false => rfl
  | true =>
    have h1 := sp_isM_iff.mp ((sp_may_iff F G (-1)).mp h).1
    have e : (-1 : Int32).toInt = -1 := rfl
    omega
theorem sp_tn_may {l : Bool} {F : Nat → Int32} {G : Nat → Nat → Int32} {n : Nat} : ∀ c k, (sp_tn (sp_A F G) (sp_U l F G) n c k).1 = -1 ∨ sp_may F G (sp_tn (sp_A F G) (sp_U l F G) n c k).1 = true := by
  intro c
  induction c with
  | zero => intro k; exact Or.inl rfl
  | succ c ih =>
    intro k
    unfold sp_tn
    split
    · rename_i h; exact Or.inr h
    split
    · exact ih _
    · rename_i h1 h2
      right
      show sp_may F G (sp_U l F G k) = true
      rw [sp_U_up] at h2 ⊢
      split
      · assumption
      · rename_i h3; rw [if_neg h3] at h2; exact absurd rfl h2
theorem sp_mem_may {F : Nat → Int32} {G : Nat → Nat → Int32} {n o v : Nat} (hF : F 1 = nI n) (hn : n ≤ 4) (ho : o ≤ 4) (h : v ∈ sp_o F G n o) : sp_may F G (nI v) = true := (sp_o_mem hF hn ho h).2
theorem sp_ls_may {Q : Nat → Int32 → Bool} {F : Nat → Int32} {G : Nat → Nat → Int32} {n o : Nat} (hF : F 1 = nI n) (hn : n ≤ 4) (ho : o ≤ 4) : sp_ls Q (sp_o F G n o) (-1) = -1 ∨ sp_may F G (sp_ls Q (sp_o F G n o) (-1)) = true := by
  rcases sp_ls_mem (Q := Q) (l := sp_o F G n o) (sp_o F G n o) (-1) (fun _ h => h) (Or.inl rfl) with h | ⟨w, hw, h⟩
  · exact Or.inl h
  · right
    rw [h]
    exact sp_mem_may hF hn ho hw
theorem sp_hd_may {F : Nat → Int32} {G : Nat → Nat → Int32} {n o : Nat} (hF : F 1 = nI n) (hn : n ≤ 4) (ho : o ≤ 4) : sp_hd (sp_o F G n o) = -1 ∨ sp_may F G (sp_hd (sp_o F G n o)) = true := by
  cases e : sp_o F G n o with
  | nil => exact Or.inl rfl
  | cons v t => exact Or.inr (sp_mem_may hF hn ho (by rw [e]; exact List.mem_cons_self))
/-- the model's answer: none, if it may not be -/
def sp_mm (F : Nat → Int32) (G : Nat → Nat → Int32) (m : Int32) : Int32 := if sp_may F G m = true then m else -1
theorem sp_mm_of {F : Nat → Int32} {G : Nat → Nat → Int32} {m : Int32} (h : m = -1 ∨ sp_may F G m = true) : sp_mm F G m = m := by
  unfold sp_mm
  rcases h with h | h
  · rw [h, sp_may_n1, if_neg Bool.false_ne_true]
  · rw [if_pos h]
theorem sp_nx_may {ρ : Nat} {l : Bool} {F : Nat → Int32} {G : Nat → Nat → Int32} {n t : Nat} (h0 : ρ ≠ 0) (hF : F 1 = nI n) (hn : n ≤ 4) : (sp_nx ρ l F G n t).1 = -1 ∨ sp_may F G (sp_nx ρ l F G n t).1 = true := by
  unfold sp_nx
  rw [if_neg h0]
  split
  · exact sp_tn_may _ _
  split
  · show (if sp_ls (sp_QT G) (sp_o F G n 0) (-1) = -1 then _ else _) = -1 ∨ sp_may F G (if sp_ls (sp_QT G) (sp_o F G n 0) (-1) = -1 then _ else _) = true
    split
    · exact sp_ls_may hF hn (by omega)
    · exact sp_ls_may hF hn (by omega)
  · show sp_xs F G n = -1 ∨ sp_may F G (sp_xs F G n) = true
    unfold sp_xs
    split
    · split
      · split
        · exact sp_hd_may hF hn (by omega)
        · exact sp_hd_may hF hn (by omega)
      · exact sp_ls_may hF hn (by omega)
    · exact sp_hd_may hF hn (by omega)
theorem sp_Re_o {F S : Nat → Int32} {G T : Nat → Nat → Int32} (h : ma_Re F S G T) (n o : Nat) : sp_o F G n o = sp_o S T n o := by
  unfold sp_o
  rw [sp_Re_P h]
theorem sp_nx_Re {ρ n t : Nat} {l : Bool} {F S : Nat → Int32} {G T : Nat → Nat → Int32} (h : ma_Re F S G T) (hk : sp_ok F G) (hF : F 1 = nI n) (hn : n ≤ 4) : sp_nx ρ l F G n t = sp_nx ρ l S T n t := by
  have hni := nI_toInt (n := n) (by omega)
  have eA : sp_A F G = sp_A S T := by unfold sp_A; rw [sp_Re_P h]
  have eU : sp_U l F G = sp_U l S T := by unfold sp_U; rw [sp_Re_P h]
  have eT : ∀ o, o ≤ 4 → sp_ls (sp_QT G) (sp_o F G n o) (-1) = sp_ls (sp_QT T) (sp_o S T n o) (-1) := fun o ho => by
    rw [← sp_Re_o h]
    refine sp_ls_congr (l := sp_o F G n o) (fun v hv w hw => ?_) _ _ (fun _ z => z) (Or.inl rfl)
    have q1 := (sp_P_ri hk hF hn ho hv).2.2.2.2
    have q2 := (sp_P_ri hk hF hn ho hw).2.2.2.2
    unfold sp_QT
    rw [h.2 _ (by rw [hF, hni]; omega) 4 (by omega) (by omega), h.2 (sp_ri (nI w)) (by rw [hF, hni]; omega) 4 (by omega) (by omega)]
  have eL : sp_ls (sp_QL F G) (sp_o F G n 2) (-1) = sp_ls (sp_QL S T) (sp_o S T n 2) (-1) := by
    rw [← sp_Re_o h]
    refine sp_ls_congr (l := sp_o F G n 2) (fun v hv w hw => ?_) _ _ (fun _ z => z) (Or.inl rfl)
    have q1 := (sp_P_ri hk hF hn (by omega) hv).2.2.2.1
    have q2 := (sp_P_ri hk hF hn (by omega) hw).2.2.2.1
    unfold sp_QL
    rw [sp_Re_last h q1, sp_Re_last h q2]
  unfold sp_nx sp_xs
  rw [eA, eU, eT 0 (by omega), eT 2 (by omega), eL, sp_Re_o h, sp_Re_o h, sp_Re_o h, sp_Re_may 101 h]
theorem sp_101 {F : Nat → Int32} {G : Nat → Nat → Int32} {n : Nat} (hF : F 1 = nI n) (hn : n < 2) (m : Int32) (hm : m = 101 ∨ m = 301) : sp_may F G m = false := by
  cases h : sp_may F G m with
  | false => rfl
  | true =>
    exfalso
    have h1 := sp_isM_iff.mp ((sp_may_iff F G m).mp h).1
    rw [hF, nI_toInt (by omega)] at h1
    rcases hm with rfl | rfl
    · have e : (101 : Int32).toInt = 101 := rfl
      have t : sp_two ((101 : Int32) / 100) = true := by decide
      rw [t, if_pos rfl, e] at h1
      omega
    · have e : (301 : Int32).toInt = 301 := rfl
      have t : sp_two ((301 : Int32) / 100) = true := by decide
      rw [t, if_pos rfl, e] at h1
      omega
theorem cm_ruled (d n ρ k : Nat) (l D : Bool) (hρ : ρ ≤ 3) (hl : l = true → ρ = 1) (v : Int32) (hv : v = nI (if l = true then 4 else ρ)) (σ : ma_S) (S : Nat → Int32) (T : Nat → Nat → Int32) (hn : n ≤ 4) (hkn : k < n ∨ n = 0) (hk : sp_ok S T) (hF : S 1 = nI n) (h40 : S 40 = nI k) (h41 : S 41 = 0) (h43 : S 43 = b2i (D = true)) (hD : D = true → ρ = 1 ∧ sp_A S T k = false) : ∃ S', ma_cal (d + 6) 170 [vR 20 0 0, vI v] (ma_mh σ S T) = some (some (vI (sp_mm S T (sp_nx ρ l S T n k).1)), ma_mh σ S' T) ∧ (∀ q, q ≠ 40 → q ≠ 41 → q ≠ 43 → S' q = S q) ∧ (sp_may S T (sp_nx ρ l S T n k).1 = true → S' 40 = nI (sp_nx ρ l S T n k).2 ∧ S' 41 = 0 ∧ ∃ E : Bool, S' 43 = b2i (E = true) ∧ (E = true → ρ = 1 ∧ (sp_nx ρ l S T n k).1 = nI (10 * (sp_nx ρ l S T n k).2))) := by
  have hDf : ρ ≠ 1 → D = false := fun h => by
    cases D
    · rfl
    · exact absurd (hD rfl).1 h
  rw [en_170]
  rcases (show ρ = 0 ∨ ρ = 1 ∨ ρ = 2 ∨ ρ = 3 by omega) with rfl | rfl | rfl | rfl
  · have hl0 : l = false := by
      cases l
      · rfl
      · exact absurd (hl rfl) (by omega)
    subst hl0
    have hD0 := hDf (by omega)
    subst hD0
    have e : sp_nx 0 false S T n k = (if sp_may S T 101 = true then 101 else 301, k) := rfl
    have hv0 : v = 0 := by rw [hv]; rfl
    refine ⟨S, ?_, fun _ _ _ _ => rfl, fun _ => ⟨by rw [e]; exact h40, h41, false, h43, fun z => absurd z Bool.false_ne_true⟩⟩
    rw [e]
    unfold sp_mm
    rcases Classical.propComplete (2 ≤ nI n) with c | c
    · rcases Classical.propComplete (sp_may S T 101 = true) with c1 | c1
      · simp only [bk_170_0, bk_170_32, bk_170_44, bk_170_50, bk_170_53, bk_170_75, hv0, ma_mh_F, hF, c, c1, cm_mhMay _ _ _ _ _ hk, ↓reduceIte, ma_bd_some, ma_bd_none, ma_tl1, ma_tl0, ma_ap1, ma_ap0, b2i_0, b2i_1, b2i_01, ma_l10, ma_l01, eq_self, true_or, or_true, not_true_eq_false, not_false_eq_true, Bool.false_eq_true]
      · rcases Classical.propComplete (sp_may S T 301 = true) with c2 | c2
        all_goals simp only [bk_170_0, bk_170_32, bk_170_44, bk_170_50, bk_170_58, bk_170_65, bk_170_68, bk_170_74, bk_170_75, hv0, ma_mh_F, hF, c, c1, c2, cm_mhMay _ _ _ _ _ hk, ↓reduceIte, ma_bd_some, ma_bd_none, ma_tl1, ma_tl0, ma_ap1, ma_ap0, b2i_0, b2i_1, b2i_01, ma_l10, ma_l01, eq_self, true_or, or_true, not_true_eq_false, not_false_eq_true, Bool.false_eq_true]
    · have hn2 : n < 2 := by
        have z := of_eq_false c
        rw [ma_le, nI_toInt (by omega)] at z
        have e2 : (2 : Int32).toInt = 2 := rfl
        omega
      have q1 := sp_101 (G := T) hF hn2 101 (Or.inl rfl)
      have q3 := sp_101 (G := T) hF hn2 301 (Or.inr rfl)
      simp only [bk_170_0, bk_170_32, bk_170_40, bk_170_75, hv0, ma_mh_F, hF, c, q1, q3, ↓reduceIte, ma_bd_some, ma_bd_none, ma_tl1, ma_tl0, ma_ap1, ma_ap0, b2i_0, b2i_1, b2i_01, ma_l10, ma_l01, eq_self, true_or, or_true, not_true_eq_false, not_false_eq_true, Bool.false_eq_true]
  · have e : sp_nx 1 l S T n k = sp_tn (sp_A S T) (sp_U l S T) n n k := rfl
    obtain ⟨S', h1, h2, h3⟩ := cm_turned d n k l D σ S T hn hkn hk hF h40 h41 h43 (fun z => (hD z).2)
    rw [e, sp_mm_of (sp_tn_may n k)]
    refine ⟨S', ?_, h2, fun z => ?_⟩
    · cases l
      · have hv1 : v = 1 := by rw [hv]; rfl
        have b0 : b2i (false = true) = 0 := rfl
        rw [b0] at h1
        simp (decide := true) only [bk_170_0, bk_170_76, bk_170_81, hv1, h1, ↓reduceIte, ma_bd_some, ma_bd_none, ma_tl1, ma_tl0, ma_ap1, ma_ap0, b2i_0, b2i_1, b2i_01, ma_l10, ma_l01, eq_self, true_or, or_true, not_true_eq_false, not_false_eq_true, Bool.false_eq_true]
      · have hv1 : v = 4 := by rw [hv]; rfl
        have b1 : b2i (true = true) = 1 := rfl
        rw [b1] at h1
        simp (decide := true) only [bk_170_0, bk_170_150, bk_170_155, hv1, h1, ↓reduceIte, ma_bd_some, ma_bd_none, ma_tl1, ma_tl0, ma_ap1, ma_ap0, b2i_0, b2i_1, b2i_01, ma_l10, ma_l01, eq_self, true_or, or_true, not_true_eq_false, not_false_eq_true, Bool.false_eq_true]
    · obtain ⟨a, b, E, e1, e2⟩ := h3 (fun w => by rw [w, sp_may_n1] at z; exact Bool.false_ne_true z)
      exact ⟨a, b, E, e1, fun w => ⟨rfl, e2 w⟩⟩
  · have hl0 : l = false := by
      cases l
      · rfl
      · exact absurd (hl rfl) (by omega)
    subst hl0
    have hD0 := hDf (by omega)
    subst hD0
    have e : sp_nx 2 false S T n k = (if sp_ls (sp_QT T) (sp_o S T n 0) (-1) = -1 then sp_ls (sp_QT T) (sp_o S T n 2) (-1) else sp_ls (sp_QT T) (sp_o S T n 0) (-1), k) := rfl
    have hv0 : v = 2 := by rw [hv]; rfl
    have l0 := cm_leastOf d n 0 σ S T 0 rfl hk hF hn (Or.inl rfl)
    have l2 := cm_leastOf d n 2 σ S T 2 rfl hk hF hn (Or.inr rfl)
    refine ⟨S, ?_, fun _ _ _ _ => rfl, fun _ => ⟨by rw [e]; exact h40, h41, false, h43, fun z => absurd z Bool.false_ne_true⟩⟩
    rw [sp_mm_of (sp_nx_may (by omega) hF hn), e]
    rcases Classical.propComplete (sp_ls (sp_QT T) (sp_o S T n 0) (-1) = -1) with c | c
    all_goals simp (decide := true) only [bk_170_0, bk_170_82, bk_170_87, bk_170_93, bk_170_97, bk_170_102, hv0, l0, l2, c, ↓reduceIte, ma_bd_some, ma_bd_none, ma_tl1, ma_tl0, ma_ap1, ma_ap0, b2i_0, b2i_1, b2i_01, ma_l10, ma_l01, eq_self, true_or, or_true, not_true_eq_false, not_false_eq_true, Bool.false_eq_true]
  · have hl0 : l = false := by
      cases l
      · rfl
      · exact absurd (hl rfl) (by omega)
    subst hl0
    have hD0 := hDf (by omega)
    subst hD0
    have e : sp_nx 3 false S T n k = (sp_xs S T n, k) := rfl
    have hv0 : v = 3 := by rw [hv]; rfl
    have f1 := cm_first d n 1 σ S T 1 rfl hk hF hn (by omega)
    have f2 := cm_quick d n 2 σ S T 2 rfl hk hF hn (by omega)
    have f4 := cm_first d n 4 σ S T 4 rfl hk hF hn (by omega)
    have f0 := cm_first d n 0 σ S T 0 rfl hk hF hn (by omega)
    refine ⟨S, ?_, fun _ _ _ _ => rfl, fun _ => ⟨by rw [e]; exact h40, h41, false, h43, fun z => absurd z Bool.false_ne_true⟩⟩
    rw [sp_mm_of (sp_nx_may (by omega) hF hn), e]
    show _ = some (some (vI (sp_xs S T n)), _)
    unfold sp_xs
    generalize sp_hd (sp_o S T n 1) = a1 at f1 ⊢
    generalize sp_ls (sp_QL S T) (sp_o S T n 2) (-1) = a2 at f2 ⊢
    generalize sp_hd (sp_o S T n 4) = a4 at f4 ⊢
    generalize sp_hd (sp_o S T n 0) = a0 at f0 ⊢
    rcases Classical.propComplete (a1 = -1) with c1 | c1
    · rcases Classical.propComplete (a2 = -1) with c2 | c2
      · rcases Classical.propComplete (a4 = -1) with c4 | c4
        all_goals simp (decide := true) only [bk_170_0, bk_170_32, bk_170_40, bk_170_44, bk_170_50, bk_170_53, bk_170_58, bk_170_65, bk_170_68, bk_170_74, bk_170_75, bk_170_76, bk_170_81, bk_170_82, bk_170_87, bk_170_93, bk_170_97, bk_170_102, bk_170_103, bk_170_109, bk_170_115, bk_170_121, bk_170_122, bk_170_127, bk_170_133, bk_170_134, bk_170_139, bk_170_143, bk_170_149, bk_170_150, bk_170_155, hv0, f1, f2, f4, f0, c1, c2, c4, ↓reduceIte, ma_bd_some, ma_bd_none, ma_tl1, ma_tl0, ma_ap1, ma_ap0, b2i_0, b2i_1, b2i_01, ma_l10, ma_l01, eq_self, true_or, or_true, not_true_eq_false, not_false_eq_true, Bool.false_eq_true]
      · simp (decide := true) only [bk_170_0, bk_170_32, bk_170_40, bk_170_44, bk_170_50, bk_170_53, bk_170_58, bk_170_65, bk_170_68, bk_170_74, bk_170_75, bk_170_76, bk_170_81, bk_170_82, bk_170_87, bk_170_93, bk_170_97, bk_170_102, bk_170_103, bk_170_109, bk_170_115, bk_170_121, bk_170_122, bk_170_127, bk_170_133, bk_170_134, bk_170_139, bk_170_143, bk_170_149, bk_170_150, bk_170_155, hv0, f1, f2, f4, f0, c1, c2, ↓reduceIte, ma_bd_some, ma_bd_none, ma_tl1, ma_tl0, ma_ap1, ma_ap0, b2i_0, b2i_1, b2i_01, ma_l10, ma_l01, eq_self, true_or, or_true, not_true_eq_false, not_false_eq_true, Bool.false_eq_true]
    · simp (decide := true) only [bk_170_0, bk_170_32, bk_170_40, bk_170_44, bk_170_50, bk_170_53, bk_170_58, bk_170_65, bk_170_68, bk_170_74, bk_170_75, bk_170_76, bk_170_81, bk_170_82, bk_170_87, bk_170_93, bk_170_97, bk_170_102, bk_170_103, bk_170_109, bk_170_115, bk_170_121, bk_170_122, bk_170_127, bk_170_133, bk_170_134, bk_170_139, bk_170_143, bk_170_149, bk_170_150, bk_170_155, hv0, f1, f2, f4, f0, c1, ↓reduceIte, ma_bd_some, ma_bd_none, ma_tl1, ma_tl0, ma_ap1, ma_ap0, b2i_0, b2i_1, b2i_01, ma_l10, ma_l01, eq_self, true_or, or_true, not_true_eq_false, not_false_eq_true, Bool.false_eq_true]
theorem sp_dn_no {F : Nat → Int32} {G : Nat → Nat → Int32} {n k : Nat} (hF : F 1 = nI n) (hn : n ≤ 4) (hk : k < n) (hm : sp_may F G (nI (10 * k)) = true) : sp_A (sp_mvF F G (nI (10 * k))) (sp_mvG F G (nI (10 * k))) k = false := by
  unfold sp_A sp_P
  cases h : sp_may (sp_mvF F G (nI (10 * k))) (sp_mvG F G (nI (10 * k))) (nI (10 * k)) with
  | false => rfl
  | true =>
    exfalso
    have h1 := ((sp_may_iff _ _ _).mp h).2.2
    have h2 := ((sp_may_iff _ _ _).mp hm).2.2
    have hv := nI_toInt (n := 10 * k) (by omega)
    have hri := sp_ri_of (o := 0) (r := k) (by omega) (by omega)
    rw [show 100 * 0 + 10 * k = 10 * k by omega] at hri
    have hso : nI (10 * k) / 100 = 0 := by
      rw [ma_eq, sp_d100 (by omega), hv]
      have e0 : (0 : Int32).toInt = 0 := rfl
      omega
    rw [if_pos hso, hri] at h1 h2
    have hr : ma_rm (nI (10 * k) / 10) 10 = nI k := by
      rw [ma_eq, sp_r10 (by omega), hv, nI_toInt (by omega)]
      omega
    have ht : sp_tk (nI (10 * k)) (nI k) = true := by
      unfold sp_tk
      rw [decide_eq_true_iff, hso, hr]
      exact ⟨by decide, Or.inl rfl⟩
    have e3 : sp_mvG F G (nI (10 * k)) k 3 = 0 := by
      unfold sp_mvG
      rw [if_pos (by rw [hF, nI_toInt (by omega)]; omega)]
      unfold sp_step
      rw [if_pos ht]
      show (if G k 3 = 1 then (0 : Int32) else 1) = 0
      rw [if_pos h2.1]
    rw [e3] at h1
    exact absurd h1.1 (by decide)
theorem cm_goesOn_loop (d n ρ M : Nat) (l : Bool) (hρ : ρ ≤ 3) (hl : l = true → ρ = 1) (hM : M ≤ 300) (v mo : Int32) (hv : v = nI (if l = true then 4 else ρ)) (hmo : mo = nI M) (σ : ma_S) (hn : n ≤ 4) : ∀ (c k t : Nat) (D : Bool) (F S : Nat → Int32) (G T : Nat → Nat → Int32) (u3 : Option ma_V), k + c = M → sp_ok F G → F 1 = nI n → (t < n ∨ n = 0) → ma_Re F S G T → S 42 = nI k → S 40 = nI t → S 41 = 0 → S 43 = b2i (D = true) → (D = true → ρ = 1 ∧ sp_A F G t = false) → ∃ (S' : Nat → Int32) (T' : Nat → Nat → Int32), ma_ex (d + 6) 171 9 [some (vR 20 0 0), some (vI v), some (vI mo), u3] [] (ma_mh σ S T) = some (none, ma_mh σ S' T') ∧ ma_Re (sp_pl ρ l n c k F G t).2.1 S' (sp_pl ρ l n c k F G t).2.2 T' ∧ S' 42 = nI (sp_pl ρ l n c k F G t).1 ∧ (∀ q, 9 ≤ q → q ≠ 40 → q ≠ 41 → q ≠ 42 → q ≠ 43 → S' q = S q) ∧ (∀ r q, 7 ≤ q → T' r q = T r q) := by
  subst hmo
  intro c
  induction c with
  | zero =>
    intro k t D F S G T u3 h hk hF ht hR h42 h40 h41 h43 hD
    refine ⟨S, T, ?_, hR, h42, fun _ _ _ _ _ _ => rfl, fun _ _ _ => rfl⟩
    rw [bk_171_9, ma_mh_F, h42, if_pos (nI_le (by omega) (by omega)), bk_171_47]
  | succ c ih =>
    intro k t D F S G T u3 h hk hF ht hR h42 h40 h41 h43 hD
    have hkS := sp_Re_ok hR hk
    have hFS : S 1 = nI n := (hR.1 1 (by omega) (by omega)).symm.trans hF
    have eA : sp_A F G = sp_A S T := by unfold sp_A; rw [sp_Re_P hR]
    obtain ⟨S', h1, h2, h3⟩ := cm_ruled d n ρ t l D hρ hl v hv σ S T hn ht hkS hFS h40 h41 h43 (fun z => by rw [← eA]; exact hD z)
    have hnx := sp_nx_Re (ρ := ρ) (l := l) (t := t) hR hk hF hn
    rw [← hnx] at h1 h3
    have hst : sp_pl ρ l n (c + 1) k F G t = if sp_may F G (sp_nx ρ l F G n t).1 = true then sp_pl ρ l n c (k + 1) (sp_mvF F G (sp_nx ρ l F G n t).1) (sp_mvG F G (sp_nx ρ l F G n t).1) (sp_nx ρ l F G n t).2 else (k, F, G) := rfl
    have hmm := sp_Re_may (sp_nx ρ l F G n t).1 hR
    have hR' : ma_Re F S' G T := ma_Re_S hR (fun q a b => h2 q (by omega) (by omega) (by omega)) (fun _ _ _ _ => rfl)
    have hlt := sp_nx_lt (ρ := ρ) (l := l) (F := F) (G := G) ht
    rw [hst, bk_171_9, ma_mh_F, h42, if_neg (nI_ge (by omega) (by omega))]
    unfold sp_mm at h1
    rw [← hmm] at h1 h3
    by_cases hm : sp_may F G (sp_nx ρ l F G n t).1 = true
    · rw [if_pos hm] at h1 ⊢
      obtain ⟨a1, a2, E, a3, a4⟩ := h3 hm
      have hM2 := ((sp_may_iff _ _ _).mp (hmm ▸ hm)).1
      have hM3 := ((sp_may_iff _ _ _).mp hm).1
      have hmv := cm_mhMoves (d + 2) (sp_nx ρ l F G n t).1 σ S' T (sp_Re_ok hR' hk) (by rw [h2 1 (by omega) (by omega) (by omega)]; exact hM2)
      have hne : ((sp_nx ρ l F G n t).1 = -1) = False := eq_false (fun w => by rw [w, sp_may_n1] at hm; exact Bool.false_ne_true hm)
      have k42 : sp_mvF S' T (sp_nx ρ l F G n t).1 42 = nI k := by
        rw [ma_mvF_9 _ _ _ _ (by omega), h2 42 (by omega) (by omega) (by omega)]; exact h42
      have keep : ∀ q, 9 ≤ q → q ≠ 42 → upd (sp_mvF S' T (sp_nx ρ l F G n t).1) 42 (nI (k + 1)) q = S' q := fun q a b => by
        unfold upd
        rw [if_neg b, ma_mvF_9 _ _ _ _ a]
      obtain ⟨S2, T2, b1, b2, b3, b4, b5⟩ := ih (k + 1) (sp_nx ρ l F G n t).2 E (sp_mvF F G (sp_nx ρ l F G n t).1) (upd (sp_mvF S' T (sp_nx ρ l F G n t).1) 42 (nI (k + 1))) (sp_mvG F G (sp_nx ρ l F G n t).1) (sp_mvG S' T (sp_nx ρ l F G n t).1) (some (vI (sp_nx ρ l F G n t).1)) (by omega) (sp_mv_ok hk hm) (by rw [sp_mvF_1]; exact hF) hlt (ma_Re_S (sp_Re_mv hR' hM3) (fun q a b => by unfold upd; rw [if_neg (by omega)]) (fun _ _ _ _ => rfl)) (by unfold upd; rw [if_pos rfl]) (by rw [keep 40 (by omega) (by omega)]; exact a1) (by rw [keep 41 (by omega) (by omega)]; exact a2) (by rw [keep 43 (by omega) (by omega)]; exact a3) (fun z => by
        obtain ⟨z1, z2⟩ := a4 z
        refine ⟨z1, ?_⟩
        rcases hlt with hlt | hlt
        · rw [z2] at hm ⊢
          exact sp_dn_no hF hn hlt hm
        · exfalso
          subst z1
          have ht0 : n = 0 := hlt
          subst ht0
          have e0 : (sp_nx 1 l F G 0 t).1 = -1 := rfl
          rw [e0] at hm
          rw [sp_may_n1] at hm
          exact Bool.false_ne_true hm)
      refine ⟨S2, T2, ?_, b2, b3, fun q a e1 e2 e3 e4 => ?_, fun r q a => ?_⟩
      · rw [← b1]
        simp only [bk_171_17, bk_171_22, bk_171_29, bk_171_34, h1, hne, hmv, ma_mh_F, ma_mh_uF, k42, nI_1, ↓reduceIte, ma_bd_some, ma_bd_none, ma_tl1, ma_tl0, ma_ap1, ma_ap0, b2i_0, b2i_1, b2i_01, ma_l10, ma_l01, eq_self, true_or, or_true, not_true_eq_false, not_false_eq_true, Bool.false_eq_true]
      · rw [b4 q a e1 e2 e3 e4, keep q a e3, h2 q e1 e2 e4]
      · rw [b5 r q a, ma_mvG_7 _ _ _ _ _ a]
    · rw [if_neg hm] at h1 ⊢
      refine ⟨S', T, ?_, hR', by rw [h2 42 (by omega) (by omega) (by omega)]; exact h42, fun q a e1 e2 e3 e4 => h2 q e1 e2 e4, fun _ _ _ => rfl⟩
      simp only [bk_171_17, bk_171_22, bk_171_28, h1, ↓reduceIte, ma_bd_some, ma_bd_none, ma_tl1, ma_tl0, ma_ap1, ma_ap0, b2i_0, b2i_1, b2i_01, ma_l10, ma_l01, eq_self, true_or, or_true, not_true_eq_false, not_false_eq_true, Bool.false_eq_true]
theorem cm_goesOn (d n ρ M : Nat) (l : Bool) (hρ : ρ ≤ 3) (hl : l = true → ρ = 1) (hM : M ≤ 300) (v mo : Int32) (hv : v = nI (if l = true then 4 else ρ)) (hmo : mo = nI M) (σ : ma_S) (hn : n ≤ 4) (F S : Nat → Int32) (G T : Nat → Nat → Int32) (hk : sp_ok F G) (hF : F 1 = nI n) (hR : ma_Re F S G T) : ∃ (S' : Nat → Int32) (T' : Nat → Nat → Int32), ma_cal (d + 7) 171 [vR 20 0 0, vI v, vI mo] (ma_mh σ S T) = some (none, ma_mh σ S' T') ∧ ma_Re (sp_pl ρ l n M 0 F G 0).2.1 S' (sp_pl ρ l n M 0 F G 0).2.2 T' ∧ S' 42 = nI (sp_pl ρ l n M 0 F G 0).1 ∧ (∀ q, 9 ≤ q → q ≠ 40 → q ≠ 41 → q ≠ 42 → q ≠ 43 → S' q = S q) ∧ (∀ r q, 7 ≤ q → T' r q = T r q) := by
  have hn0 : 0 < n ∨ n = 0 := by omega
  obtain ⟨S', T', b1, b2, b3, b4, b5⟩ := cm_goesOn_loop d n ρ M l hρ hl hM v mo hv hmo σ hn M 0 0 false F (upd (upd (upd (upd S 40 0) 41 0) 43 0) 42 0) G T none (by omega) hk hF hn0 (ma_Re_S hR (fun q a b => by unfold upd; rw [if_neg (by omega), if_neg (by omega), if_neg (by omega), if_neg (by omega)]) (fun _ _ _ _ => rfl)) rfl rfl rfl rfl (fun z => absurd z Bool.false_ne_true)
  refine ⟨S', T', ?_, b2, b3, fun q a e1 e2 e3 e4 => ?_, b5⟩
  · rw [← b1, en_171]
    simp only [bk_171_0, bk_171_4, en_166, bk_166_0, ma_mh_uF, ↓reduceIte, ma_bd_some, ma_bd_none, ma_tl1, ma_tl0, ma_ap1, ma_ap0, b2i_0, b2i_1, b2i_01, ma_l10, ma_l01, eq_self, true_or, or_true, not_true_eq_false, not_false_eq_true, Bool.false_eq_true]
  · rw [b4 q a e1 e2 e3 e4]
    unfold upd
    rw [if_neg e3, if_neg e4, if_neg e2, if_neg e1]
