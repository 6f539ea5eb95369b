/-! PART 20: all MOVES that may be, in the model. -/
def sp_P (F : Nat → Int32) (G : Nat → Nat → Int32) (k : Nat) : Bool := sp_may F G (nI k)
def sp_L (F : Nat → Int32) (G : Nat → Nat → Int32) (k : Nat) : List Nat := (List.range' k (701 - k)).filter (sp_P F G)
def sp_hd : List Nat → Int32
  | [] => -1
  | j :: _ => nI j
def sp_at : List Nat → Nat → Int32
  | [], _ => -1
  | j :: _, 0 => nI j
  | _ :: t, n + 1 => sp_at t n
theorem sp_L_end (F : Nat → Int32) (G : Nat → Nat → Int32) {k : Nat} (h : 700 < k) : sp_L F G k = [] := by
  unfold sp_L
  rw [show 701 - k = 0 by omega]
  rfl
theorem sp_L_step (F : Nat → Int32) (G : Nat → Nat → Int32) {k : Nat} (h : k ≤ 700) : sp_L F G k = if sp_P F G k = true then k :: sp_L F G (k + 1) else sp_L F G (k + 1) := by
  unfold sp_L
  rw [show 701 - k = (701 - (k + 1)) + 1 by omega, List.range'_succ, List.filter_cons]
theorem sp_L_cons (F : Nat → Int32) (G : Nat → Nat → Int32) {j : Nat} {t : List Nat} : ∀ c k, 701 - k = c → sp_L F G k = j :: t → j ≤ 700 ∧ sp_P F G j = true ∧ t = sp_L F G (j + 1) := by
  intro c
  induction c with
  | zero =>
    intro k hk h
    rw [sp_L_end F G (by omega)] at h
    exact absurd h (by simp)
  | succ c ih =>
    intro k hk h
    rw [sp_L_step F G (by omega)] at h
    by_cases hp : sp_P F G k = true
    · rw [if_pos hp] at h
      injection h with h1 h2
      subst h1
      exact ⟨by omega, hp, h2.symm⟩
    · rw [if_neg hp] at h
      exact ih (k + 1) (by omega) h
theorem sp_P_dig {F : Nat → Int32} {G : Nat → Nat → Int32} {k : Nat} (hk : sp_ok F G) (h : sp_P F G k = true) : ¬ (4 : Int32) ≤ ma_rm (nI k) 10 ∧ ¬ (4 : Int32) ≤ ma_rm (nI k / 10) 10 := by
  have hm := ((sp_may_iff F G (nI k)).mp h).1
  have hi := sp_isM_in hk.2.1 hm
  obtain ⟨⟨_, h2⟩, ⟨_, h4⟩⟩ := hi
  have e4 : (4 : Int32).toInt = 4 := rfl
  rw [ma_le, ma_le]
  constructor <;> omega
theorem cm_above_loop (d : Nat) (x1 : Int32) (σ : ma_S) (hk : sp_ok (σ.1 20 0 0) (ma_G σ)) : ∀ c k, 701 - k = c → k ≤ 701 → ma_ex (d + 4) 159 4 [some (vR 20 0 0), some (vI x1), some (vI (nI k))] [] σ = some (some (vI (sp_hd (sp_L (σ.1 20 0 0) (ma_G σ) k))), σ) := by
  intro c
  induction c with
  | zero =>
    intro k h1 h2
    have e : k = 701 := by omega
    subst e
    rw [sp_L_end _ _ (by omega)]
    have h7 : ((700 : Int32) < nI 701) = True := by decide
    simp only [bk_159_4, bk_159_46, h7, ↓reduceIte, ma_bd_some, ma_bd_none, ma_tl1, ma_tl0, ma_ap1, ma_ap0, b2i_0, b2i_1, b2i_01, ma_l10, ma_l01, eq_self, true_or, or_true, not_true_eq_false, not_false_eq_true, Bool.false_eq_true, sp_hd]
  | succ c ih =>
    intro k h1 h2
    have h7 : ((700 : Int32) < nI k) = False := eq_false (by
      rw [ma_lt, nI_toInt (by omega)]
      have : (700 : Int32).toInt = 700 := rfl
      omega)
    rw [sp_L_step _ _ (by omega)]
    have hmay := cm_mayBe d (nI k) σ hk
    have hih := ih (k + 1) (by omega) (by omega)
    by_cases hp : sp_P (σ.1 20 0 0) (ma_G σ) k = true
    · rw [if_pos hp]
      obtain ⟨n1, n2⟩ := sp_P_dig hk hp
      unfold sp_P at hp
      simp only [bk_159_4, bk_159_11, bk_159_19, bk_159_30, bk_159_35, bk_159_38, h7, n1, n2, hmay, hp, ↓reduceIte, ma_bd_some, ma_bd_none, ma_tl1, ma_tl0, ma_ap1, ma_ap0, b2i_0, b2i_1, b2i_01, ma_l10, ma_l01, eq_self, true_or, or_true, not_true_eq_false, not_false_eq_true, Bool.false_eq_true, sp_hd]
    · rw [if_neg hp]
      unfold sp_P at hp
      rw [← hih, bk_159_4, if_neg (by rw [h7]; exact id), bk_159_11]
      have e40 : ma_ex (d + 4) 159 40 [some (vR 20 0 0), some (vI x1), some (vI (nI k))] [] σ = ma_ex (d + 4) 159 4 [some (vR 20 0 0), some (vI x1), some (vI (nI (k + 1)))] [] σ := by
        rw [bk_159_40, nI_succ]
      by_cases c1 : 4 ≤ ma_rm (nI k) 10
      · rw [if_pos c1, e40]
      · rw [if_neg c1, bk_159_19]
        by_cases c2 : 4 ≤ ma_rm (nI k / 10) 10
        · rw [if_pos c2, e40]
        · rw [if_neg c2, bk_159_30, hmay]
          simp only [bk_159_35, hp, ↓reduceIte, ma_bd_some, ma_bd_none, ma_tl1, ma_tl0, ma_ap1, ma_ap0, b2i_0, b2i_1, b2i_01, ma_l10, ma_l01, eq_self, true_or, or_true, not_true_eq_false, not_false_eq_true, Bool.false_eq_true, e40]
theorem cm_above (d k : Nat) (m : Int32) (σ : ma_S) (hk : sp_ok (σ.1 20 0 0) (ma_G σ)) (hm : m + 1 = nI k) (h7 : k ≤ 701) : ma_cal (d + 5) 159 [vR 20 0 0, vI m] σ = some (some (vI (sp_hd (sp_L (σ.1 20 0 0) (ma_G σ) k))), σ) := by
  rw [en_159, bk_159_0, hm]
  exact cm_above_loop d m σ hk _ k rfl h7
theorem nI_ne1 {j : Nat} (h : j ≤ 700) : (nI j = -1) = False := eq_false (fun e => by
  have h1 := nI_toInt (n := j) (by omega)
  rw [e] at h1
  have : (-1 : Int32).toInt = -1 := rfl
  omega)
theorem cm_count_loop (d : Nat) (σ : ma_S) (hk : sp_ok (σ.1 20 0 0) (ma_G σ)) : ∀ (l : List Nat) (k c : Nat), sp_L (σ.1 20 0 0) (ma_G σ) k = l → ma_ex (d + 5) 160 8 [some (vR 20 0 0), some (vI (nI c)), some (vI (sp_hd l))] [] σ = some (some (vI (nI (c + l.length))), σ) := by
  intro l
  induction l with
  | nil =>
    intro k c h
    simp only [bk_160_8, bk_160_25, sp_hd, ↓reduceIte, ma_bd_some, ma_bd_none, ma_tl1, ma_tl0, ma_ap1, ma_ap0, b2i_0, b2i_1, b2i_01, ma_l10, ma_l01, eq_self, true_or, or_true, not_true_eq_false, not_false_eq_true, Bool.false_eq_true, List.length_nil, Nat.add_zero]
  | cons j t ih =>
    intro k c h
    obtain ⟨h1, h2, h3⟩ := sp_L_cons _ _ _ k rfl h
    have ha := cm_above d (j + 1) (nI j) σ hk (nI_succ j).symm (by omega)
    rw [← h3] at ha
    have hi := ih (j + 1) (c + 1) h3.symm
    have s1 : sp_hd (j :: t) = nI j := rfl
    rw [s1, bk_160_8, if_neg (by rw [nI_ne1 h1]; exact id), bk_160_13, ha]
    simp only [bk_160_21, ↓reduceIte, ma_bd_some, ma_bd_none, ma_tl1, ma_tl0, ma_ap1, ma_ap0, b2i_0, b2i_1, b2i_01, ma_l10, ma_l01, eq_self, true_or, or_true, not_true_eq_false, not_false_eq_true, Bool.false_eq_true]
    rw [← nI_succ, hi, List.length_cons, show c + 1 + t.length = c + (t.length + 1) by omega]
theorem cm_countMoves (d : Nat) (σ : ma_S) (hk : sp_ok (σ.1 20 0 0) (ma_G σ)) : ma_cal (d + 6) 160 [vR 20 0 0] σ = some (some (vI (nI (sp_L (σ.1 20 0 0) (ma_G σ) 0).length)), σ) := by
  have ha := cm_above d 0 (-1) σ hk (by decide) (by omega)
  have hl := cm_count_loop d σ hk _ 0 0 rfl
  rw [nI_0, Nat.zero_add] at hl
  rw [en_160]
  simp only [bk_160_0, bk_160_7, ha, hl, ↓reduceIte, ma_bd_some, ma_bd_none, ma_tl1, ma_tl0, ma_ap1, ma_ap0, b2i_0, b2i_1, b2i_01, ma_l10, ma_l01, eq_self, true_or, or_true, not_true_eq_false, not_false_eq_true, Bool.false_eq_true]
theorem cm_moveAt_loop (d : Nat) (x1 : Int32) (σ : ma_S) (hk : sp_ok (σ.1 20 0 0) (ma_G σ)) : ∀ (l : List Nat) (k : Nat) (x : Int32), 0 ≤ x.toInt → sp_L (σ.1 20 0 0) (ma_G σ) k = l → ma_ex (d + 5) 161 8 [some (vR 20 0 0), some (vI x1), some (vI x), some (vI (sp_hd l))] [] σ = some (some (vI (sp_at l x.toNatClampNeg)), σ) := by
  intro l
  induction l with
  | nil =>
    intro k x h0 h
    simp only [bk_161_8, bk_161_31, sp_hd, ↓reduceIte, ma_bd_some, ma_bd_none, ma_tl1, ma_tl0, ma_ap1, ma_ap0, b2i_0, b2i_1, b2i_01, ma_l10, ma_l01, eq_self, true_or, or_true, not_true_eq_false, not_false_eq_true, Bool.false_eq_true, sp_at]
  | cons j t ih =>
    intro k x h0 h
    obtain ⟨h1, h2, h3⟩ := sp_L_cons _ _ _ k rfl h
    have ha := cm_above d (j + 1) (nI j) σ hk (nI_succ j).symm (by omega)
    rw [← h3] at ha
    by_cases hx : x = 0
    · subst hx
      have z : (0 : Int32).toNatClampNeg = 0 := by decide
      have s1 : sp_hd (j :: t) = nI j := rfl
      have s2 : sp_at (j :: t) 0 = nI j := rfl
      simp only [bk_161_8, bk_161_13, bk_161_17, s1, s2, nI_ne1 h1, z, ↓reduceIte, ma_bd_some, ma_bd_none, ma_tl1, ma_tl0, ma_ap1, ma_ap0, b2i_0, b2i_1, b2i_01, ma_l10, ma_l01, eq_self, true_or, or_true, not_true_eq_false, not_false_eq_true, Bool.false_eq_true]
    · have hx0 : x.toInt ≠ 0 := fun e => hx (ma_eq.mpr e)
      have hxl := Int32.toInt_lt x
      have e1 : (-1 : Int32).toInt = -1 := rfl
      have hs := ma_add (a := x) (b := -1) (by omega) (by omega)
      have hc : x.toNatClampNeg = (x + -1).toNatClampNeg + 1 := by
        have z1 := ma_clN (x := x)
        have z2 := ma_clN (x := x + -1)
        omega
      have hi := ih (j + 1) (x + -1) (by omega) h3.symm
      have s1 : sp_hd (j :: t) = nI j := rfl
      have s2 : ∀ q, sp_at (j :: t) (q + 1) = sp_at t q := fun _ => rfl
      rw [hc, s1, s2, bk_161_8, if_neg (by rw [nI_ne1 h1]; exact id), bk_161_13, if_neg hx, bk_161_19, ha]
      simp only [bk_161_27, ↓reduceIte, ma_bd_some, ma_bd_none, ma_tl1, ma_tl0, ma_ap1, ma_ap0, b2i_0, b2i_1, b2i_01, ma_l10, ma_l01, eq_self, true_or, or_true, not_true_eq_false, not_false_eq_true, Bool.false_eq_true]
      exact hi
theorem cm_moveAt (d : Nat) (i : Int32) (σ : ma_S) (hk : sp_ok (σ.1 20 0 0) (ma_G σ)) (h0 : 0 ≤ i.toInt) : ma_cal (d + 6) 161 [vR 20 0 0, vI i] σ = some (some (vI (sp_at (sp_L (σ.1 20 0 0) (ma_G σ) 0) i.toNatClampNeg)), σ) := by
  have ha := cm_above d 0 (-1) σ hk (by decide) (by omega)
  have hl := cm_moveAt_loop d i σ hk _ 0 i h0 rfl
  rw [en_161]
  simp only [bk_161_0, bk_161_7, ha, hl, ↓reduceIte, ma_bd_some, ma_bd_none, ma_tl1, ma_tl0, ma_ap1, ma_ap0, b2i_0, b2i_1, b2i_01, ma_l10, ma_l01, eq_self, true_or, or_true, not_true_eq_false, not_false_eq_true, Bool.false_eq_true]
