/-! PART 21: list() of the class. -/
/-- an int array of group 50 anew -/
def ma_ar (σ : ma_S) (a : Nat) (f : Nat → Int32) : ma_S := (fun g i j k => if g = 50 ∧ i = a ∧ j = 0 then f k else σ.1 g i j k, σ.2)
theorem ma_ar_id (σ : ma_S) (a : Nat) : ma_ar σ a (σ.1 50 a 0) = σ := by
  refine ma_S_ext (fun g i j k => ?_) (fun _ _ => rfl)
  simp only [ma_ar]; split
  · rename_i h; obtain ⟨rfl, rfl, rfl⟩ := h; rfl
  · rfl
theorem ma_ar_at (σ : ma_S) (a : Nat) (f : Nat → Int32) (k : Nat) : (ma_ar σ a f).1 50 a 0 k = f k := by simp [ma_ar]
theorem ma_ar_u (σ : ma_S) (a k : Nat) (f : Nat → Int32) (v : Int32) : ma_u (ma_ar σ a f) 50 a 0 k v = ma_ar σ a (upd f k v) := by
  refine ma_S_ext (fun g i j k' => ?_) (fun _ _ => rfl)
  simp only [ma_u, ma_ar, upd]
  by_cases h : g = 50 ∧ i = a ∧ j = 0
  · obtain ⟨rfl, rfl, rfl⟩ := h; simp
  · rw [if_neg (fun z => h ⟨z.1, z.2.1, z.2.2.1⟩), if_neg h, if_neg h]
theorem ma_ar_2 (σ : ma_S) (a i : Nat) (f : Nat → Int32) : (ma_ar σ a f).1 2 i 0 = σ.1 2 i 0 := by funext k; simp [ma_ar]
theorem ma_ar_2k (σ : ma_S) (a i k : Nat) (f : Nat → Int32) : (ma_ar σ a f).1 2 i 0 k = σ.1 2 i 0 k := by simp [ma_ar]
theorem ma_ar_4 (σ : ma_S) (a i : Nat) (f : Nat → Int32) : (ma_ar σ a f).1 4 i = σ.1 4 i := by funext r k; simp [ma_ar]
def sp_wr (old : Nat → Int32) (fl : List Nat) : Nat → Int32 := fun j => match fl[j]? with
  | some v => nI v
  | none => old j
theorem sp_wr_nil (old : Nat → Int32) : sp_wr old [] = old := by funext j; simp [sp_wr]
theorem sp_wr_app (old : Nat → Int32) (fl : List Nat) (m : Nat) : upd (sp_wr old fl) fl.length (nI m) = sp_wr old (fl ++ [m]) := by
  funext j
  simp only [upd, sp_wr]
  by_cases h : j = fl.length
  · subst h; simp
  · rw [if_neg h]
    by_cases h2 : j < fl.length
    · rw [List.getElem?_append_left h2]
    · rw [List.getElem?_eq_none (by omega), List.getElem?_eq_none (by rw [List.length_append, List.length_singleton]; omega)]
theorem nI_mv {o r q : Nat} (ho : o ≤ 7) (hr : r ≤ 4) (hq : q ≤ 4) : 100 * nI o + 10 * nI r + nI q = nI (100 * o + 10 * r + q) := by
  have e1 := nI_toInt (n := o) (by omega)
  have e2 := nI_toInt (n := r) (by omega)
  have e3 := nI_toInt (n := q) (by omega)
  have h100 : (100 : Int32).toInt = 100 := rfl
  have h10 : (10 : Int32).toInt = 10 := rfl
  have m1 : (100 * nI o).toInt = 100 * o := by rw [ma_mul (by rw [h100]; omega) (by rw [h100]; omega), h100, e1]
  have m2 : (10 * nI r).toInt = 10 * r := by rw [ma_mul (by rw [h10]; omega) (by rw [h10]; omega), h10, e2]
  have a1 := ma_add (a := 100 * nI o) (b := 10 * nI r) (by omega) (by omega)
  have a2 := ma_add (a := 100 * nI o + 10 * nI r) (b := nI q) (by omega) (by omega)
  have e4 := nI_toInt (n := 100 * o + 10 * r + q) (by omega)
  exact ma_eq.mpr (by omega)
def sp_c2 (n o r : Nat) : List Nat := if sp_two (nI o) = true then (List.range' (r + 1) (n - 1 - r)).map (fun q => 100 * o + 10 * r + q) else (List.range' 0 1).map (fun q => 100 * o + 10 * r + q)
def sp_c1 (n o : Nat) : List Nat := (List.range' 0 (if o = 7 then 1 else n)).flatMap (sp_c2 n o)
def sp_cs (n a c : Nat) : List Nat := (List.range' a c).flatMap (sp_c1 n)
theorem cx_list_in (d i o r : Nat) (x1 x2 x5 x8 : Int32) (σ : ma_S) (old : Nat → Int32) (hk : sp_ok (σ.1 2 i 0) (σ.1 4 i)) (hl : ma_la (100 + i) = 40) (ho : o ≤ 7) (hr : r ≤ 4) :
    ∀ (c q : Nat) (fl : List Nat) (u9 : Option ma_V), x8.toInt = (q : Int) + c - 1 → q + c ≤ 5 → fl.length + c ≤ 40 → ∃ u9' : Option ma_V, ma_ex (d + 4) 20 78 [some (vR 2 i 0), some (vI x1), some (vI x2), some (vI (nI fl.length)), some (vI (nI o)), some (vI x5), some (vI (nI r)), some (vI (nI q)), some (vI x8), u9] [] (ma_ar σ (100 + i) (sp_wr old fl)) = ma_ex (d + 4) 20 128 [some (vR 2 i 0), some (vI x1), some (vI x2), some (vI (nI (fl ++ ((List.range' q c).map (fun q => 100 * o + 10 * r + q)).filter (sp_P (σ.1 2 i 0) (σ.1 4 i))).length)), some (vI (nI o)), some (vI x5), some (vI (nI r)), some (vI (nI (q + c))), some (vI x8), u9'] [] (ma_ar σ (100 + i) (sp_wr old (fl ++ ((List.range' q c).map (fun q => 100 * o + 10 * r + q)).filter (sp_P (σ.1 2 i 0) (σ.1 4 i))))) := by
  intro c
  induction c with
  | zero =>
    intro q fl u9 h8 h5 h40
    refine ⟨u9, ?_⟩
    rw [bk_20_78, if_pos (by rw [ma_lt, nI_toInt (by omega)]; omega)]
    simp
  | succ c ih =>
    intro q fl u9 h8 h5 h40
    have hb : ma_ex (d + 4) 20 78 [some (vR 2 i 0), some (vI x1), some (vI x2), some (vI (nI fl.length)), some (vI (nI o)), some (vI x5), some (vI (nI r)), some (vI (nI q)), some (vI x8), u9] [] (ma_ar σ (100 + i) (sp_wr old fl)) = if sp_P (σ.1 2 i 0) (σ.1 4 i) (100 * o + 10 * r + q) = true then ma_ex (d + 4) 20 122 [some (vR 2 i 0), some (vI x1), some (vI x2), some (vI (nI (fl ++ [100 * o + 10 * r + q]).length)), some (vI (nI o)), some (vI x5), some (vI (nI r)), some (vI (nI q)), some (vI x8), some (vI (nI (100 * o + 10 * r + q)))] [] (ma_ar σ (100 + i) (sp_wr old (fl ++ [100 * o + 10 * r + q]))) else ma_ex (d + 4) 20 122 [some (vR 2 i 0), some (vI x1), some (vI x2), some (vI (nI fl.length)), some (vI (nI o)), some (vI x5), some (vI (nI r)), some (vI (nI q)), some (vI x8), some (vI (nI (100 * o + 10 * r + q)))] [] (ma_ar σ (100 + i) (sp_wr old fl)) := by
      have h4 : ((40 : Int32) ≤ nI fl.length) = False := eq_false (by
        rw [ma_le, nI_toInt (by omega)]
        have : (40 : Int32).toInt = 40 := rfl
        omega)
      have hin : ma_in (nI fl.length) 40 := by
        have := nI_toInt (n := fl.length) (by omega)
        exact ma_inI (by omega) (by omega)
      have hmay := cx_mayBe (d + 1) i (nI (100 * o + 10 * r + q)) (ma_ar σ (100 + i) (sp_wr old fl)) (by rw [ma_ar_2, ma_ar_4]; exact hk)
      rw [ma_ar_2, ma_ar_4] at hmay
      have hmv := nI_mv (o := o) (r := r) (q := q) ho hr (by omega)
      have hcl : (nI fl.length).toNatClampNeg = fl.length := nI_clamp (by omega)
      rw [bk_20_78, if_neg (by rw [ma_lt, nI_toInt (by omega)]; omega)]
      unfold sp_P
      by_cases hp : sp_may (σ.1 2 i 0) (σ.1 4 i) (nI (100 * o + 10 * r + q)) = true
      · rw [if_pos hp]
        simp only [bk_20_85, bk_20_94, bk_20_102, bk_20_108, bk_20_111, cx_moveOf, hmv, h4, hmay, hp, hl, ma_if_pos hin, hcl, ma_ar_u, sp_wr_app, ↓reduceIte, ma_bd_some, ma_bd_none, ma_tl1, ma_tl0, ma_ap1, ma_ap0, b2i_0, b2i_1, b2i_01, ma_l10, ma_l01, eq_self, true_or, or_true, not_true_eq_false, not_false_eq_true, Bool.false_eq_true, List.length_append, List.length_singleton, nI_succ]
      · rw [if_neg hp]
        simp only [bk_20_85, bk_20_94, bk_20_102, bk_20_108, cx_moveOf, hmv, h4, hmay, hp, ↓reduceIte, ma_bd_some, ma_bd_none, ma_tl1, ma_tl0, ma_ap1, ma_ap0, b2i_0, b2i_1, b2i_01, ma_l10, ma_l01, eq_self, true_or, or_true, not_true_eq_false, not_false_eq_true, Bool.false_eq_true]
    by_cases hp : sp_P (σ.1 2 i 0) (σ.1 4 i) (100 * o + 10 * r + q) = true
    · obtain ⟨u9', hi⟩ := ih (q + 1) (fl ++ [100 * o + 10 * r + q]) (some (vI (nI (100 * o + 10 * r + q)))) (by omega) (by omega) (by rw [List.length_append, List.length_singleton]; omega)
      refine ⟨u9', ?_⟩
      rw [hb, if_pos hp, bk_20_122, ← nI_succ, hi, List.range'_succ, List.map_cons, List.filter_cons, if_pos hp, List.append_assoc, show q + 1 + c = q + (c + 1) by omega]
      rfl
    · obtain ⟨u9', hi⟩ := ih (q + 1) fl (some (vI (nI (100 * o + 10 * r + q)))) (by omega) (by omega) (by omega)
      refine ⟨u9', ?_⟩
      rw [hb, if_neg hp, bk_20_122, ← nI_succ, hi, List.range'_succ, List.map_cons, List.filter_cons, if_neg hp, show q + 1 + c = q + (c + 1) by omega]
theorem sp_filt_le (P : Nat → Bool) (l : List Nat) : (l.filter P).length ≤ l.length := List.length_filter_le P l
theorem cx_list_mid (d i o n : Nat) (x1 x2 x5 : Int32) (σ : ma_S) (old : Nat → Int32) (hk : sp_ok (σ.1 2 i 0) (σ.1 4 i)) (hl : ma_la (100 + i) = 40) (ho : o ≤ 7) (hF : σ.1 2 i 0 1 = nI n) (hn : n ≤ 4) (h5 : x5.toInt = (if o = 7 then 1 else (n : Int)) - 1) :
    ∀ (c r : Nat) (fl : List Nat) (u7 u8 u9 : Option ma_V), r + c = (if o = 7 then 1 else n) → fl.length + ((List.range' r c).flatMap (sp_c2 n o)).length ≤ 40 → ∃ u7' u8' u9' : Option ma_V, ma_ex (d + 4) 20 33 [some (vR 2 i 0), some (vI x1), some (vI x2), some (vI (nI fl.length)), some (vI (nI o)), some (vI x5), some (vI (nI r)), u7, u8, u9] [] (ma_ar σ (100 + i) (sp_wr old fl)) = ma_ex (d + 4) 20 134 [some (vR 2 i 0), some (vI x1), some (vI x2), some (vI (nI (fl ++ ((List.range' r c).flatMap (sp_c2 n o)).filter (sp_P (σ.1 2 i 0) (σ.1 4 i))).length)), some (vI (nI o)), some (vI x5), some (vI (nI (r + c))), u7', u8', u9'] [] (ma_ar σ (100 + i) (sp_wr old (fl ++ ((List.range' r c).flatMap (sp_c2 n o)).filter (sp_P (σ.1 2 i 0) (σ.1 4 i))))) := by
  intro c
  induction c with
  | zero =>
    intro r fl u7 u8 u9 hc h40
    refine ⟨u7, u8, u9, ?_⟩
    have hr4 : r ≤ 4 := by split at hc <;> omega
    rw [bk_20_33, if_pos (by rw [ma_lt, nI_toInt (by omega)]; split at hc <;> split at h5 <;> omega)]
    simp
  | succ c ih =>
    intro r fl u7 u8 u9 hc h40
    have hr4 : r ≤ 4 := by split at hc <;> omega
    rw [List.range'_succ, List.flatMap_cons, List.length_append] at h40
    rw [List.range'_succ, List.flatMap_cons, List.filter_append, ← List.append_assoc]
    have hmid : ∃ (x7 x8 : Int32) (u9' : Option ma_V), ma_ex (d + 4) 20 33 [some (vR 2 i 0), some (vI x1), some (vI x2), some (vI (nI fl.length)), some (vI (nI o)), some (vI x5), some (vI (nI r)), u7, u8, u9] [] (ma_ar σ (100 + i) (sp_wr old fl)) = ma_ex (d + 4) 20 128 [some (vR 2 i 0), some (vI x1), some (vI x2), some (vI (nI (fl ++ (sp_c2 n o r).filter (sp_P (σ.1 2 i 0) (σ.1 4 i))).length)), some (vI (nI o)), some (vI x5), some (vI (nI r)), some (vI x7), some (vI x8), u9'] [] (ma_ar σ (100 + i) (sp_wr old (fl ++ (sp_c2 n o r).filter (sp_P (σ.1 2 i 0) (σ.1 4 i))))) := by
      have ht := cx_isByTwo (d + 3) (nI o) (ma_ar σ (100 + i) (sp_wr old fl))
      have hz : (0 : Int32) = nI 0 := nI_0.symm
      by_cases h2 : sp_two (nI o) = true
      · have hr : r < n := by
          split at hc
          · rename_i e; subst e; exact absurd h2 (by decide)
          · omega
        have e2 : sp_c2 n o r = (List.range' (r + 1) (n - 1 - r)).map (fun q => 100 * o + 10 * r + q) := if_pos h2
        rw [e2, List.length_map, List.length_range'] at h40
        have h8 : (nI n - 1).toInt = ((r + 1 : Nat) : Int) + (n - 1 - r : Nat) - 1 := by
          have e1 : (1 : Int32).toInt = 1 := rfl
          have := nI_toInt (n := n) (by omega)
          rw [ma_sub (by omega) (by omega)]
          omega
        obtain ⟨u9', hi⟩ := cx_list_in d i o r x1 x2 x5 (nI n - 1) σ old hk hl ho hr4 (n - 1 - r) (r + 1) fl u9 h8 (by omega) (by omega)
        refine ⟨nI (r + 1 + (n - 1 - r)), nI n - 1, u9', ?_⟩
        rw [bk_20_33, if_neg (by rw [ma_lt, nI_toInt (by omega)]; split at hc <;> split at h5 <;> omega), e2]
        simp only [bk_20_40, bk_20_45, bk_20_48, bk_20_56, bk_20_63, bk_20_66, bk_20_76, ht, h2, ↓reduceIte, ma_bd_some, ma_bd_none, ma_tl1, ma_tl0, ma_ap1, ma_ap0, b2i_0, b2i_1, b2i_01, ma_l10, ma_l01, eq_self, true_or, or_true, not_true_eq_false, not_false_eq_true, Bool.false_eq_true, ma_ar_2k, hF]
        rw [← nI_succ, hi]
      · have e2 : sp_c2 n o r = (List.range' 0 1).map (fun q => 100 * o + 10 * r + q) := if_neg h2
        rw [e2, List.length_map, List.length_range'] at h40
        obtain ⟨u9', hi⟩ := cx_list_in d i o r x1 x2 x5 0 σ old hk hl ho hr4 1 0 fl u9 (by decide) (by omega) (by omega)
        refine ⟨nI (0 + 1), 0, u9', ?_⟩
        rw [bk_20_33, if_neg (by rw [ma_lt, nI_toInt (by omega)]; split at hc <;> split at h5 <;> omega), e2]
        simp only [bk_20_40, bk_20_45, bk_20_55, bk_20_56, bk_20_63, bk_20_75, bk_20_76, ht, h2, ↓reduceIte, ma_bd_some, ma_bd_none, ma_tl1, ma_tl0, ma_ap1, ma_ap0, b2i_0, b2i_1, b2i_01, ma_l10, ma_l01, eq_self, true_or, or_true, not_true_eq_false, not_false_eq_true, Bool.false_eq_true]
        rw [nI_0] at hi
        rw [hi]
    obtain ⟨x7, x8, v9, hm⟩ := hmid
    have hfl := sp_filt_le (sp_P (σ.1 2 i 0) (σ.1 4 i)) (sp_c2 n o r)
    obtain ⟨u7', u8', u9', hi⟩ := ih (r + 1) (fl ++ (sp_c2 n o r).filter (sp_P (σ.1 2 i 0) (σ.1 4 i))) (some (vI x7)) (some (vI x8)) v9 (by omega) (by rw [List.length_append]; omega)
    refine ⟨u7', u8', u9', ?_⟩
    rw [hm]
    rw [bk_20_128, ← nI_succ, hi, show r + 1 + c = r + (c + 1) by omega]
theorem cx_list_out (d i b n : Nat) (x1 : Int32) (σ : ma_S) (old : Nat → Int32) (hk : sp_ok (σ.1 2 i 0) (σ.1 4 i)) (hl : ma_la (100 + i) = 40) (hb : b ≤ 7) (hF : σ.1 2 i 0 1 = nI n) (hn : n ≤ 4) :
    ∀ (c o : Nat) (fl : List Nat) (u5 u6 u7 u8 u9 : Option ma_V), o + c = b + 1 → fl.length + (sp_cs n o c).length ≤ 40 → ma_ex (d + 4) 20 5 [some (vR 2 i 0), some (vI x1), some (vI (nI b)), some (vI (nI fl.length)), some (vI (nI o)), u5, u6, u7, u8, u9] [] (ma_ar σ (100 + i) (sp_wr old fl)) = some (some (vI (nI (fl ++ (sp_cs n o c).filter (sp_P (σ.1 2 i 0) (σ.1 4 i))).length)), ma_ar σ (100 + i) (sp_wr old (fl ++ (sp_cs n o c).filter (sp_P (σ.1 2 i 0) (σ.1 4 i))))) := by
  intro c
  induction c with
  | zero =>
    intro o fl u5 u6 u7 u8 u9 hc h40
    rw [bk_20_5, if_pos (by rw [ma_lt, nI_toInt (by omega), nI_toInt (by omega)]; omega), bk_20_140]
    simp [sp_cs]
  | succ c ih =>
    intro o fl u5 u6 u7 u8 u9 hc h40
    have ho : o ≤ 7 := by omega
    have ecs : sp_cs n o (c + 1) = sp_c1 n o ++ sp_cs n (o + 1) c := by unfold sp_cs; rw [List.range'_succ, List.flatMap_cons]
    rw [ecs, List.length_append] at h40
    rw [ecs, List.filter_append, ← List.append_assoc]
    have hfl := sp_filt_le (sp_P (σ.1 2 i 0) (σ.1 4 i)) (sp_c1 n o)
    have hz : nI 0 = 0 := nI_0
    have ec1 : (List.range' 0 (if o = 7 then 1 else n)).flatMap (sp_c2 n o) = sp_c1 n o := rfl
    have hle : fl.length + ((List.range' 0 (if o = 7 then 1 else n)).flatMap (sp_c2 n o)).length ≤ 40 := by rw [ec1]; omega
    have hin : ∃ u7' u8' u9' : Option ma_V, ∃ x5 x6 : Int32, ma_ex (d + 4) 20 5 [some (vR 2 i 0), some (vI x1), some (vI (nI b)), some (vI (nI fl.length)), some (vI (nI o)), u5, u6, u7, u8, u9] [] (ma_ar σ (100 + i) (sp_wr old fl)) = ma_ex (d + 4) 20 134 [some (vR 2 i 0), some (vI x1), some (vI (nI b)), some (vI (nI (fl ++ (sp_c1 n o).filter (sp_P (σ.1 2 i 0) (σ.1 4 i))).length)), some (vI (nI o)), some (vI x5), some (vI x6), u7', u8', u9'] [] (ma_ar σ (100 + i) (sp_wr old (fl ++ (sp_c1 n o).filter (sp_P (σ.1 2 i 0) (σ.1 4 i))))) := by
      by_cases h7 : o = 7
      · have e7 : (nI o = 7) = True := eq_true (by rw [h7]; rfl)
        obtain ⟨u7', u8', u9', hm⟩ := cx_list_mid d i o n x1 (nI b) 0 σ old hk hl ho hF hn (by rw [if_pos h7]; rfl) (if o = 7 then 1 else n) 0 fl u7 u8 u9 (Nat.zero_add _) hle
        refine ⟨u7', u8', u9', 0, nI (0 + (if o = 7 then 1 else n)), ?_⟩
        rw [hz] at hm
        rw [bk_20_5, if_neg (by rw [ma_lt, nI_toInt (by omega), nI_toInt (by omega)]; omega), bk_20_11, if_pos (by rw [e7]; trivial), bk_20_18, bk_20_28, hm]
        rfl
      · have e7 : (nI o = 7) = False := eq_false (fun e => h7 (by
          have z := nI_toInt (n := o) (by omega)
          rw [e] at z
          have : (7 : Int32).toInt = 7 := rfl
          omega))
        have hx5 : (nI n - 1).toInt = (if o = 7 then 1 else (n : Int)) - 1 := by
          rw [if_neg h7]
          have e1 : (1 : Int32).toInt = 1 := rfl
          have := nI_toInt (n := n) (by omega)
          rw [ma_sub (by omega) (by omega)]
          omega
        obtain ⟨u7', u8', u9', hm⟩ := cx_list_mid d i o n x1 (nI b) (nI n - 1) σ old hk hl ho hF hn hx5 (if o = 7 then 1 else n) 0 fl u7 u8 u9 (Nat.zero_add _) hle
        refine ⟨u7', u8', u9', nI n - 1, nI (0 + (if o = 7 then 1 else n)), ?_⟩
        rw [hz] at hm
        rw [bk_20_5, if_neg (by rw [ma_lt, nI_toInt (by omega), nI_toInt (by omega)]; omega), bk_20_11, if_neg (by rw [e7]; exact id), bk_20_22, bk_20_28, ma_ar_2k, hF, hm]
        rfl
    obtain ⟨v7, v8, v9, x5, x6, hm⟩ := hin
    rw [hm, bk_20_134, ← nI_succ, ih (o + 1) (fl ++ (sp_c1 n o).filter (sp_P (σ.1 2 i 0) (σ.1 4 i))) _ _ _ _ _ (by omega) (by rw [List.length_append]; omega)]
theorem cx_list (d i a b n : Nat) (σ : ma_S) (hk : sp_ok (σ.1 2 i 0) (σ.1 4 i)) (hl : ma_la (100 + i) = 40) (hab : a ≤ b) (hb : b ≤ 7) (hF : σ.1 2 i 0 1 = nI n) (hn : n ≤ 4) (h40 : (sp_cs n a (b + 1 - a)).length ≤ 40) : ma_cal (d + 5) 20 [vR 2 i 0, vI (nI a), vI (nI b)] σ = some (some (vI (nI ((sp_cs n a (b + 1 - a)).filter (sp_P (σ.1 2 i 0) (σ.1 4 i))).length)), ma_ar σ (100 + i) (sp_wr (σ.1 50 (100 + i) 0) ((sp_cs n a (b + 1 - a)).filter (sp_P (σ.1 2 i 0) (σ.1 4 i))))) := by
  have h := cx_list_out d i b n (nI a) σ (σ.1 50 (100 + i) 0) hk hl hb hF hn (b + 1 - a) a [] none none none none none (by omega) (by rw [List.length_nil]; omega)
  rw [sp_wr_nil, ma_ar_id, List.length_nil, nI_0, List.nil_append] at h
  rw [en_20, bk_20_0]
  exact h
theorem sp_cs_all (n : Nat) (hn : n ≤ 4) : sp_cs n 0 8 = (List.range' 0 701).filter (fun k => sp_isM (nI n) (nI k)) := by
  rcases n with _|_|_|_|_|n
  · decide +kernel
  · decide +kernel
  · decide +kernel
  · decide +kernel
  · decide +kernel
  · omega
theorem sp_cs_one (n o : Nat) (hn : n ≤ 4) (ho : o ≤ 4) : sp_cs n o 1 = (List.range' (100 * o) 40).filter (fun k => sp_isM (nI n) (nI k)) := by
  rcases n with _|_|_|_|_|n <;> rcases o with _|_|_|_|_|o
  all_goals first | omega | decide +kernel
theorem sp_filt_P {F : Nat → Int32} {G : Nat → Nat → Int32} {n : Nat} (hF : F 1 = nI n) (l : List Nat) : (l.filter (fun k => sp_isM (nI n) (nI k))).filter (sp_P F G) = l.filter (sp_P F G) := by
  rw [List.filter_filter]
  congr 1
  funext k
  unfold sp_P
  by_cases h : sp_may F G (nI k) = true
  · have := ((sp_may_iff F G (nI k)).mp h).1
    rw [hF] at this
    rw [h, this]; rfl
  · rw [Bool.not_eq_true] at h
    rw [h]; rfl
theorem sp_cs_L {F : Nat → Int32} {G : Nat → Nat → Int32} {n : Nat} (hF : F 1 = nI n) (hn : n ≤ 4) : (sp_cs n 0 8).filter (sp_P F G) = sp_L F G 0 := by
  rw [sp_cs_all n hn, sp_filt_P hF]
  rfl
theorem sp_cs_len (n : Nat) (hn : n ≤ 4) : (sp_cs n 0 8).length ≤ 40 := by
  rcases n with _|_|_|_|_|n
  · decide +kernel
  · decide +kernel
  · decide +kernel
  · decide +kernel
  · decide +kernel
  · omega
theorem sp_cs_len1 (n o : Nat) (hn : n ≤ 4) (ho : o ≤ 4) : (sp_cs n o 1).length ≤ 40 := by
  rw [sp_cs_one n o hn ho]
  have h := sp_filt_le (fun k => sp_isM (nI n) (nI k)) (List.range' (100 * o) 40)
  rw [List.length_range'] at h
  exact h
