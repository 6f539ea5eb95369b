/-! PART 15: moves() of the model. -/
/-- the model's whole numbers anew -/
def ma_mh (σ : ma_S) (F : Nat → Int32) (G : Nat → Nat → Int32) : ma_S := (fun g i j k => if g = 20 ∧ i = 0 ∧ j = 0 then F k else if g = 50 ∧ j = 0 then G k i else σ.1 g i j k, σ.2)
theorem ma_mh_id (σ : ma_S) : ma_mh σ (σ.1 20 0 0) (ma_G σ) = σ := by
  refine ma_S_ext (fun g i j k => ?_) (fun _ _ => rfl)
  simp only [ma_mh, ma_G]
  split
  · rename_i h; obtain ⟨rfl, rfl, rfl⟩ := h; rfl
  · split
    · rename_i h; obtain ⟨rfl, rfl⟩ := h; rfl
    · rfl
theorem ma_mh_F (σ : ma_S) (F : Nat → Int32) (G : Nat → Nat → Int32) (k : Nat) : (ma_mh σ F G).1 20 0 0 k = F k := by simp [ma_mh]
theorem ma_mh_F1 (σ : ma_S) (F : Nat → Int32) (G : Nat → Nat → Int32) : (ma_mh σ F G).1 20 0 0 = F := by funext k; simp [ma_mh]
theorem ma_mh_A (σ : ma_S) (F : Nat → Int32) (G : Nat → Nat → Int32) (k r : Nat) : (ma_mh σ F G).1 50 k 0 r = G r k := by simp [ma_mh]
theorem ma_mh_G (σ : ma_S) (F : Nat → Int32) (G : Nat → Nat → Int32) : ma_G (ma_mh σ F G) = G := by funext r k; simp [ma_mh, ma_G]
theorem ma_mh_J (σ : ma_S) (F : Nat → Int32) (G : Nat → Nat → Int32) : (ma_mh σ F G).2 = σ.2 := rfl
theorem ma_mh_uF (σ : ma_S) (k : Nat) (F : Nat → Int32) (G : Nat → Nat → Int32) (v : Int32) : ma_u (ma_mh σ F G) 20 0 0 k v = ma_mh σ (upd F k v) G := by
  refine ma_S_ext (fun g i j k' => ?_) (fun _ _ => rfl)
  simp only [ma_u, ma_mh, upd]
  by_cases h : g = 20 ∧ i = 0 ∧ j = 0
  · obtain ⟨rfl, rfl, rfl⟩ := h; simp
  · rw [if_neg (fun z => h ⟨z.1, z.2.1, z.2.2.1⟩), if_neg h, if_neg h]
theorem ma_mh_uA (σ : ma_S) (k r : Nat) (F : Nat → Int32) (G : Nat → Nat → Int32) (v : Int32) : ma_u (ma_mh σ F G) 50 k 0 r v = ma_mh σ F (ma_uG G r (upd (G r) k v)) := by
  refine ma_S_ext (fun g i j k' => ?_) (fun _ _ => rfl)
  simp only [ma_u, ma_mh, upd, ma_uG]
  by_cases h : g = 50 ∧ j = 0
  · obtain ⟨rfl, rfl⟩ := h
    by_cases h2 : k' = r
    · subst h2; by_cases h3 : i = k <;> simp [h3, upd]
    · simp [h2]
  · rw [if_neg (fun z => h ⟨z.1, z.2.2.1⟩), if_neg h, if_neg h]
theorem ma_mh_mh (σ : ma_S) (F F' : Nat → Int32) (G G' : Nat → Nat → Int32) : ma_mh (ma_mh σ F G) F' G' = ma_mh σ F' G' := by
  refine ma_S_ext (fun g i j k' => ?_) (fun _ _ => rfl)
  simp only [ma_mh]
  repeat' split
  all_goals rfl
theorem ma_la_2 : ma_la 4 = 4 := rfl
theorem ma_la_3 : ma_la 3 = 4 := rfl
theorem cm_pulled' (d : Nat) (r : Int32) (σ : ma_S) (F : Nat → Int32) (G : Nat → Nat → Int32) (h : ma_in r 4) : ma_cal (d + 1) 155 [vR 20 0 0, vI r] (ma_mh σ F G) = some (some (vI (sp_pby (G r.toNatClampNeg 1) (G r.toNatClampNeg 2))), ma_mh σ F G) := by
  rw [cm_pulled _ _ _ _ _ h, ma_mh_A, ma_mh_A]
theorem cm_mv_ph1 (d : Nat) (m o r1 r2 t k : Int32) (u8 u9 : Option ma_V) (τ : ma_S) : ma_ex (d + 3) 156 66 [some (vR 20 0 0), some (vI m), some (vI o), some (vI r1), some (vI r2), some (vI t), some (vI (b2i (sp_two o = true))), some (vI k), u8, u9] [] τ = ma_ex (d + 3) 156 95 [some (vR 20 0 0), some (vI m), some (vI o), some (vI r1), some (vI r2), some (vI t), some (vI (b2i (sp_two o = true))), some (vI k), u8, u9] [vI (b2i (¬ o = 7 ∧ (k = r1 ∨ (sp_two o = true ∧ k = r2))))] τ := by
  have e1 : b2i True = 1 := rfl
  have e0 : b2i False = 0 := rfl
  rcases Classical.propComplete (o = 7) with c1 | c1 <;> rcases Classical.propComplete (k = r1) with c2 | c2 <;> rcases Classical.propComplete (sp_two o = true) with c3 | c3 <;> rcases Classical.propComplete (k = r2) with c4 | c4
  all_goals simp only [bk_156_66, bk_156_72, bk_156_78, bk_156_83, bk_156_90, bk_156_94, c1, c2, c3, c4, ma_bd_some, ma_bd_none, ma_tl1, ma_tl0, ma_ap1, ma_ap0, b2i_0, b2i_1, b2i_01, ma_l10, ma_l01, eq_self, if_true, if_false, true_or, or_true, not_true_eq_false, not_false_eq_true, Bool.false_eq_true, true_and, and_true, false_and, and_false, false_or, or_false, not_false_eq_true, not_true_eq_false, e1, e0]
theorem cm_mv_rest (d k : Nat) (m o r1 r2 t tw : Int32) (y8 : Int32) (u9 : Option ma_V) (σ : ma_S) (F : Nat → Int32) (G : Nat → Nat → Int32) (hk : k < 4) : ma_ex (d + 3) 156 102 [some (vR 20 0 0), some (vI m), some (vI o), some (vI r1), some (vI r2), some (vI t), some (vI tw), some (vI (nI k)), some (vI y8), u9] [] (ma_mh σ F G) = ma_ex (d + 3) 156 57 [some (vR 20 0 0), some (vI m), some (vI o), some (vI r1), some (vI r2), some (vI t), some (vI tw), some (vI (nI (k + 1))), some (vI y8), u9] [] (ma_mh σ F (ma_uG G k (sp_rest o t (G k)))) := by
  have hin : ma_in (nI k) 4 := sp_nIin hk (Nat.le_refl _)
  have hcl : (nI k).toNatClampNeg = k := nI_clamp (by omega)
  have fin : ∀ R, R = sp_rest o t (G k) → ma_ex (d + 3) 156 57 [some (vR 20 0 0), some (vI m), some (vI o), some (vI r1), some (vI r2), some (vI t), some (vI tw), some (vI (nI (k + 1))), some (vI y8), u9] [] (ma_mh σ F (ma_uG G k R)) = ma_ex (d + 3) 156 57 [some (vR 20 0 0), some (vI m), some (vI o), some (vI r1), some (vI r2), some (vI t), some (vI tw), some (vI (nI (k + 1))), some (vI y8), u9] [] (ma_mh σ F (ma_uG G k (sp_rest o t (G k)))) := fun R z => by rw [z]
  generalize ma_ex (d + 3) 156 57 [some (vR 20 0 0), some (vI m), some (vI o), some (vI r1), some (vI r2), some (vI t), some (vI tw), some (vI (nI (k + 1))), some (vI y8), u9] [] (ma_mh σ F (ma_uG G k (sp_rest o t (G k)))) = RR at fin ⊢
  rcases Classical.propComplete (o = 7) with c1 | c1 <;> rcases Classical.propComplete (G k 4 ≤ t) with c2 | c2
  all_goals
    simp only [bk_156_102, bk_156_120, bk_156_133, bk_156_134, bk_156_141, bk_156_267, ma_if_pos hin, hcl, ma_mh_A, ma_mh_uA, ma_uG_at, ma_uG_uG, c1, c2, ma_bd_some, ma_bd_none, ma_tl1, ma_tl0, ma_ap1, ma_ap0, b2i_0, b2i_1, b2i_01, ma_l10, ma_l01, eq_self, if_true, if_false, true_or, or_true, not_true_eq_false, not_false_eq_true, Bool.false_eq_true, ma_la_2, Nat.reduceEqDiff]
    rw [← nI_succ]
    apply fin
    funext q
    simp only [upd, sp_rest, sp_sub, c1, c2, if_true, if_false]
    by_cases q4 : q = 4
    · subst q4; simp
    by_cases q6 : q = 6
    · subst q6; simp
    · simp [q4, q6]
def sp_al1 (o : Int32) (R : Nat → Int32) : Nat → Int32 := fun q => if q = 3 then (if R 3 = 1 then 0 else 1) else if q = 5 then (if o = 0 ∨ o = 1 then R 5 + 1 else R 5) else R q
theorem sp_al2 (o : Int32) (R : Nat → Int32) : upd (sp_al1 o R) 4 (sp_cap (sp_al1 o R 4 + sp_more o (sp_al1 o R))) = sp_along o R := by
  funext q
  have e : sp_more o (sp_al1 o R) = sp_more o R := rfl
  have e4 : sp_al1 o R 4 = R 4 := rfl
  rw [e, e4]
  simp only [upd, sp_along, sp_al1]
  by_cases q3 : q = 3
  · subst q3; simp
  by_cases q4 : q = 4
  · subst q4; simp
  by_cases q5 : q = 5
  · subst q5; simp
  · simp [q3, q4, q5]
theorem cm_mv_al1 (d k : Nat) (m o r1 r2 t tw : Int32) (y8 : Int32) (u9 : Option ma_V) (σ : ma_S) (F : Nat → Int32) (G : Nat → Nat → Int32) (hk : k < 4) (ho : 0 ≤ o.toInt) (h3 : G k 3 = 0 ∨ G k 3 = 1) : ma_ex (d + 3) 156 156 [some (vR 20 0 0), some (vI m), some (vI o), some (vI r1), some (vI r2), some (vI t), some (vI tw), some (vI (nI k)), some (vI y8), u9] [] (ma_mh σ F G) = ma_ex (d + 3) 156 188 [some (vR 20 0 0), some (vI m), some (vI o), some (vI r1), some (vI r2), some (vI t), some (vI tw), some (vI (nI k)), some (vI y8), u9] [] (ma_mh σ F (ma_uG G k (sp_al1 o (G k)))) := by
  have hin : ma_in (nI k) 4 := sp_nIin hk (Nat.le_refl _)
  have hcl : (nI k).toNatClampNeg = k := nI_clamp (by omega)
  have hg3 : (1 : Int32) - G k 3 = if G k 3 = 1 then 0 else 1 := by rcases h3 with z | z <;> rw [z] <;> decide
  have ho2 : ((2 : Int32) ≤ o) = ¬ (o = 0 ∨ o = 1) := by
    apply propext
    rw [ma_le, ma_eq, ma_eq]
    have e0 : (0 : Int32).toInt = 0 := rfl
    have e1 : (1 : Int32).toInt = 1 := rfl
    have e2 : (2 : Int32).toInt = 2 := rfl
    omega
  have fin : ∀ R, R = sp_al1 o (G k) → ma_ex (d + 3) 156 188 [some (vR 20 0 0), some (vI m), some (vI o), some (vI r1), some (vI r2), some (vI t), some (vI tw), some (vI (nI k)), some (vI y8), u9] [] (ma_mh σ F (ma_uG G k R)) = ma_ex (d + 3) 156 188 [some (vR 20 0 0), some (vI m), some (vI o), some (vI r1), some (vI r2), some (vI t), some (vI tw), some (vI (nI k)), some (vI y8), u9] [] (ma_mh σ F (ma_uG G k (sp_al1 o (G k)))) := fun R z => by rw [z]
  generalize ma_ex (d + 3) 156 188 [some (vR 20 0 0), some (vI m), some (vI o), some (vI r1), some (vI r2), some (vI t), some (vI tw), some (vI (nI k)), some (vI y8), u9] [] (ma_mh σ F (ma_uG G k (sp_al1 o (G k)))) = RR at fin ⊢
  rcases Classical.propComplete (o = 0 ∨ o = 1) with c1 | c1
  all_goals
    simp only [bk_156_156, bk_156_177, ma_if_pos hin, hcl, ma_mh_A, ma_mh_uA, ma_uG_at, ma_uG_uG, ho2, c1, hg3, ma_bd_some, ma_bd_none, ma_tl1, ma_tl0, ma_ap1, ma_ap0, b2i_0, b2i_1, b2i_01, ma_l10, ma_l01, eq_self, if_true, if_false, true_or, or_true, not_true_eq_false, not_false_eq_true, Bool.false_eq_true]
    apply fin
    funext q
    simp only [upd, sp_al1, c1, if_true, if_false]
    by_cases q3 : q = 3
    · subst q3; simp
    by_cases q5 : q = 5
    · subst q5; simp
    · simp [q3, q5]
theorem cm_mv_al2 (d k : Nat) (m o r1 r2 t tw : Int32) (y8 : Int32) (u9 : Option ma_V) (σ : ma_S) (F : Nat → Int32) (G : Nat → Nat → Int32) (hk : k < 4) : ma_ex (d + 3) 156 188 [some (vR 20 0 0), some (vI m), some (vI o), some (vI r1), some (vI r2), some (vI t), some (vI tw), some (vI (nI k)), some (vI y8), u9] [] (ma_mh σ F G) = ma_ex (d + 3) 156 228 [some (vR 20 0 0), some (vI m), some (vI o), some (vI r1), some (vI r2), some (vI t), some (vI tw), some (vI (nI k)), some (vI y8), u9] [vI (sp_more o (G k))] (ma_mh σ F G) := by
  have hin : ma_in (nI k) 4 := sp_nIin hk (Nat.le_refl _)
  have hcl : (nI k).toNatClampNeg = k := nI_clamp (by omega)
  have hPu := cm_pulled' (d + 2) (nI k) σ F G hin
  rw [hcl] at hPu
  unfold sp_more
  by_cases c2 : o = 2
  · simp only [bk_156_188, bk_156_193, bk_156_199, c2, hPu, ma_bd_some, ma_bd_none, ma_tl1, ma_tl0, ma_ap1, ma_ap0, b2i_0, b2i_1, b2i_01, ma_l10, ma_l01, eq_self, if_true, if_false, true_or, or_true, not_true_eq_false, not_false_eq_true, Bool.false_eq_true]
  by_cases c3 : o = 3
  · have c2' : ((3 : Int32) = 2) = False := by decide
    simp only [bk_156_188, bk_156_202, bk_156_207, bk_156_213, c3, c2', hPu, ma_bd_some, ma_bd_none, ma_tl1, ma_tl0, ma_ap1, ma_ap0, b2i_0, b2i_1, b2i_01, ma_l10, ma_l01, eq_self, if_true, if_false, true_or, or_true, not_true_eq_false, not_false_eq_true, Bool.false_eq_true]
  by_cases c4 : o = 4
  · have c2' : ((4 : Int32) = 2) = False := by decide
    have c3' : ((4 : Int32) = 3) = False := by decide
    simp only [bk_156_188, bk_156_202, bk_156_218, bk_156_223, c4, c2', c3', ma_bd_some, ma_bd_none, ma_tl1, ma_tl0, ma_ap1, ma_ap0, b2i_0, b2i_1, b2i_01, ma_l10, ma_l01, eq_self, if_true, if_false, true_or, or_true, not_true_eq_false, not_false_eq_true, Bool.false_eq_true]
  · simp only [bk_156_188, bk_156_202, bk_156_218, bk_156_227, c4, c2, c3, ma_bd_some, ma_bd_none, ma_tl1, ma_tl0, ma_ap1, ma_ap0, b2i_0, b2i_1, b2i_01, ma_l10, ma_l01, eq_self, if_true, if_false, true_or, or_true, not_true_eq_false, not_false_eq_true, Bool.false_eq_true]
theorem cm_mv_al3 (d k : Nat) (m o r1 r2 t tw v : Int32) (y8 : Int32) (u9 : Option ma_V) (σ : ma_S) (F : Nat → Int32) (G : Nat → Nat → Int32) (hk : k < 4) : ma_ex (d + 3) 156 228 [some (vR 20 0 0), some (vI m), some (vI o), some (vI r1), some (vI r2), some (vI t), some (vI tw), some (vI (nI k)), some (vI y8), u9] [vI v] (ma_mh σ F G) = ma_ex (d + 3) 156 57 [some (vR 20 0 0), some (vI m), some (vI o), some (vI r1), some (vI r2), some (vI t), some (vI tw), some (vI (nI (k + 1))), some (vI y8), some (vI v)] [] (ma_mh σ F (ma_uG G k (upd (G k) 4 (sp_cap (G k 4 + v))))) := by
  have hin : ma_in (nI k) 4 := sp_nIin hk (Nat.le_refl _)
  have hcl : (nI k).toNatClampNeg = k := nI_clamp (by omega)
  have hcap : ((99 : Int32) < G k 4 + v) = ¬ (G k 4 + v ≤ 99) := by
    apply propext; rw [ma_le, ma_lt]; omega
  unfold sp_cap
  rcases Classical.propComplete (G k 4 + v ≤ 99) with c1 | c1
  all_goals simp only [bk_156_228, bk_156_251, bk_156_256, bk_156_266, bk_156_267, ma_if_pos hin, hcl, ma_mh_A, ma_mh_uA, nI_succ, ma_la_2, hcap, c1, ma_bd_some, ma_bd_none, ma_tl1, ma_tl0, ma_ap1, ma_ap0, b2i_0, b2i_1, b2i_01, ma_l10, ma_l01, eq_self, if_true, if_false, true_or, or_true, not_true_eq_false, not_false_eq_true, Bool.false_eq_true, Nat.reduceEqDiff]
theorem cm_moves_loop (d n : Nat) (m t r1 r2 tw : Int32) (σ : ma_S) (F : Nat → Int32) (G : Nat → Nat → Int32) (hF : F 1 = nI n) (hn : n ≤ 4) (h1 : r1 = ma_rm (m / 10) 10) (h2 : r2 = ma_rm m 10) (ho : 0 ≤ (m / 100).toInt) (htw : tw = b2i (sp_two (m / 100) = true)) (hG : ∀ r, r < n → G r 3 = 0 ∨ G r 3 = 1) :
    ∀ j k, n - k = j → k ≤ n → ∀ u8 u9 : Option ma_V, ∃ u8' u9' : Option ma_V, ma_ex (d + 3) 156 57 [some (vR 20 0 0), some (vI m), some (vI (m / 100)), some (vI r1), some (vI r2), some (vI t), some (vI tw), some (vI (nI k)), u8, u9] [] (ma_mh σ F (sp_Gk m t k G)) = ma_ex (d + 3) 156 273 [some (vR 20 0 0), some (vI m), some (vI (m / 100)), some (vI r1), some (vI r2), some (vI t), some (vI tw), some (vI (nI n)), u8', u9'] [] (ma_mh σ F (sp_Gk m t n G)) := by
  subst htw
  intro j
  induction j with
  | zero =>
    intro k hj hk u8 u9
    have : k = n := by omega
    subst this
    refine ⟨u8, u9, ?_⟩
    rw [bk_156_57, if_pos (by rw [ma_mh_F, hF]; exact nI_le (Nat.le_refl _) (by omega))]
  | succ j ih =>
    intro k hj hk u8 u9
    have hlt : k < n := by omega
    rw [bk_156_57, if_neg (by rw [ma_mh_F, hF]; exact nI_ge hlt (by omega)), cm_mv_ph1]
    have hI : sp_tk m (nI k) = true ↔ (¬ m / 100 = 7 ∧ (nI k = r1 ∨ (sp_two (m / 100) = true ∧ nI k = r2))) := by unfold sp_tk; rw [decide_eq_true_iff, h1, h2]
    by_cases hp : sp_tk m (nI k) = true
    · have e := sp_Gk_succ (m := m) (t := t) (k := k) (G := G) (R := sp_along (m / 100) (G k)) (by unfold sp_step; rw [if_pos hp])
      obtain ⟨u8', u9', hih⟩ := ih (k + 1) (by omega) (by omega) (some (vI 1)) (some (vI (sp_more (m / 100) (sp_al1 (m / 100) (G k)))))
      refine ⟨u8', u9', ?_⟩
      rw [b2i_t (hI.mp hp), bk_156_95, if_neg (by decide), cm_mv_al1 _ _ _ _ _ _ _ _ _ _ _ _ _ (by omega) ho (by rw [sp_Gk_at]; exact hG k hlt), cm_mv_al2 _ _ _ _ _ _ _ _ _ _ _ _ _ (by omega), cm_mv_al3 _ _ _ _ _ _ _ _ _ _ _ _ _ _ (by omega)]
      rw [ma_uG_at, ma_uG_uG, sp_Gk_at, sp_al2, e]
      exact hih
    · have e := sp_Gk_succ (m := m) (t := t) (k := k) (G := G) (R := sp_rest (m / 100) t (G k)) (by unfold sp_step; rw [if_neg hp])
      obtain ⟨u8', u9', hih⟩ := ih (k + 1) (by omega) (by omega) (some (vI 0)) u9
      refine ⟨u8', u9', ?_⟩
      rw [b2i_f (fun z => hp (hI.mpr z)), bk_156_95, if_pos rfl, cm_mv_rest _ _ _ _ _ _ _ _ _ _ _ _ _ (by omega), sp_Gk_at, e]
      exact hih
theorem cm_mv_end (d : Nat) (m o r1 r2 t tw k : Int32) (u8 u9 : Option ma_V) (σ : ma_S) (F : Nat → Int32) (G : Nat → Nat → Int32) (ho : 0 ≤ o.toInt) : ma_ex (d + 3) 156 273 [some (vR 20 0 0), some (vI m), some (vI o), some (vI r1), some (vI r2), some (vI t), some (vI tw), some (vI k), u8, u9] [] (ma_mh σ F G) = some (none, ma_mh σ (sp_sl o F) G) := by
  have ho2 : ((2 : Int32) ≤ o) = ¬ (o = 0 ∨ o = 1) := by
    apply propext
    rw [ma_le, ma_eq, ma_eq]
    have e0 : (0 : Int32).toInt = 0 := rfl
    have e1 : (1 : Int32).toInt = 1 := rfl
    have e2 : (2 : Int32).toInt = 2 := rfl
    omega
  have fin : ∀ F', F' = sp_sl o F → some ((none : Option ma_V), ma_mh σ F' G) = some (none, ma_mh σ (sp_sl o F) G) := fun R z => by rw [z]
  generalize some ((none : Option ma_V), ma_mh σ (sp_sl o F) G) = RR at fin ⊢
  have n02 : ((0 : Int32) = 2) = False := by decide
  have n03 : ((0 : Int32) = 3) = False := by decide
  have n05 : ((0 : Int32) = 5) = False := by decide
  have n12 : ((1 : Int32) = 2) = False := by decide
  have n13 : ((1 : Int32) = 3) = False := by decide
  have n15 : ((1 : Int32) = 5) = False := by decide
  have n25 : ((2 : Int32) = 5) = False := by decide
  have n35 : ((3 : Int32) = 5) = False := by decide
  by_cases c0 : o = 0 ∨ o = 1
  · have c0' := eq_true c0
    rcases c0 with rfl | rfl
    all_goals
      simp only [bk_156_273, bk_156_278, bk_156_298, bk_156_303, bk_156_308, bk_156_313, bk_156_333, bk_156_338, bk_156_348, ma_mh_F, ma_mh_uF, ho2, c0', n02, n03, n05, n12, n13, n15, ma_bd_some, ma_bd_none, ma_tl1, ma_tl0, ma_ap1, ma_ap0, b2i_0, b2i_1, b2i_01, ma_l10, ma_l01, eq_self, if_true, if_false, true_or, or_true, not_true_eq_false, not_false_eq_true, Bool.false_eq_true]
      apply fin
      funext q
      simp only [upd, sp_sl]
      by_cases q2 : q = 2
      · subst q2; simp
      by_cases q3 : q = 3
      · subst q3; simp
      by_cases q5 : q = 5
      · subst q5; simp
      · simp [q2, q3, q5]
  · have c0' := eq_false c0
    rcases Classical.propComplete (o = 2) with c2 | c2 <;> rcases Classical.propComplete (o = 3) with c3 | c3 <;> rcases Classical.propComplete (o = 5) with c5 | c5
    all_goals
      simp only [bk_156_273, bk_156_278, bk_156_298, bk_156_303, bk_156_308, bk_156_313, bk_156_333, bk_156_338, bk_156_348, ma_mh_F, ma_mh_uF, ho2, c0', c2, c3, c5, ma_bd_some, ma_bd_none, ma_tl1, ma_tl0, ma_ap1, ma_ap0, b2i_0, b2i_1, b2i_01, ma_l10, ma_l01, eq_self, if_true, if_false, true_or, or_true, not_true_eq_false, not_false_eq_true, Bool.false_eq_true]
      apply fin
      funext q
      simp only [upd, sp_sl, c0', c2, c3, c5]
      by_cases q2 : q = 2
      · subst q2; simp
      by_cases q3 : q = 3
      · subst q3; simp
      by_cases q5 : q = 5
      · subst q5; simp
      · simp [q2, q3, q5]
theorem ma_mh_u (σ : ma_S) (k : Nat) (v : Int32) : ma_u σ 20 0 0 k v = ma_mh σ (upd (σ.1 20 0 0) k v) (ma_G σ) := by
  have h := ma_mh_uF σ k (σ.1 20 0 0) (ma_G σ) v
  rw [ma_mh_id] at h
  exact h
theorem sp_two_b (o : Int32) : b2i (sp_two o = true) = if o = 1 then 1 else if o = 3 then 1 else 0 := by
  simp only [sp_two, b2i, decide_eq_true_eq]
  by_cases c1 : o = 1 <;> by_cases c3 : o = 3 <;> simp [c1, c3]
theorem sp_mvG_Gk {F : Nat → Int32} {n : Nat} (hF : F 1 = nI n) (hn : n ≤ 4) (G : Nat → Nat → Int32) (m : Int32) : sp_Gk m (sp_last F G m) n G = sp_mvG F G m := by
  have hni : (nI n).toInt = n := nI_toInt (by omega)
  funext r
  simp only [sp_Gk, sp_mvG, hF, hni]
  by_cases e : r < n
  · rw [if_pos e, if_pos (by omega)]
  · rw [if_neg e, if_neg (by omega)]
theorem cm_moves (d : Nat) (m : Int32) (σ : ma_S) (hk : sp_ok (σ.1 20 0 0) (ma_G σ)) (hm : sp_isM (σ.1 20 0 0 1) m = true) : ma_cal (d + 4) 156 [vR 20 0 0, vI m] σ = some (none, ma_mh σ (sp_mvF (σ.1 20 0 0) (ma_G σ) m) (sp_mvG (σ.1 20 0 0) (ma_G σ) m)) := by
  rw [en_156]
  have hi := sp_isM_in hk.2.1 hm
  obtain ⟨n, hn, hF⟩ := sp_n_of hk
  have hni : (nI n).toInt = n := nI_toInt (by omega)
  have hm2 := sp_isM_iff.mp hm
  have ho : 0 ≤ (m / 100).toInt := by
    have := sp_d100 (m := m) (by omega)
    omega
  have e1 : (1 : Int32) = b2i (sp_two (m / 100) = true) ∨ True := Or.inr trivial
  have hl := cm_moves_loop d n m (sp_last (σ.1 20 0 0) (ma_G σ) m) _ _ _ σ (upd (σ.1 20 0 0) 4 (σ.1 20 0 0 4 - sp_last (σ.1 20 0 0) (ma_G σ) m)) (ma_G σ) hF hn rfl rfl ho rfl (fun r hr => (hk.2.2.2.2.2.2.2.2 r (by rw [hF, hni]; omega)).2.2.1) n 0 (by omega) (Nat.zero_le _) none none
  obtain ⟨u8, u9, hl⟩ := hl
  rw [sp_Gk_0, sp_mvG_Gk hF hn, nI_0, sp_two_b] at hl
  have he := cm_mv_end d m (m / 100) (ma_rm (m / 10) 10) (ma_rm m 10) (sp_last (σ.1 20 0 0) (ma_G σ) m) (if m / 100 = 1 then 1 else if m / 100 = 3 then 1 else 0) (nI n) u8 u9 σ (upd (σ.1 20 0 0) 4 (σ.1 20 0 0 4 - sp_last (σ.1 20 0 0) (ma_G σ) m)) (sp_mvG (σ.1 20 0 0) (ma_G σ) m) ho
  rw [he] at hl
  unfold sp_mvF
  rw [← hl]
  by_cases c1 : m / 100 = 1
  · simp only [bk_156_0, bk_156_24, bk_156_36, bk_156_41, cm_lasts _ _ _ hi.1 hi.2, c1, ma_bd_some, ma_bd_none, ma_tl1, ma_tl0, ma_ap1, ma_ap0, b2i_0, b2i_1, b2i_01, ma_l10, ma_l01, eq_self, if_true, if_false, true_or, or_true, not_true_eq_false, not_false_eq_true, Bool.false_eq_true, ma_mh_u]
  by_cases c3 : m / 100 = 3
  · have n31 : ((3 : Int32) = 1) = False := by decide
    simp only [bk_156_0, bk_156_24, bk_156_31, bk_156_36, bk_156_41, cm_lasts _ _ _ hi.1 hi.2, c3, n31, ma_bd_some, ma_bd_none, ma_tl1, ma_tl0, ma_ap1, ma_ap0, b2i_0, b2i_1, b2i_01, ma_l10, ma_l01, eq_self, if_true, if_false, true_or, or_true, not_true_eq_false, not_false_eq_true, Bool.false_eq_true, ma_mh_u]
  · simp only [bk_156_0, bk_156_24, bk_156_31, bk_156_40, bk_156_41, cm_lasts _ _ _ hi.1 hi.2, c3, c1, ma_bd_some, ma_bd_none, ma_tl1, ma_tl0, ma_ap1, ma_ap0, b2i_0, b2i_1, b2i_01, ma_l10, ma_l01, eq_self, if_true, if_false, true_or, or_true, not_true_eq_false, not_false_eq_true, Bool.false_eq_true, ma_mh_u]
