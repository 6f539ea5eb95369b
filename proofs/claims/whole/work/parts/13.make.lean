/-! PART 13: a MOVE is made: the class. -/
def sp_cap (x : Int32) : Int32 := if 99 < x then 99 else x
def sp_sub (x t : Int32) : Int32 := if x ≤ t then 0 else x - t
def sp_more (o : Int32) (R : Nat → Int32) : Int32 := if o = 2 then sp_pby (R 1) (R 2) else if o = 3 then sp_pby (R 1) (R 2) / 2 else if o = 4 then 3 else 0
def sp_along (o : Int32) (R : Nat → Int32) : Nat → Int32 := fun k => if k = 3 then (if R 3 = 1 then 0 else 1) else if k = 5 then (if o = 0 ∨ o = 1 then R 5 + 1 else R 5) else if k = 4 then sp_cap (R 4 + sp_more o R) else R k
def sp_rest (o t : Int32) (R : Nat → Int32) : Nat → Int32 := fun k => if k = 4 then sp_sub (R 4) t else if k = 6 then R 6 + (if o = 7 then 0 else t) else R k
def sp_tk (m r : Int32) : Bool := decide (¬ m / 100 = 7 ∧ (r = ma_rm (m / 10) 10 ∨ (sp_two (m / 100) = true ∧ r = ma_rm m 10)))
def sp_step (m t : Int32) (k : Nat) (R : Nat → Int32) : Nat → Int32 := if sp_tk m (nI k) = true then sp_along (m / 100) R else sp_rest (m / 100) t R
/-- the riders behind a MOVE -/
def sp_mvG (F : Nat → Int32) (G : Nat → Nat → Int32) (m : Int32) : Nat → Nat → Int32 := fun r => if (r : Int) < (F 1).toInt then sp_step m (sp_last F G m) r (G r) else G r
/-- the hill's numbers behind a MOVE -/
def sp_sl (o : Int32) (F : Nat → Int32) : Nat → Int32 := fun k => if k = 2 then (if o = 0 ∨ o = 1 then F 2 + 1 else if o = 2 ∨ o = 3 ∨ o = 5 then F 2 - 1 else F 2)
  else if k = 3 then (if o = 0 ∨ o = 1 then F 3 - 1 else if o = 2 ∨ o = 3 ∨ o = 5 then F 3 + 1 else F 3)
  else if k = 5 then (if o = 5 then F 5 - 1 else F 5)
  else F k
def sp_mvF (F : Nat → Int32) (G : Nat → Nat → Int32) (m : Int32) : Nat → Int32 := sp_sl (m / 100) (upd F 4 (F 4 - sp_last F G m))
/-- one rider of a hill anew -/
def ma_sr (σ : ma_S) (i r : Nat) (R : Nat → Int32) : ma_S := (fun g' i' j' k' => if g' = 4 ∧ i' = i ∧ j' = r then R k' else σ.1 g' i' j' k', σ.2)
/-- a hill anew -/
def ma_sh (σ : ma_S) (i : Nat) (F : Nat → Int32) (G : Nat → Nat → Int32) : ma_S := (fun g' i' j' k' => if g' = 2 ∧ i' = i ∧ j' = 0 then F k' else if g' = 4 ∧ i' = i then G j' k' else σ.1 g' i' j' k', σ.2)
theorem ma_S_ext {σ τ : ma_S} (h1 : ∀ g i j k, σ.1 g i j k = τ.1 g i j k) (h2 : ∀ i k, σ.2 i k = τ.2 i k) : σ = τ := Prod.ext (by funext g i j k; exact h1 g i j k) (by funext i k; exact h2 i k)
theorem ma_sr_id (σ : ma_S) (i r : Nat) : ma_sr σ i r (σ.1 4 i r) = σ := by
  refine ma_S_ext (fun g i' j k => ?_) (fun _ _ => rfl)
  simp only [ma_sr]; split
  · rename_i h; obtain ⟨rfl, rfl, rfl⟩ := h; rfl
  · rfl
theorem ma_sh_id (σ : ma_S) (i : Nat) : ma_sh σ i (σ.1 2 i 0) (σ.1 4 i) = σ := by
  refine ma_S_ext (fun g i' j k => ?_) (fun _ _ => rfl)
  simp only [ma_sh]; split
  · rename_i h; obtain ⟨rfl, rfl, rfl⟩ := h; rfl
  · split
    · rename_i h; obtain ⟨rfl, rfl⟩ := h; rfl
    · rfl
theorem ma_sr_at (σ : ma_S) (i r : Nat) (R : Nat → Int32) : (ma_sr σ i r R).1 4 i r = R := by funext k; simp [ma_sr]
theorem ma_sr_u (σ : ma_S) (i r k : Nat) (R : Nat → Int32) (v : Int32) : ma_u (ma_sr σ i r R) 4 i r k v = ma_sr σ i r (upd R k v) := by
  refine ma_S_ext (fun g i' j k' => ?_) (fun _ _ => rfl)
  simp only [ma_u, ma_sr, upd]
  by_cases h : g = 4 ∧ i' = i ∧ j = r
  · obtain ⟨rfl, rfl, rfl⟩ := h; simp
  · rw [if_neg h, if_neg (fun z => h ⟨z.1, z.2.1, z.2.2.1⟩), if_neg h]
theorem ma_sh_F (σ : ma_S) (i : Nat) (F : Nat → Int32) (G : Nat → Nat → Int32) : (ma_sh σ i F G).1 2 i 0 = F := by funext k; simp [ma_sh]
theorem ma_sh_G (σ : ma_S) (i : Nat) (F : Nat → Int32) (G : Nat → Nat → Int32) : (ma_sh σ i F G).1 4 i = G := by funext r k; simp [ma_sh]
theorem ma_sh_uF (σ : ma_S) (i k : Nat) (F : Nat → Int32) (G : Nat → Nat → Int32) (v : Int32) : ma_u (ma_sh σ i F G) 2 i 0 k v = ma_sh σ i (upd F k v) G := by
  refine ma_S_ext (fun g i' j k' => ?_) (fun _ _ => rfl)
  simp only [ma_u, ma_sh, upd]
  by_cases h : g = 2 ∧ i' = i ∧ j = 0
  · obtain ⟨rfl, rfl, rfl⟩ := h; simp
  · rw [if_neg (fun z => h ⟨z.1, z.2.1, z.2.2.1⟩), if_neg h, if_neg h]
def ma_uG (G : Nat → Nat → Int32) (r : Nat) (R : Nat → Int32) : Nat → Nat → Int32 := fun r' => if r' = r then R else G r'
theorem ma_sh_sr (σ : ma_S) (i r : Nat) (F : Nat → Int32) (G : Nat → Nat → Int32) (R : Nat → Int32) : ma_sr (ma_sh σ i F G) i r R = ma_sh σ i F (ma_uG G r R) := by
  refine ma_S_ext (fun g i' j k' => ?_) (fun _ _ => rfl)
  simp only [ma_sr, ma_sh, ma_uG]
  by_cases h : g = 4 ∧ i' = i ∧ j = r
  · obtain ⟨rfl, rfl, rfl⟩ := h; simp
  · rw [if_neg h]
    by_cases h2 : g = 2 ∧ i' = i ∧ j = 0
    · rw [if_pos h2, if_pos h2]
    · rw [if_neg h2, if_neg h2]
      by_cases h3 : g = 4 ∧ i' = i
      · rw [if_pos h3, if_pos h3, if_neg (fun z => h ⟨h3.1, h3.2, z⟩)]
      · rw [if_neg h3, if_neg h3]
theorem ma_sh_uG (σ : ma_S) (i r k : Nat) (F : Nat → Int32) (G : Nat → Nat → Int32) (v : Int32) : ma_u (ma_sh σ i F G) 4 i r k v = ma_sh σ i F (ma_uG G r (upd (G r) k v)) := by
  have h := ma_sr_id (ma_sh σ i F G) i r
  rw [ma_sh_G] at h
  rw [← h, ma_sr_u, ma_sh_sr]
theorem ma_sh_sh (σ : ma_S) (i : Nat) (F F' : Nat → Int32) (G G' : Nat → Nat → Int32) : ma_sh (ma_sh σ i F G) i F' G' = ma_sh σ i F' G' := by
  refine ma_S_ext (fun g i' j k' => ?_) (fun _ _ => rfl)
  simp only [ma_sh]
  repeat' split
  all_goals rfl
theorem ma_fx {f g : Nat → Int32} (h : ∀ k, f k = g k) : f = g := funext h
theorem cx_comeAlong (d i r : Nat) (o : Int32) (σ : ma_S) : ma_cal (d + 1) 41 [vR 4 i r, vI o] σ = some (none, ma_sr σ i r (sp_along o (σ.1 4 i r))) := by
  rw [en_41]
  obtain ⟨R, hR⟩ : ∃ R, σ.1 4 i r = R := ⟨_, rfl⟩
  have hσ : σ = ma_sr σ i r R := by rw [← hR, ma_sr_id]
  rw [hR]
  generalize hτ : ma_sr σ i r (sp_along o R) = τ
  rw [hσ]
  simp only [bk_41_0, bk_41_8, bk_41_16, bk_41_20, bk_41_27, bk_41_37, bk_41_41, bk_41_42, bk_41_80, bk_41_93, bk_41_106, bk_41_121, bk_41_134, ma_sr_u, ma_sr_at, ma_bd_some, ma_bd_none, ma_tl1, ma_tl0, ma_ap1, ma_ap0, b2i_0, b2i_1, b2i_01, ma_l10, ma_l01, eq_self, if_true, if_false, true_or, or_true, not_true_eq_false, not_false_eq_true, Bool.false_eq_true]
  have key : ∀ R', R' = sp_along o R → some ((none : Option ma_V), ma_sr σ i r R') = some (none, τ) := fun R' e => by rw [e, hτ]
  repeat' (refine ma_iteq (fun _ => ?_) (fun _ => ?_))
  all_goals
    apply key
    clear key hτ hσ hR
    apply ma_fx
    intro k
    simp only [sp_along, upd, sp_cap, sp_more, sp_pby]
    by_cases k3 : k = 3
    · subst k3; simp_all
    by_cases k4 : k = 4
    · subst k4; simp_all
    by_cases k5 : k = 5
    · subst k5; simp_all
    · simp_all
theorem cx_recover (d i r : Nat) (t : Int32) (σ : ma_S) (h1 : 0 ≤ (σ.1 4 i r 4).toInt) (h2 : 0 ≤ t.toInt) : ma_cal (d + 1) 42 [vR 4 i r, vI t] σ = some (none, ma_u σ 4 i r 4 (sp_sub (σ.1 4 i r 4) t)) := by
  rw [en_42]
  simp only [bk_42_0]
  have h3 := Int32.toInt_lt (σ.1 4 i r 4)
  have h4 := Int32.toInt_lt t
  congr 3
  unfold sp_sub
  have e0 : (0 : Int32).toInt = 0 := rfl
  simp only [ma_lt, ma_le]
  rw [ma_sub (by omega) (by omega), e0]
  split <;> split
  · rfl
  · omega
  · apply ma_eq.mpr; rw [ma_sub (by omega) (by omega), e0]; omega
  · rfl
theorem cx_takesPart (d : Nat) (m r : Int32) (σ : ma_S) : ma_cal (d + 2) 18 [vI m, vI r] σ = some (some (vI (b2i (sp_tk m r = true))), σ) := by
  rw [en_18]
  simp only [bk_18_0, bk_18_4, bk_18_11, bk_18_22, bk_18_26, bk_18_29, bk_18_37, bk_18_41, bk_18_42, cx_sortOf, cx_isByTwo, ma_bd_some, ma_bd_none, ma_tl1, ma_tl0, ma_ap1, ma_ap0, b2i_0, b2i_1, b2i_01, ma_l10, ma_l01, eq_self, if_true, if_false, true_or, or_true, not_true_eq_false, not_false_eq_true, Bool.false_eq_true]
  have tt : sp_tk m r = true → some (some (vI 1), σ) = some (some (vI (b2i (sp_tk m r = true))), σ) := fun e => by rw [b2i_t e]
  have ff : ¬ sp_tk m r = true → some (some (vI 0), σ) = some (some (vI (b2i (sp_tk m r = true))), σ) := fun e => by rw [b2i_f e]
  generalize some (some (vI (b2i (sp_tk m r = true))), σ) = R at tt ff ⊢
  have hI : sp_tk m r = true ↔ (¬ m / 100 = 7 ∧ (r = ma_rm (m / 10) 10 ∨ (sp_two (m / 100) = true ∧ r = ma_rm m 10))) := by unfold sp_tk; rw [decide_eq_true_iff]
  repeat' split
  all_goals first
    | (apply tt; rw [hI]; clear hI tt ff; simp_all; done)
    | (apply ff; rw [hI]; clear hI tt ff; simp_all; done)
theorem cx_bringSledge (d i : Nat) (o : Int32) (σ : ma_S) (F : Nat → Int32) (G : Nat → Nat → Int32) : ma_cal (d + 1) 19 [vR 2 i 0, vI o] (ma_sh σ i F G) = some (none, ma_sh σ i (sp_sl o F) G) := by
  rw [en_19]
  simp only [bk_19_0, bk_19_40, bk_19_63, bk_19_96, bk_19_119, ma_sh_uF, ma_sh_F, ma_bd_some, ma_bd_none, ma_tl1, ma_tl0, ma_ap1, ma_ap0, b2i_0, b2i_1, b2i_01, ma_l10, ma_l01, eq_self, if_true, if_false, true_or, or_true, not_true_eq_false, not_false_eq_true, Bool.false_eq_true]
  generalize hτ : ma_sh σ i (sp_sl o F) G = τ
  have key : ∀ F', F' = sp_sl o F → some ((none : Option ma_V), ma_sh σ i F' G) = some (none, τ) := fun F' e => by rw [← hτ, e]
  repeat' (refine ma_iteq (fun _ => ?_) (fun _ => ?_))
  all_goals
    apply key
    clear key hτ
    apply ma_fx
    intro k
    simp only [upd, sp_sl]
    by_cases k2 : k = 2
    · subst k2; simp_all
    by_cases k3 : k = 3
    · subst k3; simp_all
    by_cases k5 : k = 5
    · subst k5; simp_all
    · simp_all
