/-! PART 52: RULES: the class plays on a hill of its own; one rule's MOVE. -/
def ma_sg (σ : ma_S) (F : Nat → Int32) (G : Nat → Nat → Int32) (f S : Nat → Int32) : ma_S := (fun g i j k => if g = 2 ∧ i = 3 ∧ j = 0 then F k else if g = 4 ∧ i = 3 then G j k else if g = 50 ∧ i = 103 ∧ j = 0 then f k else if g = 6 ∧ i = 0 ∧ j = 0 then S k else σ.1 g i j k, σ.2)
section SG
variable (σ : ma_S) (F : Nat → Int32) (G : Nat → Nat → Int32) (f S : Nat → Int32)
theorem ma_sg_id : ma_sg σ (σ.1 2 3 0) (σ.1 4 3) (σ.1 50 103 0) (σ.1 6 0 0) = σ := by
  refine ma_S_ext (fun g i j k => ?_) (fun _ _ => rfl)
  simp only [ma_sg]
  split
  · rename_i h; obtain ⟨rfl, rfl, rfl⟩ := h; rfl
  split
  · rename_i h; obtain ⟨rfl, rfl⟩ := h; rfl
  split
  · rename_i h; obtain ⟨rfl, rfl, rfl⟩ := h; rfl
  split
  · rename_i h; obtain ⟨rfl, rfl, rfl⟩ := h; rfl
  · rfl
theorem ma_sg_F : (ma_sg σ F G f S).1 2 3 0 = F := by funext k; simp [ma_sg]
theorem ma_sg_Fk (k : Nat) : (ma_sg σ F G f S).1 2 3 0 k = F k := by simp [ma_sg]
theorem ma_sg_G : (ma_sg σ F G f S).1 4 3 = G := by funext r k; simp [ma_sg]
theorem ma_sg_Gk (r k : Nat) : (ma_sg σ F G f S).1 4 3 r k = G r k := by simp [ma_sg]
theorem ma_sg_fk (k : Nat) : (ma_sg σ F G f S).1 50 103 0 k = f k := by simp [ma_sg]
theorem ma_sg_f : (ma_sg σ F G f S).1 50 103 0 = f := by funext k; simp [ma_sg]
theorem ma_sg_Sk (k : Nat) : (ma_sg σ F G f S).1 6 0 0 k = S k := by simp [ma_sg]
theorem ma_sg_0F : (ma_sg σ F G f S).1 2 0 0 = σ.1 2 0 0 := by funext k; simp [ma_sg]
theorem ma_sg_0Fk (k : Nat) : (ma_sg σ F G f S).1 2 0 0 k = σ.1 2 0 0 k := by simp [ma_sg]
theorem ma_sg_0G : (ma_sg σ F G f S).1 4 0 = σ.1 4 0 := by funext r k; simp [ma_sg]
theorem ma_sg_uS (k : Nat) (v : Int32) : ma_u (ma_sg σ F G f S) 6 0 0 k v = ma_sg σ F G f (upd S k v) := by
  refine ma_S_ext (fun g i j k' => ?_) (fun _ _ => rfl)
  simp only [ma_u, ma_sg, upd]
  by_cases h : g = 6 ∧ i = 0 ∧ j = 0
  · obtain ⟨rfl, rfl, rfl⟩ := h; simp
  · rw [if_neg (fun z => h ⟨z.1, z.2.1, z.2.2.1⟩), if_neg h, if_neg h]
theorem ma_sg_uF (k : Nat) (v : Int32) : ma_u (ma_sg σ F G f S) 2 3 0 k v = ma_sg σ (upd F k v) G f S := by
  refine ma_S_ext (fun g i j k' => ?_) (fun _ _ => rfl)
  simp only [ma_u, ma_sg, upd]
  by_cases h : g = 2 ∧ i = 3 ∧ j = 0
  · obtain ⟨rfl, rfl, rfl⟩ := h; simp
  · rw [if_neg (fun z => h ⟨z.1, z.2.1, z.2.2.1⟩), if_neg h, if_neg h]
theorem ma_sg_ar (f' : Nat → Int32) : ma_ar (ma_sg σ F G f S) 103 f' = ma_sg σ F G f' S := by
  refine ma_S_ext (fun g i j k => ?_) (fun _ _ => rfl)
  simp only [ma_ar, ma_sg]
  by_cases h : g = 50 ∧ i = 103 ∧ j = 0
  · obtain ⟨rfl, rfl, rfl⟩ := h; simp
  · rw [if_neg h, if_neg h, if_neg h]
theorem ma_sg_sh (F' : Nat → Int32) (G' : Nat → Nat → Int32) : ma_sh (ma_sg σ F G f S) 3 F' G' = ma_sg σ F' G' f S := by
  refine ma_S_ext (fun g i j k => ?_) (fun _ _ => rfl)
  simp only [ma_sh, ma_sg]
  repeat' split
  all_goals rfl
theorem ma_sx_sg : ma_sx σ (ma_sg σ F G f S) := by
  refine ⟨?_, ?_, ?_, ?_, ?_, rfl, ?_, ?_, ?_, ?_⟩
  all_goals (try funext i) <;> (try funext j) <;> (try funext k) <;> simp [ma_sg]
end SG
def sp_S (S0 : Nat → Int32) (b t : Int32) : Nat → Int32 := fun q => if q = 1 then b else if q = 2 then t else S0 q
theorem sp_S_1 (S0 : Nat → Int32) (b t : Int32) : sp_S S0 b t 1 = b := rfl
theorem sp_S_2 (S0 : Nat → Int32) (b t : Int32) : sp_S S0 b t 2 = t := rfl
theorem sp_S_u1 (S0 : Nat → Int32) (b t v : Int32) : upd (sp_S S0 b t) 1 v = sp_S S0 v t := by
  funext q; unfold upd sp_S
  by_cases h : q = 1
  · rw [if_pos h, if_pos h]
  · rw [if_neg h, if_neg h, if_neg h]
theorem sp_S_u2 (S0 : Nat → Int32) (b t v : Int32) : upd (sp_S S0 b t) 2 v = sp_S S0 b v := by
  funext q; unfold upd sp_S
  by_cases h : q = 2
  · subst h; simp
  · rw [if_neg h, if_neg h, if_neg h]
theorem sp_S_id (S : Nat → Int32) : sp_S S (S 1) (S 2) = S := by
  funext q; unfold sp_S
  split
  · rename_i h; subst h; rfl
  split
  · rename_i h; subst h; rfl
  · rfl
/-- MOVES of one SORT that may be -/
def sp_o (F : Nat → Int32) (G : Nat → Nat → Int32) (n o : Nat) : List Nat := (sp_cs n o 1).filter (sp_P F G)
theorem sp_o_eq {F : Nat → Int32} {G : Nat → Nat → Int32} {n o : Nat} (hF : F 1 = nI n) (hn : n ≤ 4) (ho : o ≤ 4) : sp_o F G n o = (List.range' (100 * o) 40).filter (sp_P F G) := by
  unfold sp_o
  rw [sp_cs_one n o hn ho, sp_filt_P hF]
theorem sp_o_mem {F : Nat → Int32} {G : Nat → Nat → Int32} {n o v : Nat} (hF : F 1 = nI n) (hn : n ≤ 4) (ho : o ≤ 4) (h : v ∈ sp_o F G n o) : v < 500 ∧ sp_P F G v = true := by
  rw [sp_o_eq hF hn ho] at h
  obtain ⟨h1, h2⟩ := List.mem_filter.mp h
  have := (List.mem_range'_1.mp h1).2
  exact ⟨by omega, h2⟩
theorem sp_o_len {F : Nat → Int32} {G : Nat → Nat → Int32} {n o : Nat} (hn : n ≤ 4) (ho : o ≤ 4) : (sp_o F G n o).length ≤ 40 := Nat.le_trans (sp_filt_le _ _) (sp_cs_len1 n o hn ho)
section CX
variable (d n : Nat) (σ : ma_S) (F : Nat → Int32) (G : Nat → Nat → Int32) (f S : Nat → Int32)
theorem cx_sgMay (m : Int32) (hk : sp_ok F G) : ma_cal (d + 3) 16 [vR 2 3 0, vI m] (ma_sg σ F G f S) = some (some (vI (b2i (sp_may F G m = true))), ma_sg σ F G f S) := by
  have h := cx_mayBe d 3 m (ma_sg σ F G f S) (by rw [ma_sg_F, ma_sg_G]; exact hk)
  rw [ma_sg_F, ma_sg_G] at h
  exact h
theorem cx_sgMake (m : Int32) (hk : sp_ok F G) : ma_cal (d + 4) 17 [vR 2 3 0, vI m] (ma_sg σ F G f S) = if sp_may F G m = true then some (some (vI 1), ma_sg σ (sp_mvF F G m) (sp_mvG F G m) f S) else some (some (vI 0), ma_sg σ F G f S) := by
  have h := cx_make d 3 m (ma_sg σ F G f S) (by rw [ma_sg_F, ma_sg_G]; exact hk)
  rw [ma_sg_F, ma_sg_G, ma_sg_sh] at h
  exact h
theorem cx_sgMin (m : Int32) (hk : sp_ok F G) (hm : sp_isM (F 1) m = true) : ma_cal (d + 2) 15 [vR 2 3 0, vI m] (ma_sg σ F G f S) = some (some (vI (sp_last F G m)), ma_sg σ F G f S) := by
  have h := cx_minutesOf d 3 m (ma_sg σ F G f S) (by rw [ma_sg_F]; exact hk.2.1)
  rw [ma_sg_F, ma_sg_G, if_pos hm] at h
  exact h
theorem cx_sgList (o : Nat) (v : Int32) (hv : v = nI o) (hk : sp_ok F G) (hF : F 1 = nI n) (hn : n ≤ 4) (ho : o ≤ 4) : ma_cal (d + 5) 20 [vR 2 3 0, vI v, vI v] (ma_sg σ F G f S) = some (some (vI (nI (sp_o F G n o).length)), ma_sg σ F G (sp_wr f (sp_o F G n o)) S) := by
  subst hv
  have e1 : o + 1 - o = 1 := by omega
  have h := cx_list d 3 o o n (ma_sg σ F G f S) (by rw [ma_sg_F, ma_sg_G]; exact hk) rfl (Nat.le_refl _) (by omega) (by rw [ma_sg_Fk]; exact hF) hn (by rw [e1]; exact sp_cs_len1 n o hn ho)
  rw [ma_sg_F, ma_sg_G, ma_sg_f, ma_sg_ar, e1] at h
  exact h
theorem cx_together (hk : sp_ok F G) : ma_cal (d + 4) 44 [vR 6 0 0] (ma_sg σ F G f S) = some (some (vI (if sp_may F G 101 = true then 101 else 301)), ma_sg σ F G f S) := by
  rw [en_44]
  have e1 : (100 * 1 + 10 * 0 + 1 : Int32) = 101 := by decide
  have e3 : (100 * 3 + 10 * 0 + 1 : Int32) = 301 := by decide
  rcases Classical.propComplete (sp_may F G 101 = true) with c | c
  all_goals simp only [bk_44_0, bk_44_6, bk_44_15, bk_44_18, bk_44_22, bk_44_28, cx_moveOf, e1, e3, cx_sgMay _ _ _ _ _ _ _ hk, c, ↓reduceIte, ma_bd_some, ma_bd_none, ma_tl1, ma_tl0, ma_ap1, ma_ap0, b2i_0, b2i_1, b2i_01, ma_l10, ma_l01, eq_self, true_or, or_true, not_true_eq_false, not_false_eq_true, Bool.false_eq_true]
end CX
/-- of a list the one that none behind it is better than -/
def sp_ls (Q : Nat → Int32 → Bool) : List Nat → Int32 → Int32
  | [], b => b
  | v :: t, b => sp_ls Q t (if b = -1 then nI v else if Q v b = true then nI v else b)
theorem sp_ls_congr {Q R : Nat → Int32 → Bool} {l : List Nat} (h : ∀ v ∈ l, ∀ w ∈ l, Q v (nI w) = R v (nI w)) : ∀ (t : List Nat) (b : Int32), (∀ v ∈ t, v ∈ l) → (b = -1 ∨ ∃ w ∈ l, b = nI w) → sp_ls Q t b = sp_ls R t b := by
  intro t
  induction t with
  | nil => intro b _ _; rfl
  | cons v t ih =>
    intro b ht hb
    have hv := ht v List.mem_cons_self
    have ht2 : ∀ w ∈ t, w ∈ l := fun w hw => ht w (List.mem_cons_of_mem _ hw)
    show sp_ls Q t _ = sp_ls R t _
    rcases hb with hb | ⟨w, hw, hb⟩
    · rw [if_pos hb, if_pos hb]
      exact ih _ ht2 (Or.inr ⟨v, hv, rfl⟩)
    · by_cases c : b = -1
      · rw [if_pos c, if_pos c]
        exact ih _ ht2 (Or.inr ⟨v, hv, rfl⟩)
      · rw [if_neg c, if_neg c]
        have e : Q v b = R v b := by rw [hb]; exact h v hv w hw
        rw [e]
        refine ih _ ht2 (Or.inr ?_)
        split
        · exact ⟨v, hv, rfl⟩
        · exact ⟨w, hw, hb⟩
theorem sp_ls_mem {Q : Nat → Int32 → Bool} {l : List Nat} : ∀ (t : List Nat) (b : Int32), (∀ v ∈ t, v ∈ l) → (b = -1 ∨ ∃ w ∈ l, b = nI w) → (sp_ls Q t b = -1 ∨ ∃ w ∈ l, sp_ls Q t b = nI w) := by
  intro t
  induction t with
  | nil => intro b _ hb; exact hb
  | cons v t ih =>
    intro b ht hb
    refine ih _ (fun w hw => ht w (List.mem_cons_of_mem _ hw)) ?_
    split
    · exact Or.inr ⟨v, ht v List.mem_cons_self, rfl⟩
    split
    · exact Or.inr ⟨v, ht v List.mem_cons_self, rfl⟩
    · exact hb
theorem sp_ls_ne {Q : Nat → Int32 → Bool} : ∀ (t : List Nat) (b : Int32), (∀ v ∈ t, v ≤ 700) → b ≠ -1 → sp_ls Q t b ≠ -1 := by
  intro t
  induction t with
  | nil => intro b _ hb; exact hb
  | cons v t ih =>
    intro b ht hb
    refine ih _ (fun w hw => ht w (List.mem_cons_of_mem _ hw)) ?_
    rw [if_neg hb]
    split
    · exact of_eq_false (nI_ne1 (ht v List.mem_cons_self))
    · exact hb
theorem sp_ls_f : ∀ (t : List Nat) (b : Int32), b ≠ -1 → sp_ls (fun _ _ => false) t b = b := by
  intro t
  induction t with
  | nil => intro b _; rfl
  | cons v t ih =>
    intro b hb
    show sp_ls _ t _ = b
    rw [if_neg hb, if_neg Bool.false_ne_true]
    exact ih b hb
theorem sp_ls_f0 {l : List Nat} (h : ∀ v ∈ l, v ≤ 700) : sp_ls (fun _ _ => false) l (-1) = sp_hd l := by
  rcases l with _ | ⟨v, t⟩
  · rfl
  · show sp_ls _ t _ = nI v
    rw [if_pos rfl]
    exact sp_ls_f t _ (of_eq_false (nI_ne1 (h v List.mem_cons_self)))
def sp_QT (G : Nat → Nat → Int32) : Nat → Int32 → Bool := fun v b => decide (G (sp_ri (nI v)) 4 < G (sp_ri b) 4)
def sp_QL (F : Nat → Int32) (G : Nat → Nat → Int32) : Nat → Int32 → Bool := fun v b => decide (sp_last F G (nI v) < sp_last F G b)
theorem sp_wr_at {old : Nat → Int32} {l : List Nat} {i v : Nat} (h : l[i]? = some v) : sp_wr old l i = nI v := by
  unfold sp_wr
  rw [h]
theorem sp_P_ri {F : Nat → Int32} {G : Nat → Nat → Int32} {n o v : Nat} (hk : sp_ok F G) (hF : F 1 = nI n) (hn : n ≤ 4) (ho : o ≤ 4) (h : v ∈ sp_o F G n o) : ma_in (ma_rm (nI v / 10) 10) 4 ∧ 0 ≤ (G (sp_ri (nI v)) 4).toInt ∧ (G (sp_ri (nI v)) 4).toInt ≤ 99 ∧ sp_isM (F 1) (nI v) = true ∧ sp_ri (nI v) < n := by
  obtain ⟨h1, h2⟩ := sp_o_mem hF hn ho h
  have hM := ((sp_may_iff F G (nI v)).mp h2).1
  have hin := (sp_isM_in hk.2.1 hM).1
  have hv := nI_toInt (n := v) (by omega)
  have hni := nI_toInt (n := n) (by omega)
  rcases sp_ri_lt hM with z | ⟨z, -⟩
  · exfalso; omega
  · obtain ⟨b1, b2, b3, b4⟩ := hk.2.2.2.2.2.2.2.2 _ z
    rw [hF, hni] at z
    exact ⟨hin, b4.1, b4.2, hM, by omega⟩
theorem cx_leastTired_loop (d n o : Nat) (σ : ma_S) (F : Nat → Int32) (G : Nat → Nat → Int32) (old S : Nat → Int32) (hk : sp_ok F G) (hF : F 1 = nI n) (hn : n ≤ 4) (ho : o ≤ 4) : ∀ (t p : List Nat) (b : Int32) (u : Option ma_V), sp_o F G n o = p ++ t → (b = -1 ∨ ∃ w ∈ sp_o F G n o, b = nI w) → ma_ex d 47 8 [some (vR 6 0 0), some (vI (nI (sp_o F G n o).length)), some (vI b), some (vI (if b = -1 then 100 else G (sp_ri b) 4)), some (vI (nI p.length)), u] [] (ma_sg σ F G (sp_wr old (sp_o F G n o)) S) = some (some (vI (sp_ls (sp_QT G) t b)), ma_sg σ F G (sp_wr old (sp_o F G n o)) S) := by
  intro t
  induction t with
  | nil =>
    intro p b u hp hb
    have h40 := sp_o_len (F := F) (G := G) hn ho
    have e : p.length = (sp_o F G n o).length := by rw [hp, List.append_nil]
    rw [bk_47_8, if_pos (by rw [e]; exact nI_le (Nat.le_refl _) (by omega)), bk_47_69]
    rfl
  | cons v t ih =>
    intro p b u hp hb
    have h40 := sp_o_len (F := F) (G := G) hn ho
    have hlen : (sp_o F G n o).length = p.length + (t.length + 1) := by rw [hp, List.length_append, List.length_cons]
    have hg : (sp_o F G n o)[p.length]? = some v := by rw [hp, List.getElem?_append_right (Nat.le_refl _), Nat.sub_self]; rfl
    have hv : v ∈ sp_o F G n o := List.mem_of_getElem? hg
    have hwr := sp_wr_at (old := old) hg
    obtain ⟨hin, hv0, hv9, -, -⟩ := sp_P_ri hk hF hn ho hv
    have hpl : ma_in (nI p.length) 40 := by
      have := nI_toInt (n := p.length) (by omega)
      exact ma_inI (by omega) (by omega)
    have hcl : (nI p.length).toNatClampNeg = p.length := nI_clamp (by omega)
    have la : ma_la 103 = 40 := rfl
    have hri : (ma_rm (nI v / 10) 10).toNatClampNeg = sp_ri (nI v) := rfl
    have hne := nI_ne1 (j := v) (by have := (sp_o_mem hF hn ho hv).1; omega)
    have e100 : (100 : Int32).toInt = 100 := rfl
    have hls : sp_ls (sp_QT G) (v :: t) b = sp_ls (sp_QT G) t (if b = -1 then nI v else if sp_QT G v b = true then nI v else b) := rfl
    have hv' := ih (p ++ [v]) (nI v) (some (vI (G (sp_ri (nI v)) 4))) (by rw [List.append_assoc]; exact hp) (Or.inr ⟨v, hv, rfl⟩)
    rw [List.length_append, List.length_singleton, nI_succ, if_neg (of_eq_false hne)] at hv'
    rw [bk_47_8, if_neg (by rw [hlen]; exact nI_ge (by omega) (by omega)), hls]
    by_cases c : b = -1
    · have c1 : ((100 : Int32) ≤ G (sp_ri (nI v)) 4) = False := eq_false (by rw [ma_le]; omega)
      rw [if_pos c, if_pos c, ← hv']
      simp only [bk_47_14, bk_47_49, bk_47_63, Nat.reduceAdd, la, ma_if_pos hpl, ma_sg_fk, ma_sg_Gk, hcl, hwr, ma_if_pos hin, hri, c1, ↓reduceIte, ma_bd_some, ma_bd_none, ma_tl1, ma_tl0, ma_ap1, ma_ap0, b2i_0, b2i_1, b2i_01, ma_l10, ma_l01, eq_self, true_or, or_true, not_true_eq_false, not_false_eq_true, Bool.false_eq_true]
    · rw [if_neg c, if_neg c]
      rcases Classical.propComplete (G (sp_ri b) 4 ≤ G (sp_ri (nI v)) 4) with c2 | c2
      · have hb' := ih (p ++ [v]) b (some (vI (G (sp_ri (nI v)) 4))) (by rw [List.append_assoc]; exact hp) hb
        rw [List.length_append, List.length_singleton, nI_succ, if_neg c] at hb'
        have q : ¬ sp_QT G v b = true := by
          unfold sp_QT
          rw [decide_eq_true_iff, ma_lt]
          have := ma_le.mp (of_eq_true c2)
          omega
        rw [if_neg q, ← hb']
        simp only [bk_47_14, bk_47_63, Nat.reduceAdd, la, ma_if_pos hpl, ma_sg_fk, ma_sg_Gk, hcl, hwr, ma_if_pos hin, hri, c2, ↓reduceIte, ma_bd_some, ma_bd_none, ma_tl1, ma_tl0, ma_ap1, ma_ap0, b2i_0, b2i_1, b2i_01, ma_l10, ma_l01, eq_self, true_or, or_true, not_true_eq_false, not_false_eq_true, Bool.false_eq_true]
      · have q : sp_QT G v b = true := by
          unfold sp_QT
          rw [decide_eq_true_iff, ma_lt]
          have : ¬ _ := fun z => of_eq_false c2 (ma_le.mpr z)
          omega
        rw [if_pos q, ← hv']
        simp only [bk_47_14, bk_47_49, bk_47_63, Nat.reduceAdd, la, ma_if_pos hpl, ma_sg_fk, ma_sg_Gk, hcl, hwr, ma_if_pos hin, hri, c2, ↓reduceIte, ma_bd_some, ma_bd_none, ma_tl1, ma_tl0, ma_ap1, ma_ap0, b2i_0, b2i_1, b2i_01, ma_l10, ma_l01, eq_self, true_or, or_true, not_true_eq_false, not_false_eq_true, Bool.false_eq_true]
theorem cx_leastTired (d n o : Nat) (σ : ma_S) (F : Nat → Int32) (G : Nat → Nat → Int32) (old S : Nat → Int32) (hk : sp_ok F G) (hF : F 1 = nI n) (hn : n ≤ 4) (ho : o ≤ 4) : ma_cal (d + 1) 47 [vR 6 0 0, vI (nI (sp_o F G n o).length)] (ma_sg σ F G (sp_wr old (sp_o F G n o)) S) = some (some (vI (sp_ls (sp_QT G) (sp_o F G n o) (-1))), ma_sg σ F G (sp_wr old (sp_o F G n o)) S) := by
  have h := cx_leastTired_loop d n o σ F G old S hk hF hn ho (sp_o F G n o) [] (-1) none rfl (Or.inl rfl)
  rw [if_pos rfl, List.length_nil, nI_0] at h
  rw [en_47, bk_47_0, h]
theorem cx_rested (d n : Nat) (σ : ma_S) (F : Nat → Int32) (G : Nat → Nat → Int32) (f S : Nat → Int32) (hk : sp_ok F G) (hF : F 1 = nI n) (hn : n ≤ 4) : ∃ f', ma_cal (d + 6) 46 [vR 6 0 0] (ma_sg σ F G f S) = some (some (vI (if sp_ls (sp_QT G) (sp_o F G n 0) (-1) = -1 then sp_ls (sp_QT G) (sp_o F G n 2) (-1) else sp_ls (sp_QT G) (sp_o F G n 0) (-1))), ma_sg σ F G f' S) := by
  have l0 := cx_sgList d n σ F G f S 0 0 rfl hk hF hn (by omega)
  have l2 := cx_sgList d n σ F G (sp_wr f (sp_o F G n 0)) S 2 2 rfl hk hF hn (by omega)
  have t0 := cx_leastTired (d + 4) n 0 σ F G f S hk hF hn (by omega)
  have t2 := cx_leastTired (d + 4) n 2 σ F G (sp_wr f (sp_o F G n 0)) S hk hF hn (by omega)
  rw [en_46]
  rcases Classical.propComplete (sp_ls (sp_QT G) (sp_o F G n 0) (-1) = -1) with c | c
  · refine ⟨sp_wr (sp_wr f (sp_o F G n 0)) (sp_o F G n 2), ?_⟩
    simp only [bk_46_0, bk_46_10, bk_46_13, bk_46_19, bk_46_23, bk_46_33, bk_46_36, l0, t0, l2, t2, c, ↓reduceIte, ma_bd_some, ma_bd_none, ma_tl1, ma_tl0, ma_ap1, ma_ap0, b2i_0, b2i_1, b2i_01, ma_l10, ma_l01, eq_self, true_or, or_true, not_true_eq_false, not_false_eq_true, Bool.false_eq_true]
  · refine ⟨sp_wr f (sp_o F G n 0), ?_⟩
    simp only [bk_46_0, bk_46_10, bk_46_13, bk_46_19, bk_46_23, bk_46_33, bk_46_36, l0, t0, c, ↓reduceIte, ma_bd_some, ma_bd_none, ma_tl1, ma_tl0, ma_ap1, ma_ap0, b2i_0, b2i_1, b2i_01, ma_l10, ma_l01, eq_self, true_or, or_true, not_true_eq_false, not_false_eq_true, Bool.false_eq_true]
theorem cx_quickest_loop (d n o : Nat) (σ : ma_S) (F : Nat → Int32) (G : Nat → Nat → Int32) (old S : Nat → Int32) (hk : sp_ok F G) (hF : F 1 = nI n) (hn : n ≤ 4) (ho : o ≤ 4) : ∀ (t p : List Nat) (w : Nat), sp_o F G n o = p ++ t → w ∈ sp_o F G n o → ma_ex (d + 2) 49 12 [some (vR 6 0 0), some (vI (nI (sp_o F G n o).length)), some (vI (nI w)), some (vI (nI p.length))] [] (ma_sg σ F G (sp_wr old (sp_o F G n o)) S) = some (some (vI (sp_ls (sp_QL F G) t (nI w))), ma_sg σ F G (sp_wr old (sp_o F G n o)) S) := by
  intro t
  induction t with
  | nil =>
    intro p w hp hw
    have h40 := sp_o_len (F := F) (G := G) hn ho
    have e : p.length = (sp_o F G n o).length := by rw [hp, List.append_nil]
    rw [bk_49_12, if_pos (by rw [e]; exact nI_le (Nat.le_refl _) (by omega)), bk_49_60]
    rfl
  | cons v t ih =>
    intro p w hp hw
    have h40 := sp_o_len (F := F) (G := G) hn ho
    have hlen : (sp_o F G n o).length = p.length + (t.length + 1) := by rw [hp, List.length_append, List.length_cons]
    have hg : (sp_o F G n o)[p.length]? = some v := by rw [hp, List.getElem?_append_right (Nat.le_refl _), Nat.sub_self]; rfl
    have hv : v ∈ sp_o F G n o := List.mem_of_getElem? hg
    have hwr := sp_wr_at (old := old) hg
    have hM := (sp_P_ri hk hF hn ho hv).2.2.2.1
    have hMw := (sp_P_ri hk hF hn ho hw).2.2.2.1
    have hpl : ma_in (nI p.length) 40 := by
      have := nI_toInt (n := p.length) (by omega)
      exact ma_inI (by omega) (by omega)
    have hcl : (nI p.length).toNatClampNeg = p.length := nI_clamp (by omega)
    have la : ma_la 103 = 40 := rfl
    have hnw := nI_ne1 (j := w) (by have := (sp_o_mem hF hn ho hw).1; omega)
    have m1 := cx_sgMin d σ F G (sp_wr old (sp_o F G n o)) S (nI v) hk hM
    have m2 := cx_sgMin d σ F G (sp_wr old (sp_o F G n o)) S (nI w) hk hMw
    have hls : sp_ls (sp_QL F G) (v :: t) (nI w) = sp_ls (sp_QL F G) t (if nI w = -1 then nI v else if sp_QL F G v (nI w) = true then nI v else nI w) := rfl
    rw [bk_49_12, if_neg (by rw [hlen]; exact nI_ge (by omega) (by omega)), hls, if_neg (of_eq_false hnw)]
    rcases Classical.propComplete (sp_last F G (nI w) ≤ sp_last F G (nI v)) with c2 | c2
    · have hb' := ih (p ++ [v]) w (by rw [List.append_assoc]; exact hp) hw
      rw [List.length_append, List.length_singleton, nI_succ] at hb'
      have q : ¬ sp_QL F G v (nI w) = true := by
        unfold sp_QL
        rw [decide_eq_true_iff, ma_lt]
        have := ma_le.mp (of_eq_true c2)
        omega
      rw [if_neg q, ← hb']
      simp only [bk_49_0, bk_49_17, bk_49_33, bk_49_41, bk_49_44, bk_49_54, bk_49_60, Nat.reduceAdd, la, ma_if_pos hpl, ma_sg_fk, hcl, hwr, m1, m2, c2, ↓reduceIte, ma_bd_some, ma_bd_none, ma_tl1, ma_tl0, ma_ap1, ma_ap0, b2i_0, b2i_1, b2i_01, ma_l10, ma_l01, eq_self, true_or, or_true, not_true_eq_false, not_false_eq_true, Bool.false_eq_true]
    · have hb' := ih (p ++ [v]) v (by rw [List.append_assoc]; exact hp) hv
      rw [List.length_append, List.length_singleton, nI_succ] at hb'
      have q : sp_QL F G v (nI w) = true := by
        unfold sp_QL
        rw [decide_eq_true_iff, ma_lt]
        have : ¬ _ := fun z => of_eq_false c2 (ma_le.mpr z)
        omega
      rw [if_pos q, ← hb']
      simp only [bk_49_0, bk_49_17, bk_49_33, bk_49_41, bk_49_44, bk_49_54, bk_49_60, Nat.reduceAdd, la, ma_if_pos hpl, ma_sg_fk, hcl, hwr, m1, m2, c2, ↓reduceIte, ma_bd_some, ma_bd_none, ma_tl1, ma_tl0, ma_ap1, ma_ap0, b2i_0, b2i_1, b2i_01, ma_l10, ma_l01, eq_self, true_or, or_true, not_true_eq_false, not_false_eq_true, Bool.false_eq_true]
theorem cx_quickest (d n o : Nat) (σ : ma_S) (F : Nat → Int32) (G : Nat → Nat → Int32) (old S : Nat → Int32) (hk : sp_ok F G) (hF : F 1 = nI n) (hn : n ≤ 4) (ho : o ≤ 4) (h0 : (sp_o F G n o).length ≠ 0) : ma_cal (d + 3) 49 [vR 6 0 0, vI (nI (sp_o F G n o).length)] (ma_sg σ F G (sp_wr old (sp_o F G n o)) S) = some (some (vI (sp_ls (sp_QL F G) (sp_o F G n o) (-1))), ma_sg σ F G (sp_wr old (sp_o F G n o)) S) := by
  obtain ⟨v, t, hl⟩ : ∃ v t, sp_o F G n o = v :: t := by
    cases e : sp_o F G n o with
    | nil => rw [e] at h0; exact absurd rfl h0
    | cons v t => exact ⟨v, t, rfl⟩
  have hv : v ∈ sp_o F G n o := by rw [hl]; exact List.mem_cons_self
  have h := cx_quickest_loop d n o σ F G old S hk hF hn ho t [v] v (by rw [hl]; rfl) hv
  have hw : sp_wr old (sp_o F G n o) 0 = nI v := sp_wr_at (by rw [hl]; rfl)
  have la : ma_la 103 = 40 := rfl
  have hin : ma_in (0 : Int32) 40 := ⟨by decide, by decide⟩
  have z0 : Int32.toNatClampNeg 0 = 0 := by decide
  have e1 : sp_ls (sp_QL F G) (sp_o F G n o) (-1) = sp_ls (sp_QL F G) t (nI v) := by
    rw [hl]
    show sp_ls _ t _ = _
    rw [if_pos rfl]
  rw [e1, ← h, en_49]
  simp only [bk_49_0, Nat.reduceAdd, la, ma_if_pos hin, ma_sg_fk, z0, hw, List.length_singleton]
  rfl
