/-! PART 64: AHEAD: both sides compare. -/
def sp_BR (h0 M0 : Int) (K b S : Nat → Int32) (T : Nat → Nat → Int32) : Prop := K 3 = S 37 ∧ 0 ≤ (K 3).toInt ∧ (K 3).toInt ≤ 3 ∧ (S 38).toInt = (K 4).toInt + h0 ∧ (S 39).toInt + (K 5).toInt = M0 ∧ ∀ i : Nat, (i : Int) < (K 3).toInt → b i = T i 20
def sp_cp (l : Nat) (T : Nat → Nat → Int32) : Nat → Nat → Int32 := fun r q => if q = 20 ∧ r < l then T r 19 else T r q
theorem sp_cp_0 (T : Nat → Nat → Int32) : sp_cp 0 T = T := by
  funext r q
  unfold sp_cp
  rw [if_neg (by omega)]
theorem sp_cp_s (k : Nat) (T : Nat → Nat → Int32) : ma_uE (sp_cp k T) k 20 (sp_cp k T k 19) = sp_cp (k + 1) T := by
  funext r q
  unfold ma_uE sp_cp
  by_cases h : r = k ∧ q = 20
  · obtain ⟨rfl, rfl⟩ := h
    rw [if_pos ⟨rfl, rfl⟩, if_neg (by omega), if_pos (by omega)]
  · rw [if_neg h]
    by_cases h2 : q = 20 ∧ r < k
    · rw [if_pos h2, if_pos (by omega)]
    · rw [if_neg h2, if_neg (by omega)]
theorem cm_cp_loop (d l : Nat) (dd is : Int32) (m : ma_S) (S : Nat → Int32) (T : Nat → Nat → Int32) (hl : l ≤ 3) : ∀ c k, k + c = l → ma_ex d 164 65 [some (vR 20 0 0), some (vI (nI l)), some (vI dd), some (vI is), some (vI (nI k))] [] (ma_mh m S (sp_cp k T)) = ma_ex d 164 91 [some (vR 20 0 0), some (vI (nI l)), some (vI dd), some (vI is), some (vI (nI l))] [] (ma_mh m S (sp_cp l T)) := by
  intro c
  induction c with
  | zero =>
    intro k h
    have e : k = l := by omega
    subst e
    rw [bk_164_65, if_pos (nI_le (Nat.le_refl _) (by omega))]
  | succ c ih =>
    intro k h
    have hki := nI_toInt (n := k) (by omega)
    have hin : ma_in (nI k) 3 := ma_inI (by omega) (by omega)
    rw [← ih (k + 1) (by omega), bk_164_65, if_neg (nI_ge (by omega) (by omega)), bk_164_71, ma_if_pos hin, ma_if_pos hin, nI_clamp (by omega), ma_mh_A, ma_mh_uE, sp_cp_s, nI_1]
theorem lk_cmp (d d' n l : Nat) (h0 M0 : Int) (x m : ma_S) (K p b : Nat → Int32) (Fs : Nat → Nat → Int32) (Gs : Nat → Nat → Nat → Int32) (fs : Nat → Nat → Int32) (S : Nat → Int32) (T : Nat → Nat → Int32) (r q dd : Int32) (hl : l ≤ 3) (hn : n ≤ 4) (hS : S 1 = nI n) (hB : sp_BR h0 M0 K b S T) (hp : ∀ i, i < l → p i = T i 19) (hr : (sp_sum (fun j => T j 5) n).toInt = r.toInt + h0) (hq : (S 4).toInt + q.toInt = M0) : ∃ (K' b' S' : Nat → Int32) (T' : Nat → Nat → Int32) (u3 : Int32) (u4 : Option ma_V), ma_cal (d + 1) 23 [vR 9 0 0, vI (nI l), vI r, vI q] (ma_lk x K p b Fs Gs fs) = some (none, ma_lk x K' p b' Fs Gs fs) ∧ ma_ex (d' + 1) 164 0 [some (vR 20 0 0), some (vI (nI l)), some (vI dd), none, none] [] (ma_mh m S T) = ma_ex (d' + 1) 164 91 [some (vR 20 0 0), some (vI (nI l)), some (vI dd), some (vI u3), u4] [] (ma_mh m S' T') ∧ sp_BR h0 M0 K' b' S' T' ∧ (∀ q, q ≠ 37 → q ≠ 38 → q ≠ 39 → S' q = S q) ∧ (∀ r q, q ≠ 20 → T' r q = T r q) := by
  obtain ⟨b1, b2, b3, b4, b5, b6⟩ := hB
  have hall := cm_allOf d' 5 n (ma_mh m S T) (by rw [ma_mh_F]; exact hS) hn rfl
  simp only [ma_mh_A] at hall
  have kn : (-1 : Int32).toInt = -1 := rfl
  have c37 : (S 37 = -1) = False := eq_false (fun e => by
    rw [b1, e] at b2; omega)
  have q1 : (K 4 < r) = (S 38 < sp_sum (fun j => T j 5) n) := by
    apply propext
    rw [ma_lt, ma_lt]; omega
  have q2 : (r = K 4) = (sp_sum (fun j => T j 5) n = S 38) := by
    apply propext
    rw [ma_eq, ma_eq]; omega
  have q3 : (q < K 5) = ¬ (S 4 ≤ S 39) := by
    apply propext
    rw [ma_lt, ma_le]; omega
  obtain ⟨g1, g2⟩ := cx_compare d (nI l) r q x K p b Fs Gs fs
  unfold sp_bt2 at g1 g2
  rw [q1, q2, q3] at g1 g2
  have hli := nI_toInt (n := l) (by omega)
  by_cases hb : S 38 < sp_sum (fun j => T j 5) n ∨ (sp_sum (fun j => T j 5) n = S 38 ∧ ¬ S 4 ≤ S 39)
  · have hcp := cm_cp_loop (d' + 1) l dd (sp_sum (fun j => T j 5) n) m (upd (upd (upd S 37 (nI l)) 38 (sp_sum (fun j => T j 5) n)) 39 (S 4)) T hl l 0 (by omega)
    rw [sp_cp_0, nI_0] at hcp
    refine ⟨_, _, upd (upd (upd S 37 (nI l)) 38 (sp_sum (fun j => T j 5) n)) 39 (S 4), sp_cp l T, sp_sum (fun j => T j 5) n, some (vI (nI l)), g1 hb, ?_, ⟨rfl, ?_, ?_, ?_, ?_, fun i hi => ?_⟩, fun q a1 a2 a3 => ?_, fun r q a => ?_⟩
    · rw [← hcp]
      have u4 : upd (upd S 37 (nI l)) 38 (sp_sum (fun j => T j 5) n) 4 = S 4 := rfl
      rcases Classical.propComplete (S 38 < sp_sum (fun j => T j 5) n) with c1 | c1
      · simp only [bk_164_0, bk_164_8, bk_164_17, bk_164_44, hall, ma_mh_F, ma_mh_uF, u4, c37, c1, ↓reduceIte, ma_bd_some, ma_bd_none, ma_tl1, ma_tl0, ma_ap1, ma_ap0, b2i_0, b2i_1, b2i_01, ma_l10, ma_l01, eq_self, true_or, or_true, not_true_eq_false, not_false_eq_true, Bool.false_eq_true]
      · obtain ⟨c2, c3⟩ := hb.resolve_left (of_eq_false c1)
        have c2' := eq_true c2
        have c3' := eq_false c3
        simp only [bk_164_0, bk_164_8, bk_164_17, bk_164_25, bk_164_33, bk_164_44, hall, ma_mh_F, ma_mh_uF, u4, c37, c1, c2', c3', ↓reduceIte, ma_bd_some, ma_bd_none, ma_tl1, ma_tl0, ma_ap1, ma_ap0, b2i_0, b2i_1, b2i_01, ma_l10, ma_l01, eq_self, true_or, or_true, not_true_eq_false, not_false_eq_true, Bool.false_eq_true]
    · show 0 ≤ (nI l).toInt
      omega
    · show (nI l).toInt ≤ 3
      omega
    · exact hr
    · exact hq
    · have hi' : i < l := by
        have z : (i : Int) < (nI l).toInt := hi
        omega
      show va_cpy p b 0 0 3 i = sp_cp l T i 20
      unfold va_cpy sp_cp
      rw [if_pos (by omega), if_pos ⟨rfl, hi'⟩, show 0 + (i - 0) = i by omega]
      exact hp i hi'
    · unfold upd
      rw [if_neg a3, if_neg a2, if_neg a1]
    · unfold sp_cp
      rw [if_neg (by omega)]
  · refine ⟨K, b, S, T, sp_sum (fun j => T j 5) n, none, g2 hb, ?_, ⟨b1, b2, b3, b4, b5, b6⟩, fun _ _ _ _ => rfl, fun _ _ _ => rfl⟩
    have c1 : (S 38 < sp_sum (fun j => T j 5) n) = False := eq_false (fun z => hb (Or.inl z))
    rcases Classical.propComplete (sp_sum (fun j => T j 5) n = S 38) with c2 | c2
    · have c3 : (S 4 ≤ S 39) = True := eq_true (Decidable.of_not_not (fun z => hb (Or.inr ⟨of_eq_true c2, z⟩)))
      simp only [bk_164_0, bk_164_8, bk_164_17, bk_164_25, bk_164_33, hall, ma_mh_F, c37, c1, c2, c3, ↓reduceIte, ma_bd_some, ma_bd_none, ma_tl1, ma_tl0, ma_ap1, ma_ap0, b2i_0, b2i_1, b2i_01, ma_l10, ma_l01, eq_self, true_or, or_true, not_true_eq_false, not_false_eq_true, Bool.false_eq_true]
      done
    · simp only [bk_164_0, bk_164_8, bk_164_17, bk_164_25, hall, ma_mh_F, c37, c1, c2, ↓reduceIte, ma_bd_some, ma_bd_none, ma_tl1, ma_tl0, ma_ap1, ma_ap0, b2i_0, b2i_1, b2i_01, ma_l10, ma_l01, eq_self, true_or, or_true, not_true_eq_false, not_false_eq_true, Bool.false_eq_true]
