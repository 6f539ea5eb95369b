/-! PART 46: winter, the class's side. -/
def sp_pk (F : Nat → Int32) (G : Nat → Nat → Int32) : Int32 := sp_at (sp_L F G 0) (sp_dr (sp_sd (F 8)) (nI (sp_L F G 0).length)).toNatClampNeg
def sp_wF (F : Nat → Int32) (G : Nat → Nat → Int32) : Nat → Int32 := if (sp_L F G 0).length = 0 then F else sp_mvF (upd F 8 (sp_sd (F 8))) G (sp_pk F G)
def sp_wG (F : Nat → Int32) (G : Nat → Nat → Int32) : Nat → Nat → Int32 := if (sp_L F G 0).length = 0 then G else sp_mvG (upd F 8 (sp_sd (F 8))) G (sp_pk F G)
theorem sp_may_8 (F : Nat → Int32) (G : Nat → Nat → Int32) (v m : Int32) : sp_may (upd F 8 v) G m = sp_may F G m := rfl
theorem sp_ok_8 {F : Nat → Int32} {G : Nat → Nat → Int32} (v : Int32) (h : sp_ok F G) : sp_ok (upd F 8 v) G := h
theorem sp_pk_may {F : Nat → Int32} {G : Nat → Nat → Int32} (hk : sp_ok F G) (hn : ¬ (sp_L F G 0).length = 0) : (sp_dr (sp_sd (F 8)) (nI (sp_L F G 0).length)).toNatClampNeg < (sp_L F G 0).length ∧ ma_in (sp_dr (sp_sd (F 8)) (nI (sp_L F G 0).length)) 40 ∧ sp_may F G (sp_pk F G) = true := by
  obtain ⟨n, hn4, hF⟩ := sp_n_of hk
  have h40 := sp_L_len (G := G) hF hn4
  have hl : (nI (sp_L F G 0).length).toInt = (sp_L F G 0).length := nI_toInt (by omega)
  have hd := sp_dr_b (sp_sd (F 8)) (nI (sp_L F G 0).length) (by omega)
  have hc := ma_clN (x := sp_dr (sp_sd (F 8)) (nI (sp_L F G 0).length))
  have h1 : (sp_dr (sp_sd (F 8)) (nI (sp_L F G 0).length)).toNatClampNeg < (sp_L F G 0).length := by omega
  refine ⟨h1, ma_inI (by omega) (by omega), ?_⟩
  have hm : (sp_L F G 0)[(sp_dr (sp_sd (F 8)) (nI (sp_L F G 0).length)).toNatClampNeg] ∈ sp_L F G 0 := List.getElem_mem h1
  unfold sp_pk
  rw [sp_at_get, List.getElem?_eq_getElem h1]
  have hm2 : (sp_L F G 0)[(sp_dr (sp_sd (F 8)) (nI (sp_L F G 0).length)).toNatClampNeg] ∈ (List.range' 0 (701 - 0)).filter (sp_P F G) := hm
  exact (List.mem_filter.mp hm2).2
theorem ma_ar_sh (σ : ma_S) (a i : Nat) (f f' : Nat → Int32) (F : Nat → Int32) (G : Nat → Nat → Int32) : ma_ar (ma_sh (ma_ar σ a f) i F G) a f' = ma_sh (ma_ar σ a f') i F G := by
  refine ma_S_ext (fun g i' j k => ?_) (fun _ _ => rfl)
  simp only [ma_ar, ma_sh]
  by_cases h : g = 50 ∧ i' = a ∧ j = 0
  · obtain ⟨rfl, rfl, rfl⟩ := h; simp
  · rw [if_neg h, if_neg h, if_neg h]
theorem ma_sh_ar_at (σ : ma_S) (a i k : Nat) (f : Nat → Int32) (F : Nat → Int32) (G : Nat → Nat → Int32) : (ma_sh (ma_ar σ a f) i F G).1 50 a 0 k = f k := by simp [ma_sh, ma_ar]
theorem cx_winter_step (d : Nat) (n v : Int32) (k : Nat) (u4 : Option ma_V) (σ : ma_S) (f : Nat → Int32) (F : Nat → Int32) (G : Nat → Nat → Int32) (hk : sp_ok F G) (hlt : ¬ n ≤ nI k) : ∃ (u4' : Option ma_V) (f' : Nat → Int32), ma_ex (d + 5) 90 27 [some (vR 1 0 0), some (vI n), some (vI v), some (vI (nI k)), u4] [] (ma_sh (ma_ar σ 100 f) 0 F G) = ma_ex (d + 5) 90 27 [some (vR 1 0 0), some (vI n), some (vI v), some (vI (nI (k + 1))), u4'] [] (ma_sh (ma_ar σ 100 f') 0 (sp_wF F G) (sp_wG F G)) := by
  obtain ⟨N, hN, hF⟩ := sp_n_of hk
  have hL := cx_list07 d 0 N (ma_sh (ma_ar σ 100 f) 0 F G) (by rw [ma_sh_F, ma_sh_G]; exact hk) rfl (by rw [ma_sh_F]; exact hF) hN
  rw [ma_sh_F, ma_sh_G, ma_ar_sh] at hL
  have h40 := sp_L_len (G := G) hF hN
  have hl : (nI (sp_L F G 0).length).toInt = (sp_L F G 0).length := nI_toInt (by omega)
  have e0 : (0 : Int32).toInt = 0 := rfl
  by_cases c : (sp_L F G 0).length = 0
  · have b1 : (nI (sp_L F G 0).length ≤ 0) = True := eq_true (by rw [ma_le]; omega)
    refine ⟨some (vI (nI (sp_L F G 0).length)), sp_wr ((ma_sh (ma_ar σ 100 f) 0 F G).1 50 (100 + 0) 0) (sp_L F G 0), ?_⟩
    unfold sp_wF sp_wG
    rw [if_pos c, if_pos c, bk_90_27, if_neg hlt]
    simp only [bk_90_32, bk_90_42, bk_90_74, hL, b1, ↓reduceIte, ma_bd_some, ma_bd_none, ma_tl1, ma_tl0, ma_ap1, ma_ap0, b2i_0, b2i_1, b2i_01, ma_l10, ma_l01, eq_self, true_or, or_true, not_true_eq_false, not_false_eq_true, Bool.false_eq_true]
    rw [nI_succ]
  · have b1 : (nI (sp_L F G 0).length ≤ 0) = False := eq_false (by rw [ma_le]; omega)
    obtain ⟨p1, p2, p3⟩ := sp_pk_may hk c
    have la : ma_la 100 = 40 := rfl
    refine ⟨some (vI (nI (sp_L F G 0).length)), sp_wr ((ma_sh (ma_ar σ 100 f) 0 F G).1 50 (100 + 0) 0) (sp_L F G 0), ?_⟩
    have hd := cx_draw (d + 4) 0 (nI (sp_L F G 0).length) (ma_sh (ma_ar σ 100 (sp_wr ((ma_sh (ma_ar σ 100 f) 0 F G).1 50 (100 + 0) 0) (sp_L F G 0))) 0 F G) (by omega)
    rw [ma_sh_F, ma_sh_uF] at hd
    have hw : sp_wr ((ma_sh (ma_ar σ 100 f) 0 F G).1 50 (100 + 0) 0) (sp_L F G 0) (sp_dr (sp_sd (F 8)) (nI (sp_L F G 0).length)).toNatClampNeg = sp_pk F G := by
      unfold sp_wr sp_pk
      rw [sp_at_get]
      rw [List.getElem?_eq_getElem p1]
    have hm := cx_make (d + 1) 0 (sp_pk F G) (ma_sh (ma_ar σ 100 (sp_wr ((ma_sh (ma_ar σ 100 f) 0 F G).1 50 (100 + 0) 0) (sp_L F G 0))) 0 (upd F 8 (sp_sd (F 8))) G) (by rw [ma_sh_F, ma_sh_G]; exact hk)
    rw [ma_sh_F, ma_sh_G, sp_may_8, if_pos p3, ma_sh_sh] at hm
    unfold sp_wF sp_wG
    rw [if_neg c, if_neg c, bk_90_27, if_neg hlt]
    simp only [bk_90_32, bk_90_42, bk_90_49, bk_90_69, bk_90_73, bk_90_74, hL, b1, hd, Nat.reduceAdd, la, ma_if_pos p2, ma_sh_ar_at, ↓reduceIte, ma_bd_some, ma_bd_none, ma_tl1, ma_tl0, ma_ap1, ma_ap0, b2i_0, b2i_1, b2i_01, ma_l10, ma_l01, eq_self, true_or, or_true, not_true_eq_false, not_false_eq_true, Bool.false_eq_true]
    simp only [Nat.reduceAdd] at hw hm
    rw [hw, hm]
    simp only [bk_90_73, bk_90_74, ↓reduceIte, ma_bd_some, ma_bd_none, ma_tl1, ma_tl0, ma_ap1, ma_ap0, b2i_0, b2i_1, b2i_01, ma_l10, ma_l01, eq_self, true_or, or_true, not_true_eq_false, not_false_eq_true, Bool.false_eq_true]
    rw [nI_succ]
