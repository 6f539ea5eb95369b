/-! PART 50: call: act. -/
theorem sp_sv_0_0 : ma_sv 0 (Int32.toNatClampNeg 0) = (-1) := by decide
theorem sp_sv_0_1 : ma_sv 0 (Int32.toNatClampNeg 1) = 0 := by decide
theorem sp_sv_0_2 : ma_sv 0 (Int32.toNatClampNeg 2) = 0 := by decide
theorem sp_sv_0_3 : ma_sv 0 (Int32.toNatClampNeg 3) = 1 := by decide
theorem sp_sv_0_4 : ma_sv 0 (Int32.toNatClampNeg 4) = 0 := by decide
theorem sp_sv_0_5 : ma_sv 0 (Int32.toNatClampNeg 5) = 2 := by decide
theorem sp_sv_0_6 : ma_sv 0 (Int32.toNatClampNeg 6) = 4 := by decide
theorem sp_sv_1_0 : ma_sv 1 (Int32.toNatClampNeg 0) = 10 := by decide
theorem sp_sv_1_1 : ma_sv 1 (Int32.toNatClampNeg 1) = 20 := by decide
theorem sp_sv_1_2 : ma_sv 1 (Int32.toNatClampNeg 2) = 10 := by decide
theorem sp_sv_1_3 : ma_sv 1 (Int32.toNatClampNeg 3) = 20 := by decide
theorem sp_sv_1_4 : ma_sv 1 (Int32.toNatClampNeg 4) = 51 := by decide
theorem sp_sv_1_5 : ma_sv 1 (Int32.toNatClampNeg 5) = 10 := by decide
theorem sp_sv_1_6 : ma_sv 1 (Int32.toNatClampNeg 6) = 70 := by decide
theorem sp_sv_2_0 : ma_sv 2 (Int32.toNatClampNeg 0) = 11 := by decide
theorem sp_sv_2_1 : ma_sv 2 (Int32.toNatClampNeg 1) = 11 := by decide
theorem sp_sv_2_2 : ma_sv 2 (Int32.toNatClampNeg 2) = 30 := by decide
theorem sp_sv_2_3 : ma_sv 2 (Int32.toNatClampNeg 3) = 40 := by decide
theorem sp_sv_2_4 : ma_sv 2 (Int32.toNatClampNeg 4) = 11 := by decide
theorem sp_sv_2_5 : ma_sv 2 (Int32.toNatClampNeg 5) = 30 := by decide
theorem sp_sv_2_6 : ma_sv 2 (Int32.toNatClampNeg 6) = 71 := by decide
theorem sp_sv_3_0 : ma_sv 3 (Int32.toNatClampNeg 0) = 12 := by decide
theorem sp_sv_3_1 : ma_sv 3 (Int32.toNatClampNeg 1) = 12 := by decide
theorem sp_sv_3_2 : ma_sv 3 (Int32.toNatClampNeg 2) = 12 := by decide
theorem sp_sv_3_3 : ma_sv 3 (Int32.toNatClampNeg 3) = 12 := by decide
theorem sp_sv_3_4 : ma_sv 3 (Int32.toNatClampNeg 4) = 50 := by decide
theorem sp_sv_3_5 : ma_sv 3 (Int32.toNatClampNeg 5) = 60 := by decide
theorem sp_sv_3_6 : ma_sv 3 (Int32.toNatClampNeg 6) = 50 := by decide
theorem sp_i7_0 : ma_in (0 : Int32) 7 := ⟨by decide, by decide⟩
theorem sp_i7_1 : ma_in (1 : Int32) 7 := ⟨by decide, by decide⟩
theorem sp_i7_2 : ma_in (2 : Int32) 7 := ⟨by decide, by decide⟩
theorem sp_i7_3 : ma_in (3 : Int32) 7 := ⟨by decide, by decide⟩
theorem sp_i7_4 : ma_in (4 : Int32) 7 := ⟨by decide, by decide⟩
theorem sp_i7_5 : ma_in (5 : Int32) 7 := ⟨by decide, by decide⟩
theorem sp_i7_6 : ma_in (6 : Int32) 7 := ⟨by decide, by decide⟩
def sp_trx (σ : ma_S) (l : List Int32) : ma_S := l.foldl sp_tx (ma_u σ 13 0 0 1 0)
def sp_trm (σ : ma_S) (l : List Int32) : ma_S := l.foldl sp_tm (ma_u σ 20 0 0 45 0)
theorem sp_tx_n (σ : ma_S) (b : Int32) : (sp_tx σ b).1 13 0 0 1 = σ.1 13 0 0 1 + 1 := by
  unfold sp_tx
  split <;> rw [ma_u_k, if_pos rfl]
theorem sp_tm_n (σ : ma_S) (b : Int32) : (sp_tm σ b).1 20 0 0 45 = σ.1 20 0 0 45 + 1 := by
  unfold sp_tm
  split <;> rw [ma_u_k, if_pos rfl]
theorem sp_tx_4 (σ : ma_S) (b : Int32) : (sp_tx σ b).1 4 = σ.1 4 := by
  unfold sp_tx
  split
  · rw [ma_u_g (by decide)]
  · rw [ma_u_g (by decide), ma_u_g (by decide)]
theorem sp_tm_50 (σ : ma_S) (b : Int32) (i : Nat) (h : i ≠ 21) : (sp_tm σ b).1 50 i = σ.1 50 i := by
  unfold sp_tm
  split
  · rw [ma_u_g (by decide)]
  · rw [ma_u_g (by decide), ma_u_i h]
theorem sp_trx_n0 : ∀ (l : List Int32) (k : Nat) (τ : ma_S), τ.1 13 0 0 1 = nI k → (l.foldl sp_tx τ).1 13 0 0 1 = nI (k + l.length)
  | [], k, τ, h => h
  | b :: l, k, τ, h => by
    rw [List.foldl_cons, List.length_cons, show k + (l.length + 1) = k + 1 + l.length by omega]
    exact sp_trx_n0 l (k + 1) _ (by rw [sp_tx_n, h, nI_succ])
theorem sp_trm_n0 : ∀ (l : List Int32) (k : Nat) (τ : ma_S), τ.1 20 0 0 45 = nI k → (l.foldl sp_tm τ).1 20 0 0 45 = nI (k + l.length)
  | [], k, τ, h => h
  | b :: l, k, τ, h => by
    rw [List.foldl_cons, List.length_cons, show k + (l.length + 1) = k + 1 + l.length by omega]
    exact sp_trm_n0 l (k + 1) _ (by rw [sp_tm_n, h, nI_succ])
theorem sp_trx_n (σ : ma_S) (l : List Int32) : (sp_trx σ l).1 13 0 0 1 = nI l.length := by
  have h := sp_trx_n0 l 0 (ma_u σ 13 0 0 1 0) (by rw [ma_u_k, if_pos rfl, nI_0])
  rw [Nat.zero_add] at h
  exact h
theorem sp_trm_n (σ : ma_S) (l : List Int32) : (sp_trm σ l).1 20 0 0 45 = nI l.length := by
  have h := sp_trm_n0 l 0 (ma_u σ 20 0 0 45 0) (by rw [ma_u_k, if_pos rfl, nI_0])
  rw [Nat.zero_add] at h
  exact h
theorem sp_trx_40 : ∀ (l : List Int32) (τ : ma_S), (l.foldl sp_tx τ).1 4 = τ.1 4
  | [], τ => rfl
  | b :: l, τ => by rw [List.foldl_cons, sp_trx_40 l, sp_tx_4]
theorem sp_trx_4 (σ : ma_S) (l : List Int32) (r k : Nat) : (sp_trx σ l).1 4 0 r k = σ.1 4 0 r k := by
  unfold sp_trx
  rw [sp_trx_40, ma_u_g (by decide)]
theorem sp_trm_500 (i : Nat) (h : i ≠ 21) : ∀ (l : List Int32) (τ : ma_S), (l.foldl sp_tm τ).1 50 i = τ.1 50 i
  | [], τ => rfl
  | b :: l, τ => by rw [List.foldl_cons, sp_trm_500 i h l, sp_tm_50 _ _ _ h]
theorem sp_trm_50 (σ : ma_S) (l : List Int32) (i r : Nat) (h : i ≠ 21) : (sp_trm σ l).1 50 i 0 r = σ.1 50 i 0 r := by
  unfold sp_trm
  rw [sp_trm_500 i h, ma_u_g (by decide)]
theorem sp_trm_1 (σ : ma_S) (l : List Int32) (r : Nat) : (sp_trm σ l).1 50 1 0 r = σ.1 50 1 0 r := sp_trm_50 σ l 1 r (by decide)
theorem sp_trm_2 (σ : ma_S) (l : List Int32) (r : Nat) : (sp_trm σ l).1 50 2 0 r = σ.1 50 2 0 r := sp_trm_50 σ l 2 r (by decide)
theorem sp_trx_a (σ : ma_S) (l : List Int32) (b : Int32) : sp_tx (sp_trx σ l) b = sp_trx σ (l ++ [b]) := by
  unfold sp_trx
  rw [List.foldl_append]
  rfl
theorem sp_trm_a (σ : ma_S) (l : List Int32) (b : Int32) : sp_tm (sp_trm σ l) b = sp_trm σ (l ++ [b]) := by
  unfold sp_trm
  rw [List.foldl_append]
  rfl
theorem cx_note2 (d : Nat) (b : Int32) (σ : ma_S) (l : List Int32) (h : l.length < 1000) : ma_cal (d + 1) 58 [vR 13 0 0, vI b] (sp_trx σ l) = some (none, sp_trx σ (l ++ [b])) := by
  rw [cx_note _ _ _ (by rw [sp_trx_n, nI_toInt (by omega)]; omega), sp_trx_a]
theorem cm_body2 (d : Nat) (b : Int32) (σ : ma_S) (l : List Int32) (h : l.length < 1000) : ma_cal (d + 1) 194 [vR 20 0 0, vI b] (sp_trm σ l) = some (none, sp_trm σ (l ++ [b])) := by
  rw [cm_body _ _ _ (by rw [sp_trm_n, nI_toInt (by omega)]; omega), sp_trm_a]
theorem ma_Iv_tr0 : ∀ (l : List Int32) {t : Nat} {x m : ma_S}, ma_Iv t x m → (x.1 13 0 0 1).toInt + l.length < 1000 → ma_Iv t (l.foldl sp_tx x) (l.foldl sp_tm m)
  | [], _, _, _, h, _ => h
  | b :: l, t, x, m, h, hl => by
    rw [List.length_cons] at hl
    have h0 := h.2.2.2.1.2.1
    have e1 : (1 : Int32).toInt = 1 := rfl
    have ha := ma_add (a := x.1 13 0 0 1) (b := 1) (by omega) (by omega)
    rw [List.foldl_cons, List.foldl_cons]
    exact ma_Iv_tr0 l (ma_Iv_tr b h (by omega)) (by rw [sp_tx_n]; omega)
theorem ma_Iv_tr1 {t : Nat} {x m : ma_S} (hi : ma_Iv t x m) : ma_Iv t (ma_u x 13 0 0 1 0) (ma_u m 20 0 0 45 0) := by
  obtain ⟨h1, h2, h3, h4, h5, h6⟩ := hi
  have gx : ∀ g, g ≠ 13 → (ma_u x 13 0 0 1 0).1 g = x.1 g := fun g a => ma_u_g a _ _ _ _ _
  have gm : ∀ k, k ≠ 45 → (ma_u m 20 0 0 45 0).1 20 0 0 k = m.1 20 0 0 k := fun k a => by rw [ma_u_k, if_neg a]
  have g50 : (ma_u m 20 0 0 45 0).1 50 = m.1 50 := ma_u_g (by decide) _ _ _ _ _
  have x2 : (ma_u x 13 0 0 1 0).2 = x.2 := rfl
  have m2 : (ma_u m 20 0 0 45 0).2 = m.2 := rfl
  have x13 : (ma_u x 13 0 0 1 0).1 13 0 0 1 = 0 := by rw [ma_u_k, if_pos rfl]
  have m45 : (ma_u m 20 0 0 45 0).1 20 0 0 45 = 0 := by rw [ma_u_k, if_pos rfl]
  unfold ma_Iv
  rw [gx 2 (by decide), gx 4 (by decide), gx 16 (by decide), gx 1 (by decide), gx 50 (by decide), g50, x2, m2, x13, m45, gm 46 (by decide), gm 9 (by decide)]
  refine ⟨ma_IvH_S h1 (fun k a c => gm k (by omega)) (fun r k a c => by unfold ma_G; rw [g50]), h2, h3, ⟨rfl, by decide, by decide, fun j hj hl => ?_⟩, h5, h6⟩
  have e0 : (0 : Int32).toInt = 0 := rfl
  omega
theorem ma_Iv_tr2 {t : Nat} {x m : ma_S} (l : List Int32) (hl : l.length < 1000) (hi : ma_Iv t x m) : ma_Iv t (sp_trx x l) (sp_trm m l) := ma_Iv_tr0 l (ma_Iv_tr1 hi) (by
  rw [ma_u_k, if_pos rfl]
  have e0 : (0 : Int32).toInt = 0 := rfl
  omega)
def sp_rV (k n a x : Int32) : Int32 := if k = 6 then (x + n - n) * 2 else if k = 4 then x + n - n else if k = 1 then x + n + a else if k = 3 then x + n + a else x + n
def sp_pV (k n a x : Int32) : Int32 := if k = 6 then sp_rV k n a (x - a) * 2 else if k = 3 then sp_rV k n a (x + 1) * 2 else if k = 2 then sp_rV k n a x * 2 * 3 else if k = 5 then sp_rV k n a x * 2 * 3 else sp_rV k n a x * 2
def sp_wV (k n a x : Int32) : Int32 := if k = 4 then -(sp_pV k n a x ^^^ sp_rV k n a (x - a)) else if k = 6 then -(sp_pV k n a x ^^^ sp_rV k n a (x - a)) else if k = 5 then (sp_pV k n a x ^^^ sp_rV k n a (x - a)) ^^^ 5 else sp_pV k n a x ^^^ sp_rV k n a (x - a)
def sp_rL (k : Int32) : List Int32 := if k = 6 then [70, 51, 10] else if k = 4 then [51, 10] else if k = 1 then [20, 10] else if k = 3 then [20, 10] else [10]
def sp_pL (k : Int32) : List Int32 := if k = 6 then 71 :: 11 :: sp_rL k else if k = 3 then 40 :: 11 :: sp_rL k else if k = 2 then 30 :: 11 :: sp_rL k else if k = 5 then 30 :: 11 :: sp_rL k else 11 :: sp_rL k
def sp_wL (k : Int32) : List Int32 := if k = 4 then 50 :: 12 :: (sp_pL k ++ sp_rL k) else if k = 6 then 50 :: 12 :: (sp_pL k ++ sp_rL k) else if k = 5 then 60 :: 12 :: (sp_pL k ++ sp_rL k) else 12 :: (sp_pL k ++ sp_rL k)
theorem sp_k7 {k : Int32} (h : 0 ≤ k.toInt ∧ k.toInt ≤ 6) : k = 0 ∨ k = 1 ∨ k = 2 ∨ k = 3 ∨ k = 4 ∨ k = 5 ∨ k = 6 := by
  simp only [ma_eq]
  have e0 : (0 : Int32).toInt = 0 := rfl
  have e1 : (1 : Int32).toInt = 1 := rfl
  have e2 : (2 : Int32).toInt = 2 := rfl
  have e3 : (3 : Int32).toInt = 3 := rfl
  have e4 : (4 : Int32).toInt = 4 := rfl
  have e5 : (5 : Int32).toInt = 5 := rfl
  have e6 : (6 : Int32).toInt = 6 := rfl
  omega
theorem cx_act_rides (d r : Nat) (x : ma_S) (k n a v : Int32) (hk : 0 ≤ k.toInt ∧ k.toInt ≤ 6) (h0 : x.1 4 0 r 0 = n) (h1 : x.1 4 0 r 1 = k) (h2 : x.1 4 0 r 2 = a) : ma_cal (d + 12) 112 [vR 4 0 r, vI 0, vI k, vI v, vR 13 0 0, vI 0] (sp_trx x []) = some (some (vI (sp_rV k n a v)), sp_trx x (sp_rL k)) := by
  rcases sp_k7 hk with rfl | rfl | rfl | rfl | rfl | rfl | rfl
  all_goals simp (decide := true) only [en_112, bk_112_0, bk_112_7, bk_112_11, bk_112_14, bk_112_16, bk_112_20, bk_112_28, bk_112_33, bk_112_41, bk_112_46, bk_112_55, bk_112_160, bk_112_167, bk_112_179, bk_112_182, bk_112_194, bk_112_211, bk_112_213, bk_112_228, bk_112_234, bk_112_249, bk_112_252, bk_112_269, bk_112_270, bk_112_285, bk_112_287, bk_112_302, bk_112_308, bk_112_323, bk_112_326, bk_112_342, bk_112_345, bk_112_366, cx_isKind, cx_note2, sp_trx_4, h0, h1, h2, sp_sv_0_0, sp_sv_0_1, sp_sv_0_2, sp_sv_0_3, sp_sv_0_4, sp_sv_0_5, sp_sv_0_6, sp_sv_1_0, sp_sv_1_1, sp_sv_1_2, sp_sv_1_3, sp_sv_1_4, sp_sv_1_5, sp_sv_1_6, sp_sv_2_0, sp_sv_2_1, sp_sv_2_2, sp_sv_2_3, sp_sv_2_4, sp_sv_2_5, sp_sv_2_6, sp_sv_3_0, sp_sv_3_1, sp_sv_3_2, sp_sv_3_3, sp_sv_3_4, sp_sv_3_5, sp_sv_3_6, ma_if_pos sp_i7_0, ma_if_pos sp_i7_1, ma_if_pos sp_i7_2, ma_if_pos sp_i7_3, ma_if_pos sp_i7_4, ma_if_pos sp_i7_5, ma_if_pos sp_i7_6, Int32.reduceAdd, List.nil_append, List.cons_append, List.append_nil, sp_rV, sp_pV, sp_wV, sp_rL, sp_pL, sp_wL, ↓reduceIte, ma_bd_some, ma_bd_none, ma_tl1, ma_tl0, ma_ap1, ma_ap0, b2i_0, b2i_1, b2i_01, ma_l10, ma_l01, eq_self, true_or, or_true, not_true_eq_false, not_false_eq_true, Bool.false_eq_true]
theorem cx_act_pulls (d r : Nat) (x : ma_S) (k n a v : Int32) (hk : 0 ≤ k.toInt ∧ k.toInt ≤ 6) (h0 : x.1 4 0 r 0 = n) (h1 : x.1 4 0 r 1 = k) (h2 : x.1 4 0 r 2 = a) : ma_cal (d + 12) 112 [vR 4 0 r, vI 1, vI k, vI v, vR 13 0 0, vI 0] (sp_trx x []) = some (some (vI (sp_pV k n a v)), sp_trx x (sp_pL k)) := by
  rcases sp_k7 hk with rfl | rfl | rfl | rfl | rfl | rfl | rfl
  all_goals simp (decide := true) only [en_112, bk_112_0, bk_112_7, bk_112_11, bk_112_14, bk_112_16, bk_112_20, bk_112_28, bk_112_33, bk_112_41, bk_112_46, bk_112_55, bk_112_160, bk_112_167, bk_112_179, bk_112_182, bk_112_194, bk_112_211, bk_112_213, bk_112_228, bk_112_234, bk_112_249, bk_112_252, bk_112_269, bk_112_270, bk_112_285, bk_112_287, bk_112_302, bk_112_308, bk_112_323, bk_112_326, bk_112_342, bk_112_345, bk_112_366, cx_isKind, cx_note2, sp_trx_4, h0, h1, h2, sp_sv_0_0, sp_sv_0_1, sp_sv_0_2, sp_sv_0_3, sp_sv_0_4, sp_sv_0_5, sp_sv_0_6, sp_sv_1_0, sp_sv_1_1, sp_sv_1_2, sp_sv_1_3, sp_sv_1_4, sp_sv_1_5, sp_sv_1_6, sp_sv_2_0, sp_sv_2_1, sp_sv_2_2, sp_sv_2_3, sp_sv_2_4, sp_sv_2_5, sp_sv_2_6, sp_sv_3_0, sp_sv_3_1, sp_sv_3_2, sp_sv_3_3, sp_sv_3_4, sp_sv_3_5, sp_sv_3_6, ma_if_pos sp_i7_0, ma_if_pos sp_i7_1, ma_if_pos sp_i7_2, ma_if_pos sp_i7_3, ma_if_pos sp_i7_4, ma_if_pos sp_i7_5, ma_if_pos sp_i7_6, Int32.reduceAdd, List.nil_append, List.cons_append, List.append_nil, sp_rV, sp_pV, sp_wV, sp_rL, sp_pL, sp_wL, ↓reduceIte, ma_bd_some, ma_bd_none, ma_tl1, ma_tl0, ma_ap1, ma_ap0, b2i_0, b2i_1, b2i_01, ma_l10, ma_l01, eq_self, true_or, or_true, not_true_eq_false, not_false_eq_true, Bool.false_eq_true]
theorem cx_act_waits (d r : Nat) (x : ma_S) (k n a v : Int32) (hk : 0 ≤ k.toInt ∧ k.toInt ≤ 6) (h0 : x.1 4 0 r 0 = n) (h1 : x.1 4 0 r 1 = k) (h2 : x.1 4 0 r 2 = a) : ma_cal (d + 12) 112 [vR 4 0 r, vI 2, vI k, vI v, vR 13 0 0, vI 0] (sp_trx x []) = some (some (vI (sp_wV k n a v)), sp_trx x (sp_wL k)) := by
  rcases sp_k7 hk with rfl | rfl | rfl | rfl | rfl | rfl | rfl
  all_goals simp (decide := true) only [en_112, bk_112_0, bk_112_7, bk_112_11, bk_112_14, bk_112_16, bk_112_20, bk_112_28, bk_112_33, bk_112_41, bk_112_46, bk_112_55, bk_112_160, bk_112_167, bk_112_179, bk_112_182, bk_112_194, bk_112_211, bk_112_213, bk_112_228, bk_112_234, bk_112_249, bk_112_252, bk_112_269, bk_112_270, bk_112_285, bk_112_287, bk_112_302, bk_112_308, bk_112_323, bk_112_326, bk_112_342, bk_112_345, bk_112_366, cx_isKind, cx_note2, sp_trx_4, h0, h1, h2, sp_sv_0_0, sp_sv_0_1, sp_sv_0_2, sp_sv_0_3, sp_sv_0_4, sp_sv_0_5, sp_sv_0_6, sp_sv_1_0, sp_sv_1_1, sp_sv_1_2, sp_sv_1_3, sp_sv_1_4, sp_sv_1_5, sp_sv_1_6, sp_sv_2_0, sp_sv_2_1, sp_sv_2_2, sp_sv_2_3, sp_sv_2_4, sp_sv_2_5, sp_sv_2_6, sp_sv_3_0, sp_sv_3_1, sp_sv_3_2, sp_sv_3_3, sp_sv_3_4, sp_sv_3_5, sp_sv_3_6, ma_if_pos sp_i7_0, ma_if_pos sp_i7_1, ma_if_pos sp_i7_2, ma_if_pos sp_i7_3, ma_if_pos sp_i7_4, ma_if_pos sp_i7_5, ma_if_pos sp_i7_6, Int32.reduceAdd, List.nil_append, List.cons_append, List.append_nil, sp_rV, sp_pV, sp_wV, sp_rL, sp_pL, sp_wL, ↓reduceIte, ma_bd_some, ma_bd_none, ma_tl1, ma_tl0, ma_ap1, ma_ap0, b2i_0, b2i_1, b2i_01, ma_l10, ma_l01, eq_self, true_or, or_true, not_true_eq_false, not_false_eq_true, Bool.false_eq_true]
theorem cm_riding (d : Nat) (m : ma_S) (l : List Int32) (hl : l.length < 500) (k r a v : Int32) (hk : 0 ≤ k.toInt ∧ k.toInt ≤ 6) (hr : ma_in r 4) (h1 : m.1 50 1 0 r.toNatClampNeg = k) (h2 : m.1 50 2 0 r.toNatClampNeg = a) : ma_cal (d + 2) 195 [vR 20 0 0, vI r, vI v] (sp_trm m l) = some (some (vI (sp_rV k r a v)), sp_trm m (l ++ sp_rL k)) := by
  have b0 : l.length < 1000 := by omega
  have b1 : ∀ b : Int32, (l ++ [b]).length < 1000 := fun b => by rw [List.length_append, List.length_singleton]; omega
  have b2 : ∀ b c : Int32, (l ++ [b, c]).length < 1000 := fun b c => by rw [List.length_append]; simp only [List.length_cons, List.length_nil]; omega
  rw [en_195]
  rcases sp_k7 hk with rfl | rfl | rfl | rfl | rfl | rfl | rfl
  all_goals simp (decide := true) only [bk_195_0, bk_195_13, bk_195_19, bk_195_24, bk_195_30, bk_195_36, bk_195_41, bk_195_46, bk_195_52, bk_195_58, bk_195_68, bk_195_73, bk_195_84, bk_195_89, bk_195_95, bk_195_101, bk_195_107, bk_195_114, bk_195_116, cm_body2 _ _ _ _ b0, cm_body2 _ _ _ _ (b1 _), cm_body2 _ _ _ _ (b2 _ _), sp_trm_1, sp_trm_2, h1, h2, ma_if_pos hr, sp_rV, sp_rL, List.append_assoc, List.nil_append, List.cons_append, List.append_nil, ↓reduceIte, ma_bd_some, ma_bd_none, ma_tl1, ma_tl0, ma_ap1, ma_ap0, b2i_0, b2i_1, b2i_01, ma_l10, ma_l01, eq_self, true_or, or_true, not_true_eq_false, not_false_eq_true, Bool.false_eq_true]
theorem sp_rL_len (k : Int32) : (sp_rL k).length ≤ 3 := by
  unfold sp_rL
  repeat' split
  all_goals decide
theorem sp_pL_len (k : Int32) : (sp_pL k).length ≤ 5 := by
  have h := sp_rL_len k
  unfold sp_pL
  repeat' split
  all_goals (simp only [List.length_cons]; omega)
theorem sp_wL_len (k : Int32) : (sp_wL k).length ≤ 10 := by
  have h := sp_rL_len k
  have h2 := sp_pL_len k
  unfold sp_wL
  repeat' split
  all_goals (simp only [List.length_cons, List.length_append]; omega)
theorem cm_pulling (d : Nat) (m : ma_S) (l : List Int32) (hl : l.length < 400) (k r a v : Int32) (hk : 0 ≤ k.toInt ∧ k.toInt ≤ 6) (hr : ma_in r 4) (h1 : m.1 50 1 0 r.toNatClampNeg = k) (h2 : m.1 50 2 0 r.toNatClampNeg = a) : ma_cal (d + 3) 196 [vR 20 0 0, vI r, vI v] (sp_trm m l) = some (some (vI (sp_pV k r a v)), sp_trm m (l ++ sp_pL k)) := by
  have b0 : l.length < 1000 := by omega
  have b1 : ∀ b : Int32, (l ++ [b]).length < 1000 := fun b => by rw [List.length_append, List.length_singleton]; omega
  have b3 : ∀ b : Int32, (l ++ [b]).length < 500 := fun b => by rw [List.length_append, List.length_singleton]; omega
  have b4 : ∀ b c : Int32, (l ++ [b, c]).length < 500 := fun b c => by rw [List.length_append]; simp only [List.length_cons, List.length_nil]; omega
  have hR := fun (w : Int32) (l' : List Int32) (hl' : l'.length < 500) => cm_riding d m l' hl' k r a w hk hr h1 h2
  rw [en_196]
  rcases sp_k7 hk with rfl | rfl | rfl | rfl | rfl | rfl | rfl
  all_goals simp (decide := true) only [bk_196_0, bk_196_16, bk_196_22, bk_196_32, bk_196_37, bk_196_43, bk_196_48, bk_196_53, bk_196_58, bk_196_62, bk_196_63, bk_196_70, bk_196_76, bk_196_82, bk_196_89, bk_196_98, bk_196_105, bk_196_107, cm_body2 _ _ _ _ b0, cm_body2 _ _ _ _ (b1 _), hR _ _ (b3 _), hR _ _ (b4 _ _), sp_trm_1, sp_trm_2, h1, h2, ma_if_pos hr, sp_pV, sp_pL, List.append_assoc, List.nil_append, List.cons_append, List.append_nil, ↓reduceIte, ma_bd_some, ma_bd_none, ma_tl1, ma_tl0, ma_ap1, ma_ap0, b2i_0, b2i_1, b2i_01, ma_l10, ma_l01, eq_self, true_or, or_true, not_true_eq_false, not_false_eq_true, Bool.false_eq_true]
theorem cm_waiting (d : Nat) (m : ma_S) (k r a v : Int32) (hk : 0 ≤ k.toInt ∧ k.toInt ≤ 6) (hr : ma_in r 4) (h1 : m.1 50 1 0 r.toNatClampNeg = k) (h2 : m.1 50 2 0 r.toNatClampNeg = a) : ma_cal (d + 4) 197 [vR 20 0 0, vI r, vI v] (sp_trm m []) = some (some (vI (sp_wV k r a v)), sp_trm m (sp_wL k)) := by
  have hR := fun (w : Int32) (l' : List Int32) (hl' : l'.length < 500) => cm_riding (d + 1) m l' hl' k r a w hk hr h1 h2
  have hP := fun (w : Int32) (l' : List Int32) (hl' : l'.length < 400) => cm_pulling d m l' hl' k r a w hk hr h1 h2
  have q1 := hP v [12] (by decide)
  have q2 := hP v [50, 12] (by decide)
  have q3 := hP v [60, 12] (by decide)
  have hpl := sp_pL_len k
  have r1 := hR (v - a) ([12] ++ sp_pL k) (by rw [List.length_append]; simp only [List.length_cons, List.length_nil]; omega)
  have r2 := hR (v - a) ([50, 12] ++ sp_pL k) (by rw [List.length_append]; simp only [List.length_cons, List.length_nil]; omega)
  have r3 := hR (v - a) ([60, 12] ++ sp_pL k) (by rw [List.length_append]; simp only [List.length_cons, List.length_nil]; omega)
  clear hR hP hpl
  rw [en_197]
  rcases sp_k7 hk with rfl | rfl | rfl | rfl | rfl | rfl | rfl
  all_goals
    simp only [List.nil_append, List.cons_append, List.append_nil] at q1 q2 q3 r1 r2 r3
    simp (decide := true) only [bk_197_0, bk_197_12, bk_197_18, bk_197_24, bk_197_29, bk_197_35, bk_197_41, bk_197_47, bk_197_64, bk_197_72, bk_197_78, bk_197_84, bk_197_89, bk_197_96, bk_197_98, cm_body2, q1, q2, q3, r1, r2, r3, sp_trm_1, sp_trm_2, h1, h2, ma_if_pos hr, sp_wV, sp_wL, List.append_assoc, List.nil_append, List.cons_append, List.append_nil, ↓reduceIte, ma_bd_some, ma_bd_none, ma_tl1, ma_tl0, ma_ap1, ma_ap0, b2i_0, b2i_1, b2i_01, ma_l10, ma_l01, eq_self, true_or, or_true, not_true_eq_false, not_false_eq_true, Bool.false_eq_true]
theorem op_act (d t : Nat) (x m : ma_S) (r a v : Int32) (hi : ma_Iv t x m) : ma_Op (d + 13) 93 198 [vI r, vI a, vI v] t x m := by
  have e1 := ma_Iv_F hi 1 (by omega) (by omega)
  have x0 : sp_trx x [] = ma_u x 13 0 0 1 0 := rfl
  have m0 : sp_trm m [] = ma_u m 20 0 0 45 0 := rfl
  have gx : ∀ k, (sp_trx x []).1 2 0 0 k = x.1 2 0 0 k := fun k => by rw [x0, ma_u_g (by decide)]
  have gm : ∀ k, k ≠ 45 → (sp_trm m []).1 20 0 0 k = m.1 20 0 0 k := fun k h => by rw [m0, ma_u_k, if_neg h]
  unfold ma_Op
  rw [en_93, en_198]
  rcases Classical.propComplete (0 ≤ r ∧ r < x.1 2 0 0 1) with c1 | c1
  case inr =>
    refine ⟨some (vI 0), sp_trx x [], sp_trm m [], ?_, ?_, ma_Iv_tr2 [] (by decide) (ma_Iv_s hi)⟩
    · simp only [bk_93_0, bk_93_7, bk_93_15, bk_93_18, bk_93_24, bk_93_27, bk_93_29, bk_93_60, cx_clear, ← x0, cx_has, gx, c1, ↓reduceIte, ma_bd_some, ma_bd_none, ma_tl1, ma_tl0, ma_ap1, ma_ap0, b2i_0, b2i_1, b2i_01, ma_l10, ma_l01, eq_self, true_or, or_true, not_true_eq_false, not_false_eq_true, Bool.false_eq_true]
    · simp only [bk_198_0, bk_198_10, bk_198_13, bk_198_17, bk_198_22, bk_198_24, bk_198_28, bk_198_34, bk_198_37, bk_198_42, bk_198_48, bk_198_51, bk_198_57, cm_isRider, ← m0, gm 1 (by decide), e1, c1, ↓reduceIte, ma_bd_some, ma_bd_none, ma_tl1, ma_tl0, ma_ap1, ma_ap0, b2i_0, b2i_1, b2i_01, ma_l10, ma_l01, eq_self, true_or, or_true, not_true_eq_false, not_false_eq_true, Bool.false_eq_true]
  rcases Classical.propComplete (0 ≤ a) with c3 | c3 <;> rcases Classical.propComplete (a ≤ 2) with c4 | c4
  case inl.inr | inr.inl | inr.inr =>
    refine ⟨some (vI 0), sp_trx x [], sp_trm m [], ?_, ?_, ma_Iv_tr2 [] (by decide) (ma_Iv_s hi)⟩
    · simp only [bk_93_0, bk_93_7, bk_93_15, bk_93_18, bk_93_24, bk_93_27, bk_93_29, bk_93_60, cx_clear, ← x0, cx_has, cx_isIn, gx, c1, c3, c4, and_true, and_false, and_self, ↓reduceIte, ma_bd_some, ma_bd_none, ma_tl1, ma_tl0, ma_ap1, ma_ap0, b2i_0, b2i_1, b2i_01, ma_l10, ma_l01, eq_self, true_or, or_true, not_true_eq_false, not_false_eq_true, Bool.false_eq_true]
    · simp only [bk_198_0, bk_198_10, bk_198_13, bk_198_17, bk_198_22, bk_198_24, bk_198_28, bk_198_34, bk_198_37, bk_198_42, bk_198_48, bk_198_51, bk_198_57, cm_isRider, ← m0, gm 1 (by decide), e1, c1, ma_nlt a 0, c3, c4, ↓reduceIte, ma_bd_some, ma_bd_none, ma_tl1, ma_tl0, ma_ap1, ma_ap0, b2i_0, b2i_1, b2i_01, ma_l10, ma_l01, eq_self, true_or, or_true, not_true_eq_false, not_false_eq_true, Bool.false_eq_true]
  have l3 := ma_le.mp (of_eq_true c3)
  have l4 := ma_le.mp (of_eq_true c4)
  have k0 : (0 : Int32).toInt = 0 := rfl
  have k1 : (1 : Int32).toInt = 1 := rfl
  have k2 : (2 : Int32).toInt = 2 := rfl
  obtain ⟨hr, hrl⟩ := sp_in4 hi (of_eq_true c1)
  have g1 := ma_Iv_G hi _ hrl 1 (by omega) (by omega)
  have g2 := ma_Iv_G hi _ hrl 2 (by omega) (by omega)
  have hok := (ma_Iv_ok hi).2.2.2.2.2.2.2.2 _ hrl
  have h4 := (ma_Iv_ok hi).2.1
  have hn : x.1 4 0 r.toNatClampNeg 0 = r := by
    rw [hi.1.2.2.2 _ (by omega)]
    have hc := ma_clN (x := r)
    have hr1 := hr.1
    exact (ma_nI (by omega) (by omega)).symm
  have g4 : ∀ k, (sp_trx x []).1 4 0 r.toNatClampNeg k = x.1 4 0 r.toNatClampNeg k := fun k => sp_trx_4 x [] _ k
  have ha : a = 0 ∨ a = 1 ∨ a = 2 := by
    rw [ma_eq, ma_eq, ma_eq]; omega
  rcases ha with rfl | rfl | rfl
  · have hx := cx_act_rides d r.toNatClampNeg x _ _ _ v hok.1 hn rfl rfl
    have hm := cm_riding (d + 10) m [] (by decide) _ r _ v hok.1 hr g1 g2
    refine ⟨some (vI (sp_rV (x.1 4 0 r.toNatClampNeg 1) r (x.1 4 0 r.toNatClampNeg 2) v)), _, _, ?_, ?_, ma_Iv_tr2 (sp_rL (x.1 4 0 r.toNatClampNeg 1)) (by have := sp_rL_len (x.1 4 0 r.toNatClampNeg 1); omega) (ma_Iv_s hi)⟩
    · simp only [bk_93_0, bk_93_7, bk_93_15, bk_93_18, bk_93_24, bk_93_27, bk_93_29, bk_93_60, cx_clear, ← x0, cx_has, cx_isIn, gx, g4, c1, c3, c4, and_self, ma_if_pos hr, hx, ↓reduceIte, ma_bd_some, ma_bd_none, ma_tl1, ma_tl0, ma_ap1, ma_ap0, b2i_0, b2i_1, b2i_01, ma_l10, ma_l01, eq_self, true_or, or_true, not_true_eq_false, not_false_eq_true, Bool.false_eq_true]
    · simp (decide := true) only [bk_198_0, bk_198_10, bk_198_13, bk_198_17, bk_198_22, bk_198_24, bk_198_28, bk_198_34, bk_198_37, bk_198_42, bk_198_48, bk_198_51, bk_198_57, cm_isRider, ← m0, gm 1 (by decide), e1, c1, ma_nlt 0 0, c3, c4, hm, List.nil_append, ↓reduceIte, ma_bd_some, ma_bd_none, ma_tl1, ma_tl0, ma_ap1, ma_ap0, b2i_0, b2i_1, b2i_01, ma_l10, ma_l01, eq_self, true_or, or_true, not_true_eq_false, not_false_eq_true, Bool.false_eq_true]
  · have hx := cx_act_pulls d r.toNatClampNeg x _ _ _ v hok.1 hn rfl rfl
    have hm := cm_pulling (d + 9) m [] (by decide) _ r _ v hok.1 hr g1 g2
    refine ⟨some (vI (sp_pV (x.1 4 0 r.toNatClampNeg 1) r (x.1 4 0 r.toNatClampNeg 2) v)), _, _, ?_, ?_, ma_Iv_tr2 (sp_pL (x.1 4 0 r.toNatClampNeg 1)) (by have := sp_pL_len (x.1 4 0 r.toNatClampNeg 1); omega) (ma_Iv_s hi)⟩
    · simp only [bk_93_0, bk_93_7, bk_93_15, bk_93_18, bk_93_24, bk_93_27, bk_93_29, bk_93_60, cx_clear, ← x0, cx_has, cx_isIn, gx, g4, c1, c3, c4, and_self, ma_if_pos hr, hx, ↓reduceIte, ma_bd_some, ma_bd_none, ma_tl1, ma_tl0, ma_ap1, ma_ap0, b2i_0, b2i_1, b2i_01, ma_l10, ma_l01, eq_self, true_or, or_true, not_true_eq_false, not_false_eq_true, Bool.false_eq_true]
    · simp (decide := true) only [bk_198_0, bk_198_10, bk_198_13, bk_198_17, bk_198_22, bk_198_24, bk_198_28, bk_198_34, bk_198_37, bk_198_42, bk_198_48, bk_198_51, bk_198_57, cm_isRider, ← m0, gm 1 (by decide), e1, c1, ma_nlt 1 0, c3, c4, hm, List.nil_append, ↓reduceIte, ma_bd_some, ma_bd_none, ma_tl1, ma_tl0, ma_ap1, ma_ap0, b2i_0, b2i_1, b2i_01, ma_l10, ma_l01, eq_self, true_or, or_true, not_true_eq_false, not_false_eq_true, Bool.false_eq_true]
  · have hx := cx_act_waits d r.toNatClampNeg x _ _ _ v hok.1 hn rfl rfl
    have hm := cm_waiting (d + 8) m _ r _ v hok.1 hr g1 g2
    refine ⟨some (vI (sp_wV (x.1 4 0 r.toNatClampNeg 1) r (x.1 4 0 r.toNatClampNeg 2) v)), _, _, ?_, ?_, ma_Iv_tr2 (sp_wL (x.1 4 0 r.toNatClampNeg 1)) (by have := sp_wL_len (x.1 4 0 r.toNatClampNeg 1); omega) (ma_Iv_s hi)⟩
    · simp only [bk_93_0, bk_93_7, bk_93_15, bk_93_18, bk_93_24, bk_93_27, bk_93_29, bk_93_60, cx_clear, ← x0, cx_has, cx_isIn, gx, g4, c1, c3, c4, and_self, ma_if_pos hr, hx, ↓reduceIte, ma_bd_some, ma_bd_none, ma_tl1, ma_tl0, ma_ap1, ma_ap0, b2i_0, b2i_1, b2i_01, ma_l10, ma_l01, eq_self, true_or, or_true, not_true_eq_false, not_false_eq_true, Bool.false_eq_true]
    · simp (decide := true) only [bk_198_0, bk_198_10, bk_198_13, bk_198_17, bk_198_22, bk_198_24, bk_198_28, bk_198_34, bk_198_37, bk_198_42, bk_198_48, bk_198_51, bk_198_57, cm_isRider, ← m0, gm 1 (by decide), e1, c1, ma_nlt 2 0, c3, c4, hm, List.nil_append, ↓reduceIte, ma_bd_some, ma_bd_none, ma_tl1, ma_tl0, ma_ap1, ma_ap0, b2i_0, b2i_1, b2i_01, ma_l10, ma_l01, eq_self, true_or, or_true, not_true_eq_false, not_false_eq_true, Bool.false_eq_true]
