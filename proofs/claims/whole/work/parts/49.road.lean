/-! PART 49: road: when the later of both is there. -/
def sp_mx (a b : Int32) : Int32 := if a < b then b else a
def sp_lat (a b n w k : Int32) : Int32 := sp_mx (k * w + (n - k) * a) (sp_mx (k * b) (k * w) + (n - k) * w)
theorem cx_later (d : Nat) (a b n w k : Int32) (σ : ma_S) : ma_cal (d + 1) 111 [vI a, vI b, vI n, vI w, vI k] σ = some (some (vI (sp_lat a b n w k)), σ) := by
  rw [en_111, bk_111_0]
  rfl
theorem sp_mx_le (a b : Int32) : sp_mx a b = if a ≤ b then b else a := by
  unfold sp_mx
  by_cases h : a < b
  · rw [if_pos h, if_pos (by rw [ma_lt] at h; rw [ma_le]; omega)]
  · rw [if_neg h]
    by_cases h2 : a ≤ b
    · rw [if_pos h2]
      exact ma_eq.mpr (by rw [ma_lt] at h; rw [ma_le] at h2; omega)
    · rw [if_neg h2]
theorem sp_mx_n (p q : Int32) : sp_mx p (sp_mx q p) = sp_mx p q := by
  unfold sp_mx
  by_cases h : q < p
  · rw [if_pos h, if_neg (show ¬ p < p by rw [ma_lt]; omega), if_neg (show ¬ p < q by rw [ma_lt] at h ⊢; omega)]
  · rw [if_neg h]
theorem sp_lat_n (a b n w : Int32) : sp_lat a b n w n = sp_mx (n * w) (n * b) := by
  unfold sp_lat
  rw [Int32.sub_self, Int32.zero_mul, Int32.zero_mul, Int32.add_zero, Int32.add_zero, sp_mx_n]
theorem cm_later (d : Nat) (r q n w k : Int32) (σ : ma_S) (hr : ma_in r 4) (hq : ma_in q 4) : ma_cal (d + 1) 184 [vR 20 0 0, vI r, vI q, vI n, vI w, vI k] σ = some (some (vI (sp_lat (10 + σ.1 50 2 0 r.toNatClampNeg) (10 + σ.1 50 2 0 q.toNatClampNeg) n w k)), σ) := by
  rw [en_184]
  generalize hA : 10 + σ.1 50 2 0 r.toNatClampNeg = A
  generalize hB : 10 + σ.1 50 2 0 q.toNatClampNeg = B
  have e1 : w * k = k * w := Int32.mul_comm _ _
  have e2 : B * k = k * B := Int32.mul_comm _ _
  have hmx : sp_mx (k * B) (k * w) = if k * B ≤ k * w then k * w else k * B := sp_mx_le _ _
  have fin : ∀ u v : Int32, (if u ≤ v then some (some (vI v), σ) else some (some (vI u), σ)) = some (some (vI (sp_mx u v)), σ) := fun u v => by
    rw [sp_mx_le]
    split <;> rfl
  by_cases hk : k = n
  · subst hk
    rw [sp_lat_n, ← fin]
    rcases Classical.propComplete (k * B ≤ k * w) with c | c
    all_goals
      simp only [bk_184_0, bk_184_50, bk_184_55, bk_184_57, bk_184_73, bk_184_77, bk_184_84, bk_184_89, bk_184_91, ma_if_pos hr, ma_if_pos hq, hA, hB, e1, e2, c, Int32.sub_self, Int32.zero_mul, Int32.add_zero, ↓reduceIte, ma_bd_some, ma_bd_none, ma_tl1, ma_tl0, ma_ap1, ma_ap0, b2i_0, b2i_1, b2i_01, ma_l10, ma_l01, eq_self, true_or, or_true, not_true_eq_false, not_false_eq_true, Bool.false_eq_true]
  · unfold sp_lat
    rw [hmx, ← fin]
    rcases Classical.propComplete (k * B ≤ k * w) with c | c
    all_goals
      simp only [bk_184_0, bk_184_50, bk_184_55, bk_184_57, bk_184_73, bk_184_77, bk_184_84, bk_184_89, bk_184_91, ma_if_pos hr, ma_if_pos hq, hA, hB, e1, e2, c, hk, ↓reduceIte, ma_bd_some, ma_bd_none, ma_tl1, ma_tl0, ma_ap1, ma_ap0, b2i_0, b2i_1, b2i_01, ma_l10, ma_l01, eq_self, true_or, or_true, not_true_eq_false, not_false_eq_true, Bool.false_eq_true]
def sp_rd (L : Nat → Int32) : Nat → Nat → Nat → Nat
  | 0, _, t => t
  | c + 1, k, t => sp_rd L c (k + 1) (if L k < L t then k else t)
theorem cm_road_loop (d N : Nat) (r q n w o : Int32) (σ : ma_S) (hr : ma_in r 4) (hq : ma_in q 4) (hN : n.toInt = N) (h500 : N ≤ 500) : ∀ c k t, k + c = N + 1 → t ≤ N → ∃ z : Int32, ma_ex (d + 1) 185 83 [some (vR 20 0 0), some (vI r), some (vI q), some (vI n), some (vI w), some (vI o), some (vI (nI t)), some (vI (nI k))] [] σ = ma_ex (d + 1) 185 124 [some (vR 20 0 0), some (vI r), some (vI q), some (vI n), some (vI w), some (vI o), some (vI (nI (sp_rd (fun k => sp_lat (10 + σ.1 50 2 0 r.toNatClampNeg) (10 + σ.1 50 2 0 q.toNatClampNeg) n w (nI k)) c k t))), some (vI z)] [] σ := by
  intro c
  induction c with
  | zero =>
    intro k t h ht
    have hk := nI_toInt (n := k) (by omega)
    exact ⟨nI k, by rw [bk_185_83, if_pos (by rw [ma_lt]; omega)]; rfl⟩
  | succ c ih =>
    intro k t h ht
    have hk := nI_toInt (n := k) (by omega)
    have h1 := cm_later d r q n w (nI k) σ hr hq
    have h2 := cm_later d r q n w (nI t) σ hr hq
    rw [bk_185_83, if_neg (by rw [ma_lt]; omega), bk_185_89, h1]
    by_cases hc : sp_lat (10 + σ.1 50 2 0 r.toNatClampNeg) (10 + σ.1 50 2 0 q.toNatClampNeg) n w (nI k) < sp_lat (10 + σ.1 50 2 0 r.toNatClampNeg) (10 + σ.1 50 2 0 q.toNatClampNeg) n w (nI t)
    · obtain ⟨z, hz⟩ := ih (k + 1) k (by omega) (by omega)
      refine ⟨z, ?_⟩
      have b1 : (sp_lat (10 + σ.1 50 2 0 r.toNatClampNeg) (10 + σ.1 50 2 0 q.toNatClampNeg) n w (nI t) ≤ sp_lat (10 + σ.1 50 2 0 r.toNatClampNeg) (10 + σ.1 50 2 0 q.toNatClampNeg) n w (nI k)) = False := eq_false (by rw [ma_lt] at hc; rw [ma_le]; omega)
      simp only [bk_185_100, bk_185_111, bk_185_114, bk_185_118, h2, b1, ↓reduceIte, ma_bd_some, ma_bd_none, ma_tl1, ma_tl0, ma_ap1, ma_ap0, b2i_0, b2i_1, b2i_01, ma_l10, ma_l01, eq_self, true_or, or_true, not_true_eq_false, not_false_eq_true, Bool.false_eq_true]
      rw [← nI_succ, hz]
      have e : sp_rd (fun k => sp_lat (10 + σ.1 50 2 0 r.toNatClampNeg) (10 + σ.1 50 2 0 q.toNatClampNeg) n w (nI k)) (c + 1) k t = sp_rd (fun k => sp_lat (10 + σ.1 50 2 0 r.toNatClampNeg) (10 + σ.1 50 2 0 q.toNatClampNeg) n w (nI k)) c (k + 1) k := by
        show sp_rd _ c (k + 1) (if _ then k else t) = _
        rw [if_pos hc]
      rw [e]
    · obtain ⟨z, hz⟩ := ih (k + 1) t (by omega) ht
      refine ⟨z, ?_⟩
      have b1 : (sp_lat (10 + σ.1 50 2 0 r.toNatClampNeg) (10 + σ.1 50 2 0 q.toNatClampNeg) n w (nI t) ≤ sp_lat (10 + σ.1 50 2 0 r.toNatClampNeg) (10 + σ.1 50 2 0 q.toNatClampNeg) n w (nI k)) = True := eq_true (by rw [ma_lt] at hc; rw [ma_le]; omega)
      simp only [bk_185_100, bk_185_111, bk_185_118, h2, b1, ↓reduceIte, ma_bd_some, ma_bd_none, ma_tl1, ma_tl0, ma_ap1, ma_ap0, b2i_0, b2i_1, b2i_01, ma_l10, ma_l01, eq_self, true_or, or_true, not_true_eq_false, not_false_eq_true, Bool.false_eq_true]
      rw [← nI_succ, hz]
      have e : sp_rd (fun k => sp_lat (10 + σ.1 50 2 0 r.toNatClampNeg) (10 + σ.1 50 2 0 q.toNatClampNeg) n w (nI k)) (c + 1) k t = sp_rd (fun k => sp_lat (10 + σ.1 50 2 0 r.toNatClampNeg) (10 + σ.1 50 2 0 q.toNatClampNeg) n w (nI k)) c (k + 1) t := by
        show sp_rd _ c (k + 1) (if _ then k else t) = _
        rw [if_neg hc]
      rw [e]
theorem cx_road_loop (d N : Nat) (r q n w o : Int32) (σ : ma_S) (hr : ma_in r 4) (hq : ma_in q 4) (hN : n.toInt = N) (h500 : N ≤ 500) (L : Nat → Int32) (hL : L = fun k => sp_lat (10 + σ.1 4 0 r.toNatClampNeg 2) (10 + σ.1 4 0 q.toNatClampNeg 2) n w (nI k)) : ∀ c k t (u : Option ma_V), 1 ≤ k → k + c = N + 1 → t ≤ N → ∃ (z : Int32) (u' : Option ma_V), ma_ex (d + 1) 87 88 [some (vR 1 0 0), some (vI r), some (vI q), some (vI n), some (vI w), some (vI o), some (vI (nI t)), some (vI (L t)), some (vI (nI k)), u] [] σ = ma_ex (d + 1) 87 154 [some (vR 1 0 0), some (vI r), some (vI q), some (vI n), some (vI w), some (vI o), some (vI (nI (sp_rd L c k t))), some (vI (L (sp_rd L c k t))), some (vI z), u'] [] σ := by
  intro c
  induction c with
  | zero =>
    intro k t u h1 h ht
    have hk := nI_toInt (n := k) (by omega)
    exact ⟨nI k, u, by rw [bk_87_88, if_pos (by rw [ma_lt]; omega)]; rfl⟩
  | succ c ih =>
    intro k t u h1 h ht
    have hk := nI_toInt (n := k) (by omega)
    have hLk : L k = sp_lat (10 + σ.1 4 0 r.toNatClampNeg 2) (10 + σ.1 4 0 q.toNatClampNeg 2) n w (nI k) := by rw [hL]
    have k0 : (nI k = 0) = False := eq_false (fun e => by
      rw [e] at hk
      have : (0 : Int32).toInt = 0 := rfl
      omega)
    rw [bk_87_88, if_neg (by rw [ma_lt]; omega)]
    by_cases hc : L k < L t
    · obtain ⟨z, u', hz⟩ := ih (k + 1) k (some (vI (L k))) (by omega) (by omega) (by omega)
      refine ⟨z, u', ?_⟩
      have b1 : (L t ≤ L k) = False := eq_false (by rw [ma_lt] at hc; rw [ma_le]; omega)
      have e : sp_rd L (c + 1) k t = sp_rd L c (k + 1) k := by
        show sp_rd _ c (k + 1) (if _ then k else t) = _
        rw [if_pos hc]
      simp only [bk_87_94, bk_87_106, bk_87_118, bk_87_126, bk_87_133, bk_87_140, bk_87_148, ma_if_pos hr, ma_if_pos hq, cx_onFoot, cx_later, ← hLk, k0, b1, ↓reduceIte, ma_bd_some, ma_bd_none, ma_tl1, ma_tl0, ma_ap1, ma_ap0, b2i_0, b2i_1, b2i_01, ma_l10, ma_l01, eq_self, true_or, or_true, not_true_eq_false, not_false_eq_true, Bool.false_eq_true]
      rw [← nI_succ, hz, e]
    · obtain ⟨z, u', hz⟩ := ih (k + 1) t (some (vI (L k))) (by omega) (by omega) ht
      refine ⟨z, u', ?_⟩
      have b1 : (L t ≤ L k) = True := eq_true (by rw [ma_lt] at hc; rw [ma_le]; omega)
      have e : sp_rd L (c + 1) k t = sp_rd L c (k + 1) t := by
        show sp_rd _ c (k + 1) (if _ then k else t) = _
        rw [if_neg hc]
      simp only [bk_87_94, bk_87_106, bk_87_118, bk_87_126, bk_87_133, bk_87_148, ma_if_pos hr, ma_if_pos hq, cx_onFoot, cx_later, ← hLk, k0, b1, ↓reduceIte, ma_bd_some, ma_bd_none, ma_tl1, ma_tl0, ma_ap1, ma_ap0, b2i_0, b2i_1, b2i_01, ma_l10, ma_l01, eq_self, true_or, or_true, not_true_eq_false, not_false_eq_true, Bool.false_eq_true]
      rw [← nI_succ, hz, e]
