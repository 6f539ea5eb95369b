/-! PART 65: AHEAD: both sides look, MOVE by MOVE. -/
def sp_frX (k : Nat) (p p' : Nat → Int32) (Fs Fs' : Nat → Nat → Int32) (Gs Gs' : Nat → Nat → Nat → Int32) (fs fs' : Nat → Nat → Int32) : Prop := (∀ i, i < k → p' i = p i) ∧ (∀ j, j ≤ k → Fs' j = Fs j ∧ Gs' j = Gs j) ∧ (∀ j, j < k → fs' j = fs j)
def sp_frM (k : Nat) (S S' : Nat → Int32) (T T' : Nat → Nat → Int32) : Prop := (∀ q, q ≠ 37 → q ≠ 38 → q ≠ 39 → S' q = S q) ∧ (∀ r q, q ≠ 18 → q ≠ 19 → q ≠ 20 → T' r q = T r q) ∧ (∀ r, r < 40 * k → T' r 18 = T r 18) ∧ (∀ i, i < k → T' i 19 = T i 19)
def sp_NR (n : Nat) (h0 M0 B : Int) (k : Nat) (K p b F : Nat → Int32) (G : Nat → Nat → Int32) (S : Nat → Int32) (T : Nat → Nat → Int32) (r q : Int32) : Prop := ma_Re F S G T ∧ sp_ok F G ∧ F 1 = nI n ∧ sp_rb2 (B + k) F G ∧ r.toInt + h0 = (sp_sum (fun j => G j 5) n).toInt ∧ q.toInt + (F 4).toInt = M0 ∧ (∀ i, i < k → p i = T i 19) ∧ sp_BR h0 M0 K b S T
def sp_LOOK (D n d : Nat) (h0 M0 B : Int) (x m : ma_S) (e : Nat) : Prop := ∀ (k : Nat) (K p b : Nat → Int32) (Fs : Nat → Nat → Int32) (Gs : Nat → Nat → Nat → Int32) (fs : Nat → Nat → Int32) (S : Nat → Int32) (T : Nat → Nat → Int32) (r q u3 : Int32) (u4 : Option ma_V), k + e = d → sp_NR n h0 M0 B k K p b (Fs k) (Gs k) S T r q → ∃ (K' p' b' : Nat → Int32) (Fs' : Nat → Nat → Int32) (Gs' : Nat → Nat → Nat → Int32) (fs' : Nat → Nat → Int32) (S' : Nat → Int32) (T' : Nat → Nat → Int32), ma_cal (D + e + 6) 22 [vR 9 0 0, vI (nI k), vI (nI d), vI r, vI q] (ma_lk x K p b Fs Gs fs) = some (none, ma_lk x K' p' b' Fs' Gs' fs') ∧ ma_ex (D + e + 6) 164 97 [some (vR 20 0 0), some (vI (nI k)), some (vI (nI d)), some (vI u3), u4] [] (ma_mh m S T) = some (none, ma_mh m S' T') ∧ sp_BR h0 M0 K' b' S' T' ∧ sp_frX k p p' Fs Fs' Gs Gs' fs fs' ∧ sp_frM k S S' T T'
theorem sp_L_ok {F : Nat → Int32} {G : Nat → Nat → Int32} {kk v : Nat} {t : List Nat} (h : sp_L F G kk = v :: t) : v ≤ 700 ∧ sp_may F G (nI v) = true ∧ t = sp_L F G (v + 1) := by
  obtain ⟨a, b, c⟩ := sp_L_cons F G _ kk rfl h
  exact ⟨a, b, c⟩
theorem nI_40 {k : Nat} (h : k ≤ 3) : 40 * nI k = nI (40 * k) := by
  rcases k with _|_|_|_|k
  all_goals first | omega | decide
theorem cx_runsOf2 (d : Nat) (m : Int32) (σ : ma_S) : ∃ v : Int32, ma_cal (d + 2) 13 [vI m] σ = some (some (vI v), σ) ∧ v.toInt = sp_ro m := by
  refine ⟨_, cx_runsOf d m σ, ?_⟩
  unfold sp_ro
  split
  · rfl
  split <;> rfl
/-- what holds of the model's numbers ahead of each MOVE -/
def sp_LI (k : Nat) (S0 S : Nat → Int32) (T0 T : Nat → Nat → Int32) : Prop := (∀ q, q ≠ 37 → q ≠ 38 → q ≠ 39 → S q = S0 q) ∧ (∀ r q, q ≠ 18 → q ≠ 19 → q ≠ 20 → T r q = T0 r q) ∧ (∀ r, r < 40 * k + 32 → T r 18 = sp_put S0 T0 18 (40 * k) r 18) ∧ (∀ i, i < k → T i 19 = T0 i 19)
theorem sp_LI_Re {k : Nat} {F S0 S : Nat → Int32} {G T0 T : Nat → Nat → Int32} (h : sp_LI k S0 S T0 T) (hR : ma_Re F S0 G T0) : ma_Re F S G T := ma_Re_S hR (fun q a b => h.1 q (by omega) (by omega) (by omega)) (fun r q a b => h.2.1 r q (by omega) (by omega) (by omega))
/-- the model's hill is taken back -/
theorem sp_LI_back {k n : Nat} {S0 S S4 : Nat → Int32} {T0 T T4 : Nat → Nat → Int32} {mv : Int32} (hn : n ≤ 4) (hF : S 1 = nI n) (h : sp_LI k S0 S T0 T) (hS : ∀ q, q ≠ 37 → q ≠ 38 → q ≠ 39 → S4 q = sp_mvF S (ma_uE T k 19 mv) mv q) (hT : ∀ r q, q ≠ 18 → q ≠ 19 → q ≠ 20 → T4 r q = sp_mvG S (ma_uE T k 19 mv) mv r q) (h18 : ∀ r, r < 40 * (k + 1) → T4 r 18 = T r 18) (h19 : ∀ i, i < k → T4 i 19 = T i 19) : sp_LI k S0 (sp_getF S4 T4 18 (40 * k)) T0 (sp_getG T4 18 (40 * k)) := by
  obtain ⟨a1, a2, a3, a4⟩ := h
  refine ⟨fun q e1 e2 e3 => ?_, fun r q e1 e2 e3 => ?_, fun r hr => ?_, fun i hi => ?_⟩
  · unfold sp_getF
    by_cases c : 1 ≤ q ∧ q ≤ 8
    · rw [if_pos c, h18 _ (by omega), a3 _ (by omega)]
      unfold sp_put
      rw [if_pos (by omega), if_neg (by omega)]
      congr 1
      omega
    · rw [if_neg c, hS q e1 e2 e3, ← a1 q e1 e2 e3]
      by_cases c0 : q = 0
      · subst c0; rfl
      · exact ma_mvF_9 _ _ _ _ (by omega)
  · unfold sp_getG
    by_cases c : 1 ≤ q ∧ q ≤ 6 ∧ r < 4
    · rw [if_pos c, h18 _ (by omega), a3 _ (by omega)]
      unfold sp_put
      rw [if_pos (by omega), if_pos (by omega), show (40 * k + 4 * (q - 1) + r - 40 * k) % 4 = r by omega, show (40 * k + 4 * (q - 1) + r - 40 * k) / 4 + 1 = q by omega]
    · rw [if_neg c, hT r q e1 e2 e3, ← a2 r q e1 e2 e3]
      have hu : ∀ r, ma_uE T k 19 mv r q = T r q := fun r => by
        unfold ma_uE
        rw [if_neg (by omega)]
      rw [← hu r]
      by_cases c0 : q = 0
      · subst c0; exact ma_mvG_0 _ _ _ _
      by_cases c7 : 7 ≤ q
      · exact ma_mvG_7 _ _ _ _ _ c7
      · unfold sp_mvG
        rw [if_neg (by rw [hF, nI_toInt (by omega)]; omega)]
  · unfold sp_getG
    rw [if_neg (by omega), h18 r (by omega), a3 r hr]
  · unfold sp_getG
    rw [if_neg (by omega), h19 i hi, a4 i hi]
theorem lk_loop (D n d e k : Nat) (h0 M0 B : Int) (x m : ma_S) (hn : n ≤ 4) (hd : d ≤ 3) (he : 1 ≤ e) (hke : k + e = d) (hh0 : 0 ≤ h0 ∧ h0 ≤ 1000000) (hM0 : 0 ≤ M0 ∧ M0 ≤ 999) (hB : 0 ≤ B ∧ B ≤ 1000000) (IH : 2 ≤ e → sp_LOOK D n d h0 M0 B x m (e - 1)) (F : Nat → Int32) (G : Nat → Nat → Int32) (p0 : Nat → Int32) (Fs0 : Nat → Nat → Int32) (Gs0 : Nat → Nat → Nat → Int32) (fs0 : Nat → Nat → Int32) (S0 : Nat → Int32) (T0 : Nat → Nat → Int32) (r q u3 : Int32) (old : Nat → Int32) (hR0 : ma_Re F S0 G T0) (hok : sp_ok F G) (hF : F 1 = nI n) (hrb : sp_rb2 (B + k) F G) (hr : r.toInt + h0 = (sp_sum (fun j => G j 5) n).toInt) (hq : q.toInt + (F 4).toInt = M0) : ∀ (t pre : List Nat) (kk : Nat) (K p b : Nat → Int32) (Fs : Nat → Nat → Int32) (Gs : Nat → Nat → Nat → Int32) (fs : Nat → Nat → Int32) (S : Nat → Int32) (T : Nat → Nat → Int32) (u8 u9 u10 : Option ma_V), sp_L F G 0 = pre ++ t → sp_L F G kk = t → Fs k = F → Gs k = G → fs k = sp_wr old (sp_L F G 0) → sp_frX k p0 p Fs0 Fs Gs0 Gs fs0 fs → sp_LI k S0 S T0 T → (∀ i, i < k → p i = T i 19) → sp_BR h0 M0 K b S T → ∃ (K' p' b' : Nat → Int32) (Fs' : Nat → Nat → Int32) (Gs' : Nat → Nat → Nat → Int32) (fs' : Nat → Nat → Int32) (S' : Nat → Int32) (T' : Nat → Nat → Int32), ma_ex (D + e + 5) 22 36 [some (vR 9 0 0), some (vI (nI k)), some (vI (nI d)), some (vI r), some (vI q), some (vR 2 (5 + k) 0), some (vI (nI (sp_L F G 0).length)), some (vI (nI pre.length)), u8, u9, u10] [] (ma_lk x K p b Fs Gs fs) = some (none, ma_lk x K' p' b' Fs' Gs' fs') ∧ ma_ex (D + e + 6) 164 117 [some (vR 20 0 0), some (vI (nI k)), some (vI (nI d)), some (vI u3), some (vI (sp_hd t))] [] (ma_mh m S T) = some (none, ma_mh m S' T') ∧ sp_BR h0 M0 K' b' S' T' ∧ sp_frX k p0 p' Fs0 Fs' Gs0 Gs' fs0 fs' ∧ sp_LI k S0 S' T0 T' := by
  have h40 := sp_L_len (F := F) (G := G) hF hn
  have hni := nI_toInt (n := n) (by omega)
  intro t
  induction t with
  | nil =>
    intro pre kk K p b Fs Gs fs S T u8 u9 u10 hl hkk e1 e2 e3 hX hLI hp hBR
    refine ⟨K, p, b, Fs, Gs, fs, S, T, ?_, ?_, hBR, hX, hLI⟩
    · have e : pre.length = (sp_L F G 0).length := by rw [hl, List.append_nil]
      rw [bk_22_36, if_pos (by rw [e]; exact nI_le (Nat.le_refl _) (by omega)), bk_22_145]
    · have e : sp_hd [] = -1 := rfl
      rw [bk_164_117, if_pos e, bk_164_169]
  | cons v t ih =>
    intro pre kk K p b Fs Gs fs S T u8 u9 u10 hl hkk e1 e2 e3 hX hLI hp hBR
    have hk3 : k < 3 := by omega
    have hlen : (sp_L F G 0).length = pre.length + (t.length + 1) := by rw [hl, List.length_append, List.length_cons]
    have hg : (sp_L F G 0)[pre.length]? = some v := by rw [hl, List.getElem?_append_right (Nat.le_refl _), Nat.sub_self]; rfl
    have hwr := sp_wr_at (old := old) hg
    obtain ⟨v7, hmay, ht⟩ := sp_L_ok hkk
    have hki := nI_toInt (n := k) (by omega)
    have hcl : (nI k).toNatClampNeg = k := nI_clamp (by omega)
    have hin : ma_in (nI k) 3 := ma_inI (by omega) (by omega)
    have hpl : ma_in (nI pre.length) 40 := by
      have := nI_toInt (n := pre.length) (by omega)
      exact ma_inI (by omega) (by omega)
    have hpc : (nI pre.length).toNatClampNeg = pre.length := nI_clamp (by omega)
    have hne := nI_ne1 v7
    have hM := ((sp_may_iff F G (nI v)).mp hmay).1
    have hR := sp_LI_Re hLI hR0
    -- the model's MOVE
    have hR1 : ma_Re F S G (ma_uE T k 19 (nI v)) := ma_Re_S hR (fun _ _ _ => rfl) (fun r q a c => by unfold ma_uE; rw [if_neg (by omega)])
    have hS1 : S 1 = nI n := (hR.1 1 (by omega) (by omega)).symm.trans hF
    have hmv := cm_mhMoves (D + e + 2) (nI v) m S (ma_uE T k 19 (nI v)) (sp_Re_ok hR1 hok) (by rw [← hR.1 1 (by omega) (by omega)]; exact hM)
    have hR2 := sp_Re_mv hR1 hM
    -- the class's numbers
    obtain ⟨w, hw1, hw2⟩ := cx_runsOf2 (D + e + 3) (nI v) (ma_lk x K p b Fs Gs fs)
    have hmin := cx_minutesOf (D + e + 3) (5 + k) (nI v) (ma_lk x K p b Fs Gs fs) (by rw [ma_lk_F _ _ _ _ _ _ _ hk3, e1]; exact hok.2.1)
    rw [ma_lk_F _ _ _ _ _ _ _ hk3, ma_lk_G _ _ _ _ _ _ _ hk3, e1, e2, if_pos hM] at hmin
    have hlast := sp_last_pos hok hM
    have hll := sp_may_last hmay
    obtain ⟨o1, o2, o3, o4, o5, o6, o7, o8, o9⟩ := id hok
    have hsb := sp_sum_b (f := fun j => G j 5) (B := B + k) (by omega) n hn (fun j hj => hrb j (by rw [hF, hni]; omega))
    have hnB : (n : Int) * (B + k) ≤ 4 * (B + k) := Int.mul_le_mul_of_nonneg_right (by omega) (by omega)
    have hro : 0 ≤ sp_ro (nI v) ∧ sp_ro (nI v) ≤ 2 := by
      unfold sp_ro
      split
      · omega
      split <;> omega
    have hsum := sp_runs_mv (B := B + k) (by omega) hok hF hn hrb hmay
    have hr2 : (r + w).toInt + h0 = (sp_sum (fun j => sp_mvG F G (nI v) j 5) n).toInt := by
      rw [ma_add (by omega) (by omega), hsum]; omega
    have hq2 : (q + sp_last F G (nI v)).toInt + (sp_mvF F G (nI v) 4).toInt = M0 := by
      have e4 : sp_mvF F G (nI v) 4 = F 4 - sp_last F G (nI v) := rfl
      rw [e4, ma_add (by omega) (by omega), ma_sub (by omega) (by omega)]
      omega
    have hsT : sp_sum (fun j => sp_mvG S (ma_uE T k 19 (nI v)) (nI v) j 5) n = sp_sum (fun j => sp_mvG F G (nI v) j 5) n := sp_sum_congr n (fun j hj => (hR2.2 j (by rw [sp_mvF_1, hF, hni]; omega) 5 (by omega) (by omega)).symm)
    have hB2 : sp_BR h0 M0 K b (sp_mvF S (ma_uE T k 19 (nI v)) (nI v)) (sp_mvG S (ma_uE T k 19 (nI v)) (nI v)) := by
      obtain ⟨b1, b2, b3, b4, b5, b6⟩ := hBR
      refine ⟨by rw [ma_mvF_9 _ _ _ _ (by omega)]; exact b1, b2, b3, by rw [ma_mvF_9 _ _ _ _ (by omega)]; exact b4, by rw [ma_mvF_9 _ _ _ _ (by omega)]; exact b5, fun i hi => ?_⟩
      rw [ma_mvG_7 _ _ _ _ _ (by omega)]
      unfold ma_uE
      rw [if_neg (by omega)]
      exact b6 i hi
    have hp2 : ∀ i, i < k + 1 → upd p k (nI v) i = sp_mvG S (ma_uE T k 19 (nI v)) (nI v) i 19 := fun i hi => by
      rw [ma_mvG_7 _ _ _ _ _ (by omega)]
      unfold upd ma_uE
      by_cases c : i = k
      · rw [if_pos c, if_pos ⟨c, rfl⟩]
      · rw [if_neg c, if_neg (fun z => c z.1)]
        exact hp i (by omega)
    obtain ⟨K1, b1, S3, T3, w3, w4, g1, g2, g3, g4, g5⟩ := lk_cmp (D + e + 4) (D + e + 4) n (k + 1) h0 M0 x m K (upd p k (nI v)) b Fs Gs fs _ _ (r + w) (q + sp_last F G (nI v)) (nI d) (by omega) hn (by rw [sp_mvF_1]; exact hS1) hB2 hp2 (by rw [hsT]; exact hr2.symm) (by
      rw [← hR2.1 4 (by omega) (by omega)]; omega)
    -- class from 36 to 93
    have hc93 : ma_ex (D + e + 5) 22 36 [some (vR 9 0 0), some (vI (nI k)), some (vI (nI d)), some (vI r), some (vI q), some (vR 2 (5 + k) 0), some (vI (nI (sp_L F G 0).length)), some (vI (nI pre.length)), u8, u9, u10] [] (ma_lk x K p b Fs Gs fs) = ma_ex (D + e + 5) 22 93 [some (vR 9 0 0), some (vI (nI k)), some (vI (nI d)), some (vI r), some (vI q), some (vR 2 (5 + k) 0), some (vI (nI (sp_L F G 0).length)), some (vI (nI pre.length)), some (vI (nI v)), some (vI (r + w)), some (vI (q + sp_last F G (nI v)))] [] (ma_lk x K1 (upd p k (nI v)) b1 Fs Gs fs) := by
      rw [bk_22_36, if_neg (by rw [hlen]; exact nI_ge (by omega) (by omega))]
      simp only [bk_22_43, bk_22_59, bk_22_71, ma_la_5 hk3, ma_if_pos hpl, ma_if_pos hin, ma_lk_f _ _ _ _ _ _ _ hk3, hpc, hcl, e3, hwr, hw1, hmin, ma_lk_up, nI_1, g1, ↓reduceIte, ma_bd_some, ma_bd_none, ma_tl1, ma_tl0, ma_ap1, ma_ap0, b2i_0, b2i_1, b2i_01, ma_l10, ma_l01, eq_self, true_or, or_true, not_true_eq_false, not_false_eq_true, Bool.false_eq_true]
    -- model from 117 to the call's return
    have hm1 : ∀ (S4 : Nat → Int32) (T4 : Nat → Nat → Int32), ma_cal (D + e + 6) 164 [vR 20 0 0, vI (nI (k + 1)), vI (nI d)] (ma_mh m (sp_mvF S (ma_uE T k 19 (nI v)) (nI v)) (sp_mvG S (ma_uE T k 19 (nI v)) (nI v))) = some (none, ma_mh m S4 T4) → sp_L (sp_getF S4 T4 18 (40 * k)) (sp_getG T4 18 (40 * k)) (v + 1) = t → sp_ok (sp_getF S4 T4 18 (40 * k)) (sp_getG T4 18 (40 * k)) → ma_ex (D + e + 6) 164 117 [some (vR 20 0 0), some (vI (nI k)), some (vI (nI d)), some (vI u3), some (vI (sp_hd (v :: t)))] [] (ma_mh m S T) = ma_ex (D + e + 6) 164 117 [some (vR 20 0 0), some (vI (nI k)), some (vI (nI d)), some (vI u3), some (vI (sp_hd t))] [] (ma_mh m (sp_getF S4 T4 18 (40 * k)) (sp_getG T4 18 (40 * k))) := fun S4 T4 hc hL hk5 => by
      have hs : sp_hd (v :: t) = nI v := rfl
      have hget := cm_all_get (D + e + 4) 18 (40 * k) m S4 T4 (by omega) (by show 40 * k + 32 ≤ 160; omega) (by decide)
      have hab := cm_above (D + e + 1) (v + 1) (nI v) (ma_mh m (sp_getF S4 T4 18 (40 * k)) (sp_getG T4 18 (40 * k))) (by rw [ma_mh_F1, ma_mh_G]; exact hk5) (nI_1 v) (by omega)
      rw [ma_mh_F1, ma_mh_G, hL] at hab
      rw [hs, bk_164_117, if_neg (of_eq_false hne)]
      simp only [bk_164_123, bk_164_137, bk_164_145, bk_164_158, bk_164_164, ma_if_pos hin, hcl, ma_mh_uE, hmv, nI_1, hc, nI_40 (show k ≤ 3 by omega), hget, hab, ↓reduceIte, ma_bd_some, ma_bd_none, ma_tl1, ma_tl0, ma_ap1, ma_ap0, b2i_0, b2i_1, b2i_01, ma_l10, ma_l01, eq_self, true_or, or_true, not_true_eq_false, not_false_eq_true, Bool.false_eq_true]
    have hLs : ∀ (S4 : Nat → Int32) (T4 : Nat → Nat → Int32), sp_LI k S0 (sp_getF S4 T4 18 (40 * k)) T0 (sp_getG T4 18 (40 * k)) → sp_L (sp_getF S4 T4 18 (40 * k)) (sp_getG T4 18 (40 * k)) (v + 1) = t ∧ sp_ok (sp_getF S4 T4 18 (40 * k)) (sp_getG T4 18 (40 * k)) := fun S4 T4 hh => by
      have z := sp_LI_Re hh hR0
      exact ⟨by rw [← sp_Re_L z, ← ht], sp_Re_ok z hok⟩
    have hBget : ∀ (K b S4 : Nat → Int32) (T4 : Nat → Nat → Int32), sp_BR h0 M0 K b S4 T4 → sp_BR h0 M0 K b (sp_getF S4 T4 18 (40 * k)) (sp_getG T4 18 (40 * k)) := fun K b S4 T4 hb => by
      obtain ⟨b1, b2, b3, b4, b5, b6⟩ := hb
      have gF : ∀ q, 9 ≤ q → sp_getF S4 T4 18 (40 * k) q = S4 q := fun q hq => by unfold sp_getF; rw [if_neg (by omega)]
      refine ⟨by rw [gF 37 (by omega)]; exact b1, b2, b3, by rw [gF 38 (by omega)]; exact b4, by rw [gF 39 (by omega)]; exact b5, fun i hi => ?_⟩
      unfold sp_getG
      rw [if_neg (by omega)]
      exact b6 i hi
    by_cases hlast1 : k + 1 = d
    · -- no deeper
      have hm0 : ma_cal (D + e + 6) 164 [vR 20 0 0, vI (nI (k + 1)), vI (nI d)] (ma_mh m (sp_mvF S (ma_uE T k 19 (nI v)) (nI v)) (sp_mvG S (ma_uE T k 19 (nI v)) (nI v))) = some (none, ma_mh m S3 T3) := by
        rw [en_164, g2, bk_164_91, if_pos (by rw [hlast1]), bk_164_96]
      have hLI2 := sp_LI_back (mv := nI v) hn hS1 hLI (S4 := S3) (T4 := T3) g4 (fun r q a1 a2 a3 => g5 r q a3) (fun r hr => by
        rw [g5 r 18 (by omega), ma_mvG_7 _ _ _ _ _ (by omega)]; unfold ma_uE; rw [if_neg (by omega)]) (fun i hi => by
        rw [g5 i 19 (by omega), ma_mvG_7 _ _ _ _ _ (by omega)]; unfold ma_uE; rw [if_neg (by omega)])
      obtain ⟨z1, z2⟩ := hLs _ _ hLI2
      have hX2 : sp_frX k p0 (upd p k (nI v)) Fs0 Fs Gs0 Gs fs0 fs := ⟨fun i hi => by unfold upd; rw [if_neg (by omega)]; exact hX.1 i hi, hX.2.1, hX.2.2⟩
      obtain ⟨K', p', b', Fs', Gs', fs', S', T', y1, y2, y3, y4, y5⟩ := ih (pre ++ [v]) (v + 1) K1 (upd p k (nI v)) b1 Fs Gs fs (sp_getF S3 T3 18 (40 * k)) (sp_getG T3 18 (40 * k)) (some (vI (nI v))) (some (vI (r + w))) (some (vI (q + sp_last F G (nI v)))) (by rw [List.append_assoc]; exact hl) ht.symm e1 e2 e3 hX2 hLI2 (fun i hi => by rw [hX2.1 i hi, ← hX.1 i hi, hp i hi, hLI2.2.2.2 i hi, hLI.2.2.2 i hi]) (hBget _ _ _ _ g3)
      refine ⟨K', p', b', Fs', Gs', fs', S', T', ?_, ?_, y3, y4, y5⟩
      · rw [hc93, ← y1]
        have cd : (nI d ≤ nI (k + 1)) = True := eq_true (nI_le (by omega) (by omega))
        rw [List.length_append, List.length_singleton]
        simp only [bk_22_93, bk_22_139, nI_1, cd, ↓reduceIte, ma_bd_some, ma_bd_none, ma_tl1, ma_tl0, ma_ap1, ma_ap0, b2i_0, b2i_1, b2i_01, ma_l10, ma_l01, eq_self, true_or, or_true, not_true_eq_false, not_false_eq_true, Bool.false_eq_true]
      · rw [hm1 S3 T3 hm0 z1 z2, y2]
    · -- deeper
      have hk2 : k + 1 < 3 := by omega
      have hin2 : ma_in (nI (k + 1)) 3 := by
        have := nI_toInt (n := k + 1) (by omega)
        exact ma_inI (by omega) (by omega)
      have hcl2 : (nI (k + 1)).toNatClampNeg = k + 1 := nI_clamp (by omega)
      have hbec := cx_become (D + e + 3) (5 + (k + 1)) (5 + k) (ma_lk x K1 (upd p k (nI v)) b1 Fs Gs fs) (by omega) (by rw [ma_lk_F _ _ _ _ _ _ _ hk3, e1]; exact o1) (by rw [ma_lk_F _ _ _ _ _ _ _ hk3, e1]; exact o2)
      rw [ma_lk_F _ _ _ _ _ _ _ hk3, ma_lk_F _ _ _ _ _ _ _ hk2, ma_lk_G _ _ _ _ _ _ _ hk3, ma_lk_G _ _ _ _ _ _ _ hk2, e1, e2, ma_lk_sh _ _ _ _ _ _ _ hk2] at hbec
      have hRb := sp_bF_Re (Fs (k + 1)) F (Gs (k + 1)) G
      have hokb := sp_Re_ok hRb hok
      have hFb : sp_bF (Fs (k + 1)) F 1 = nI n := hF
      have hmayb : sp_may (sp_bF (Fs (k + 1)) F) (sp_bG (F 1) (Gs (k + 1)) G) (nI v) = true := by rw [← sp_Re_may _ hRb]; exact hmay
      generalize hFB : sp_bF (Fs (k + 1)) F = Fb at hbec hRb hokb hFb hmayb
      generalize hGB : sp_bG (F 1) (Gs (k + 1)) G = Gb at hbec hRb hokb hmayb
      have hmk := cx_make (D + e + 1) (5 + (k + 1)) (nI v) (ma_lk x K1 (upd p k (nI v)) b1 (ma_ix Fs (k + 1) Fb) (ma_ix Gs (k + 1) Gb) fs) (by rw [ma_lk_F _ _ _ _ _ _ _ hk2, ma_lk_G _ _ _ _ _ _ _ hk2, ma_ix_at, ma_ix_at]; exact hokb)
      rw [ma_lk_F _ _ _ _ _ _ _ hk2, ma_lk_G _ _ _ _ _ _ _ hk2, ma_ix_at, ma_ix_at, if_pos hmayb, ma_lk_sh _ _ _ _ _ _ _ hk2] at hmk
      have hix : ∀ {α : Type} (f : Nat → α) (a b : α), ma_ix (ma_ix f (k + 1) a) (k + 1) b = ma_ix f (k + 1) b := fun f a b => by
        funext i
        unfold ma_ix
        split <;> rfl
      rw [hix, hix] at hmk
      have hRm := sp_Re_mv hRb hM
      have hRc : ma_Re (sp_mvF Fb Gb (nI v)) S3 (sp_mvG Fb Gb (nI v)) T3 := ma_Re_S (ma_Re_trans (ma_Re_symm hRm) hR2) (fun q a c => g4 q (by omega) (by omega) (by omega)) (fun r q a c => g5 r q (by omega))
      have hokc := sp_mv_ok hokb hmayb
      have hsumc : sp_sum (fun j => sp_mvG Fb Gb (nI v) j 5) n = sp_sum (fun j => sp_mvG F G (nI v) j 5) n := sp_sum_congr n (fun j hj => (hRm.2 j (by rw [sp_mvF_1, hF, hni]; omega) 5 (by omega) (by omega)).symm)
      have hNR : sp_NR n h0 M0 B (k + 1) K1 (upd p k (nI v)) b1 (ma_ix Fs (k + 1) (sp_mvF Fb Gb (nI v)) (k + 1)) (ma_ix Gs (k + 1) (sp_mvG Fb Gb (nI v)) (k + 1)) S3 T3 (r + w) (q + sp_last F G (nI v)) := by
        rw [ma_ix_at, ma_ix_at]
        refine ⟨hRc, hokc, by rw [sp_mvF_1]; exact hFb, ?_, by rw [hsumc]; exact hr2, by rw [← hRm.1 4 (by omega) (by omega)]; exact hq2, fun i hi => by rw [hp2 i hi, g5 i 19 (by omega)], g3⟩
        have z := sp_rb2_mv (b := B + k) (nI v) (by omega) (sp_rb2_Re hRb hrb)
        intro j hj
        have := z j hj
        omega
      obtain ⟨K2, p2, b2, Fs2, Gs2, fs2, S4, T4, i1, i2, i3, i4, i5⟩ := IH (by omega) (k + 1) K1 (upd p k (nI v)) b1 (ma_ix Fs (k + 1) (sp_mvF Fb Gb (nI v))) (ma_ix Gs (k + 1) (sp_mvG Fb Gb (nI v))) fs S3 T3 (r + w) (q + sp_last F G (nI v)) w3 w4 (by omega) hNR
      rw [show D + (e - 1) + 6 = D + e + 5 by omega] at i1 i2
      have hm0 : ma_cal (D + e + 6) 164 [vR 20 0 0, vI (nI (k + 1)), vI (nI d)] (ma_mh m (sp_mvF S (ma_uE T k 19 (nI v)) (nI v)) (sp_mvG S (ma_uE T k 19 (nI v)) (nI v))) = some (none, ma_mh m S4 T4) := by
        have nd : ¬ nI (k + 1) = nI d := fun z => hlast1 ((nI_eq (by omega) (by omega)).mp z)
        rw [en_164, g2, bk_164_91, if_neg nd, i2]
      have hLI2 := sp_LI_back (mv := nI v) hn hS1 hLI (S4 := S4) (T4 := T4) (fun q a1 a2 a3 => by rw [i5.1 q a1 a2 a3, g4 q a1 a2 a3]) (fun r q a1 a2 a3 => by rw [i5.2.1 r q a1 a2 a3, g5 r q a3]) (fun r hr => by
        rw [i5.2.2.1 r hr, g5 r 18 (by omega), ma_mvG_7 _ _ _ _ _ (by omega)]; unfold ma_uE; rw [if_neg (by omega)]) (fun i hi => by
        rw [i5.2.2.2 i (by omega), g5 i 19 (by omega), ma_mvG_7 _ _ _ _ _ (by omega)]; unfold ma_uE; rw [if_neg (by omega)])
      obtain ⟨z1, z2⟩ := hLs _ _ hLI2
      have hne1 : ∀ j, j ≤ k → j ≠ k + 1 := fun j hj => by omega
      have hX2 : sp_frX k p0 p2 Fs0 Fs2 Gs0 Gs2 fs0 fs2 := ⟨fun i hi => by rw [i4.1 i (by omega)]; unfold upd; rw [if_neg (by omega)]; exact hX.1 i hi, fun j hj => ⟨by rw [(i4.2.1 j (by omega)).1, ma_ix_ne (hne1 j hj)]; exact (hX.2.1 j hj).1, by rw [(i4.2.1 j (by omega)).2, ma_ix_ne (hne1 j hj)]; exact (hX.2.1 j hj).2⟩, fun j hj => by rw [i4.2.2 j (by omega)]; exact hX.2.2 j hj⟩
      have f1 : Fs2 k = F := by rw [(i4.2.1 k (by omega)).1, ma_ix_ne (by omega)]; exact e1
      have f2 : Gs2 k = G := by rw [(i4.2.1 k (by omega)).2, ma_ix_ne (by omega)]; exact e2
      have f3 : fs2 k = sp_wr old (sp_L F G 0) := by rw [i4.2.2 k (by omega)]; exact e3
      obtain ⟨K', p', b', Fs', Gs', fs', S', T', y1, y2, y3, y4, y5⟩ := ih (pre ++ [v]) (v + 1) K2 p2 b2 Fs2 Gs2 fs2 (sp_getF S4 T4 18 (40 * k)) (sp_getG T4 18 (40 * k)) (some (vI (nI v))) (some (vI (r + w))) (some (vI (q + sp_last F G (nI v)))) (by rw [List.append_assoc]; exact hl) ht.symm f1 f2 f3 hX2 hLI2 (fun i hi => by rw [hX2.1 i hi, ← hX.1 i hi, hp i hi, hLI2.2.2.2 i hi, hLI.2.2.2 i hi]) (hBget _ _ _ _ i3)
      refine ⟨K', p', b', Fs', Gs', fs', S', T', ?_, ?_, y3, y4, y5⟩
      · rw [hc93, ← y1]
        have cd : (nI d ≤ nI (k + 1)) = False := eq_false (nI_ge (by omega) (by omega))
        rw [List.length_append, List.length_singleton]
        simp only [bk_22_93, bk_22_100, bk_22_113, bk_22_126, bk_22_139, nI_1, cd, ma_if_pos hin2, hcl2, hbec, hmk, i1, ↓reduceIte, ma_bd_some, ma_bd_none, ma_tl1, ma_tl0, ma_ap1, ma_ap0, b2i_0, b2i_1, b2i_01, ma_l10, ma_l01, eq_self, true_or, or_true, not_true_eq_false, not_false_eq_true, Bool.false_eq_true]
      · rw [hm1 S4 T4 hm0 z1 z2, y2]
