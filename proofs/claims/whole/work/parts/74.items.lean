/-! PART 74: HILLS from texts: an item on both sides. -/
def sp_HR (B : Int) (F : Nat → Int32) (G : Nat → Nat → Int32) (S : Nat → Int32) (T : Nat → Nat → Int32) : Prop := ma_Re F S G T ∧ sp_ok F G ∧ sp_rb2 B F G
theorem sp_HR_S {B : Int} {F S S' : Nat → Int32} {G T T' : Nat → Nat → Int32} (h : sp_HR B F G S T) (h1 : ∀ k, 1 ≤ k → k ≤ 8 → S' k = S k) (h2 : ∀ r k, 1 ≤ k → k ≤ 6 → T' r k = T r k) : sp_HR B F G S' T' := ⟨ma_Re_S h.1 h1 h2, h.2⟩
theorem sp_HR_B {B B' : Int} {F S : Nat → Int32} {G T : Nat → Nat → Int32} (hB : B ≤ B') (h : sp_HR B F G S T) : sp_HR B' F G S T := ⟨h.1, h.2.1, fun r hr => by
  have := h.2.2 r hr
  omega⟩
theorem sp_HR_uF {B : Int} {k : Nat} {v : Int32} {F S : Nat → Int32} {G T : Nat → Nat → Int32} (h1 : 2 ≤ k) (h4 : k = 4 → 0 ≤ v.toInt ∧ v.toInt ≤ 999) (h6 : k = 6 ∨ k = 7 → 1 ≤ v.toInt ∧ v.toInt ≤ 9) (h : sp_HR B F G S T) : sp_HR B (upd F k v) G (upd S k v) T := by
  have e1 : upd F k v 1 = F 1 := if_neg (by omega)
  refine ⟨⟨fun q a b => ?_, fun r hr => h.1.2 r (by rw [e1] at hr; exact hr)⟩, sp_ok_uF h.2.1 h1 h4 h6, fun r hr => h.2.2 r (by rw [e1] at hr; exact hr)⟩
  unfold upd
  split
  · rfl
  · exact h.1.1 q a b
theorem sp_HR_where {B : Int} {F S : Nat → Int32} {G T : Nat → Nat → Int32} (r : Nat) {w : Int32} (hw : w = 0 ∨ w = 1) (h : sp_HR B F G S T) : sp_HR B F (ma_uG G r (upd (G r) 3 w)) S (ma_uE T r 3 w) := by
  obtain ⟨⟨hF, hG⟩, ⟨a1, a2, a3, a4, a5, a6, a7, a8, hr⟩, hb⟩ := h
  have eg : ∀ q k, ma_uG G r (upd (G r) 3 w) q k = if q = r ∧ k = 3 then w else G q k := fun q k => by
    unfold ma_uG upd
    by_cases c : q = r
    · subst c
      by_cases c2 : k = 3
      · simp [c2]
      · simp [c2]
    · simp [c]
  refine ⟨⟨hF, fun q hq k a b => ?_⟩, ⟨a1, a2, a3, a4, a5, a6, a7, a8, fun q hq => ?_⟩, fun q hq => ?_⟩
  · rw [eg]
    unfold ma_uE
    split
    · rfl
    · exact hG q hq k a b
  · obtain ⟨b1, b2, b3, b4⟩ := hr q hq
    have g1 : ma_uG G r (upd (G r) 3 w) q 1 = G q 1 := by rw [eg, if_neg (by omega)]
    have g2 : ma_uG G r (upd (G r) 3 w) q 2 = G q 2 := by rw [eg, if_neg (by omega)]
    have g4 : ma_uG G r (upd (G r) 3 w) q 4 = G q 4 := by rw [eg, if_neg (by omega)]
    rw [g1, g2, g4]
    refine ⟨b1, b2, ?_, b4⟩
    rw [eg]
    split
    · exact hw
    · exact b3
  · rw [eg, if_neg (by omega)]
    exact hb q hq
theorem sp_HR_mv {B : Int} {F S : Nat → Int32} {G T : Nat → Nat → Int32} {m : Int32} (hB : B < 10000000) (hm : sp_may F G m = true) (h : sp_HR B F G S T) : sp_HR (B + 1) (sp_mvF F G m) (sp_mvG F G m) (sp_mvF S T m) (sp_mvG S T m) := ⟨sp_Re_mv h.1 ((sp_may_iff _ _ _).mp hm).1, sp_mv_ok h.2.1 hm, sp_rb2_mv m (by omega) h.2.2⟩
theorem sp_HR_add {B : Int} {n : Nat} {kind a : Int32} {F S : Nat → Int32} {G T : Nat → Nat → Int32} (hB : 0 ≤ B) (hF : F 1 = nI n) (hn : n < 4) (hk : 0 ≤ kind.toInt ∧ kind.toInt ≤ 6) (ha : 0 ≤ a.toInt ∧ a.toInt ≤ 9) (h : sp_HR B F G S T) : sp_HR B (upd F 1 (nI (n + 1))) (ma_uG G n (sp_newR kind a (G n))) (upd S 1 (nI (n + 1))) (ma_uG T n (sp_newR kind a (T n))) := by
  obtain ⟨hR, hok, hb⟩ := h
  have hni := nI_toInt (n := n) (by omega)
  have hni1 := nI_toInt (n := n + 1) (by omega)
  have eg : ∀ (U : Nat → Nat → Int32) r, ma_uG U n (sp_newR kind a (U n)) r = if r = n then sp_newR kind a (U n) else U r := fun U r => rfl
  have hlt : ∀ r : Nat, r ≠ n → (r : Int) < (upd F 1 (nI (n + 1)) 1).toInt → (r : Int) < (F 1).toInt := fun r h1 h2 => by
    have z : (r : Int) < (nI (n + 1)).toInt := h2
    rw [hF]
    omega
  refine ⟨⟨fun q a1 a2 => ?_, fun r hr k a1 a2 => ?_⟩, ?_, fun r hr => ?_⟩
  · unfold upd
    split
    · rfl
    · exact hR.1 q a1 a2
  · rw [eg, eg]
    by_cases c : r = n
    · rw [if_pos c, if_pos c]
      exact sp_newR_congr kind a (G n) (T n) k a1 a2
    · rw [if_neg c, if_neg c]
      exact hR.2 r (hlt r c hr) k a1 a2
  · obtain ⟨a1, a2, a3, a4, a5, a6, a7, a8, hr⟩ := hok
    have e1 : upd F 1 (nI (n + 1)) 1 = nI (n + 1) := rfl
    have e4 : upd F 1 (nI (n + 1)) 4 = F 4 := rfl
    have e6 : upd F 1 (nI (n + 1)) 6 = F 6 := rfl
    have e7 : upd F 1 (nI (n + 1)) 7 = F 7 := rfl
    unfold sp_ok
    rw [e1, e4, e6, e7]
    refine ⟨by omega, by omega, a3, a4, a5, a6, a7, a8, fun r hlr => ?_⟩
    rw [eg]
    by_cases c : r = n
    · rw [if_pos c]
      have n1 : sp_newR kind a (G n) 1 = kind := rfl
      have n2 : sp_newR kind a (G n) 2 = a := rfl
      have n3 : sp_newR kind a (G n) 3 = 0 := rfl
      have n4 : sp_newR kind a (G n) 4 = 0 := rfl
      rw [n1, n2, n3, n4]
      exact ⟨hk, ha, Or.inl rfl, by decide, by decide⟩
    · rw [if_neg c]
      exact hr r (hlt r c hlr)
  · rw [eg]
    by_cases c : r = n
    · rw [if_pos c]
      have n5 : sp_newR kind a (G n) 5 = 0 := rfl
      rw [n5]
      have e0 : (0 : Int32).toInt = 0 := rfl
      omega
    · rw [if_neg c]
      exact hb r (hlt r c hr)
def sp_frS (S S' : Nat → Int32) : Prop := ∀ q, 9 ≤ q → q ≠ 27 → q ≠ 29 → q ≠ 30 → S' q = S q
def sp_frT (T T' : Nat → Nat → Int32) : Prop := ∀ r q, 7 ≤ q → q ≠ 14 → T' r q = T r q
def sp_itF (Z : Nat) (x m : ma_S) (L S : Nat → Int32) (T : Nat → Nat → Int32) (cx cm : Option ma_R) : Prop := ∃ (p : Nat) (R' F' : Nat → Int32) (G' : Nat → Nat → Int32) (S' : Nat → Int32) (T' : Nat → Nat → Int32), p < 1000 ∧ cx = some (none, ma_rd x R' L F' G') ∧ R' 2 = nI Z ∧ R' 4 = nI p ∧ cm = some (some (vI 0), ma_mh m S' T') ∧ S' 30 = nI p ∧ sp_frS S S' ∧ sp_frT T T'
def sp_itS (Z : Nat) (B : Int) (a : Nat) (x m : ma_S) (L F S : Nat → Int32) (T : Nat → Nat → Int32) (cx cm : Option ma_R) : Prop := ∃ (a' : Nat) (R' F' : Nat → Int32) (G' : Nat → Nat → Int32) (S' : Nat → Int32) (T' : Nat → Nat → Int32), a < a' ∧ a' ≤ Z ∧ cx = some (none, ma_rd x R' L F' G') ∧ R' 2 = nI Z ∧ R' 4 = -1 ∧ R' 3 = nI a' ∧ cm = some (some (vI 1), ma_mh m S' T') ∧ S' 27 = nI a' ∧ sp_frS S S' ∧ sp_frT T T' ∧ sp_HR (B + 1) F' G' S' T' ∧ (F 1).toInt ≤ (F' 1).toInt
theorem sp_fr_27 {S S' : Nat → Int32} {v : Int32} (h : sp_f3 (upd S 27 v) S') : sp_f3 S S' := fun q a b c => by
  rw [h q a b c]
  unfold upd
  rw [if_neg a]
theorem sp_fr_f3 {S S' : Nat → Int32} (h : sp_f3 S S') : sp_frS S S' := fun q _ a b c => h q a b c
theorem sp_frT_uE {T : Nat → Nat → Int32} (i : Nat) (v : Int32) : sp_frT T (ma_uE T i 14 v) := fun r q _ h => by
  unfold ma_uE
  rw [if_neg (fun z => h z.2)]
theorem sp_frT_t {T T' T'' : Nat → Nat → Int32} (h : sp_frT T T') (h' : sp_frT T' T'') : sp_frT T T'' := fun r q a b => (h' r q a b).trans (h r q a b)
theorem item_sim (d e Z s a : Nat) (B : Int) (x m : ma_S) (L R F S : Nat → Int32) (G T : Nat → Nat → Int32) (ha : a ≤ Z) (hB : 0 ≤ B ∧ B ≤ 1000000) (hZ : R 2 = nI Z) (h3 : R 3 = nI a) (h4 : R 4 = -1) (hM : sp_MT m L Z s S T) (h27 : S 27 = nI a) (hH : sp_HR B F G S T) : sp_itF Z x m L S T (ma_cal (d + 6) 25 [vR 7 0 0] (ma_rd x R L F G)) (ma_cal (e + 6) 142 [vR 20 0 0] (ma_mh m S T)) ∨ sp_itS Z B a x m L F S T (ma_cal (d + 6) 25 [vR 7 0 0] (ma_rd x R L F G)) (ma_cal (e + 6) 142 [vR 20 0 0] (ma_mh m S T)) := by
  have h160 : Z ≤ 160 := hM.2.2.1
  obtain ⟨n, hn, hF⟩ := sp_n_of hH.2.1
  have hni := nI_toInt (n := n) (by omega)
  have hS1 : S 1 = nI n := (hH.1.1 1 (by omega) (by omega)).symm.trans hF
  rcases sp_link L Z a with ⟨e1, e2, e3⟩ | ⟨w0, hw, h0, f1, f2, f3⟩
  · -- no word
    left
    have hk7 := sp_rw_lo L Z a 8 0 0 (by omega) (by omega)
    exact ⟨a + (sp_rw L Z a 8 0 0).2, _, F, G, _, T, by omega, cx_item_none d Z x L F G R a (by omega) hZ h160 h3 h4 e1, hZ, rfl, cm_item_none e Z s m L S T a (by omega) hM h27 e1, rfl, fun q a1 a2 a3 a4 => by unfold upd; rw [if_neg a4], fun _ _ _ _ => rfl⟩
  · have h7 := sp_lw8 w0 hw
    have hcw := cx_item_word d Z x L F G R a w0 (by omega) hZ h160 h3 h4 hw h0
    by_cases hroom : w0 = 0 ∧ S 1 = 4
    · -- no room
      left
      obtain ⟨rfl, h14⟩ := hroom
      have hF4 : F 1 = 4 := by rw [hF, ← hS1]; exact h14
      obtain ⟨R', i1, i2, i3⟩ := cx_readRider_full (d + 1) x L F G (upd R 3 (nI (a + ma_lw 0))) a (by omega) hF4
      refine ⟨a, R', F, G, _, T, by omega, ?_, i2.trans hZ, i3, cm_item_room e Z s m L S T a (by omega) hM h27 h0 h14, rfl, fun q a1 a2 a3 a4 => by unfold upd; rw [if_neg a4], fun _ _ _ _ => rfl⟩
      have z1 : sp_pcw 0 = 64 := rfl
      rw [hcw, z1]
      simp only [bk_25_64, bk_25_69, bk_25_230, i1, ↓reduceIte, ma_bd_some, ma_bd_none, ma_tl1, ma_tl0, ma_ap1, ma_ap0, b2i_0, b2i_1, b2i_01, ma_l10, ma_l01, eq_self, true_or, or_true, not_true_eq_false, not_false_eq_true, Bool.false_eq_true]
    obtain ⟨mw1, mw2⟩ := cm_item_word e Z s m L S T a w0 (by omega) hM h27 hw h0 hroom
    -- the class behind the word
    have a3' : upd R 3 (nI (a + ma_lw w0)) 3 = nI (a + ma_lw w0) := rfl
    have a4' : upd R 3 (nI (a + ma_lw w0)) 4 = -1 := h4
    have a2' : upd R 3 (nI (a + ma_lw w0)) 2 = nI Z := hZ
    have hM1 : sp_MT m L Z s (upd S 27 (nI (a + ma_lw w0 + 1))) T := sp_MT_S hM rfl rfl
    -- a fault of both
    have mkF : ∀ (f : Nat) (R' F' : Nat → Int32) (G' : Nat → Nat → Int32) (S' : Nat → Int32) (T' : Nat → Nat → Int32), f < 1000 → ma_ex (d + 5) 25 (sp_pcw w0) [some (vR 7 0 0), some (vI (nI a)), none] [] (ma_rd x (upd R 3 (nI (a + ma_lw w0))) L F G) = some (none, ma_rd x R' L F' G') → R' 2 = nI Z → R' 4 = nI f → ma_cal (e + 6) 142 [vR 20 0 0] (ma_mh m S T) = some (some (vI 0), ma_mh m S' T') → S' 30 = nI f → sp_frS S S' → sp_frT T T' → sp_itF Z x m L S T (ma_cal (d + 6) 25 [vR 7 0 0] (ma_rd x R L F G)) (ma_cal (e + 6) 142 [vR 20 0 0] (ma_mh m S T)) := fun f R' F' G' S' T' q0 q1 q2 q3 q4 q5 q6 q7 => ⟨f, R', F', G', S', T', q0, hcw.trans q1, q2, q3, q4, q5, q6, q7⟩
    have hnb : ∀ l h, sp_lt L Z (a + ma_lw w0) ≠ 32 → sp_rn L Z l h (a + ma_lw w0) = .inl (a + ma_lw w0) := fun l h z => if_neg z
    have frn : ∀ v, sp_frS S (upd S 30 v) := fun v q a1 a2 a3 a4 => by unfold upd; rw [if_neg a4]
    have fb : ∀ {l h : Int32} {f : Nat}, sp_rn L Z l h (a + ma_lw w0) = .inl f → f < 1000 := fun e => by
      have := sp_rn_f e
      omega
    have fb2 : ∀ {l h : Int32} {f p : Nat}, p ≤ Z → sp_rn L Z l h p = .inl f → f < 1000 := fun hp e => by
      have := sp_rn_f e
      omega
    have HS : ∀ {S' : Nat → Int32} {T' : Nat → Nat → Int32}, sp_f3 S S' → (∀ r k, 1 ≤ k → k ≤ 6 → T' r k = T r k) → sp_HR B F G S' T' := fun h1 h2 => sp_HR_S hH (fun k a b => h1 k (by omega) (by omega) (by omega)) h2
    have u14 : ∀ (T : Nat → Nat → Int32) (i : Nat) (v : Int32) (r k : Nat), 1 ≤ k → k ≤ 6 → ma_uE T i 14 v r k = T r k := fun T i v r k a b => by unfold ma_uE; rw [if_neg (by omega)]
    have e0 : (0 : Int32).toInt = 0 := rfl
    have e1 : (1 : Int32).toInt = 1 := rfl
    have e3 : (3 : Int32).toInt = 3 := rfl
    have e6 : (6 : Int32).toInt = 6 := rfl
    have e9 : (9 : Int32).toInt = 9 := rfl
    have e99 : (99 : Int32).toInt = 99 := rfl
    have e999 : (999 : Int32).toInt = 999 := rfl
    rcases (show w0 = 0 ∨ (w0 = 1 ∨ w0 = 2) ∨ w0 = 3 ∨ (w0 = 4 ∨ w0 = 5) ∨ w0 = 6 ∨ w0 = 7 by omega) with c | c | c | c | c | c
    · -- rider
      subst c
      have hn4 : n < 4 := by
        apply Decidable.of_not_not
        intro z
        exact hroom ⟨rfl, by rw [hS1, show n = 4 by omega]; rfl⟩
      have z1 : sp_pcw 0 = 64 := rfl
      obtain ⟨r1, r2⟩ := cx_readRider (d + 1) Z x L F G (upd R 3 (nI (a + ma_lw 0))) (a + ma_lw 0) n (nI a) (by omega) a2' h160 a3' a4' hF hn4
      have wrap : ∀ τ, ma_cal (d + 5) 26 [vR 7 0 0, vI (nI a)] (ma_rd x (upd R 3 (nI (a + ma_lw 0))) L F G) = some (none, τ) → ma_ex (d + 5) 25 (sp_pcw 0) [some (vR 7 0 0), some (vI (nI a)), none] [] (ma_rd x (upd R 3 (nI (a + ma_lw 0))) L F G) = some (none, τ) := fun τ hτ => by
        rw [z1]
        simp only [bk_25_64, bk_25_69, bk_25_230, hτ, ↓reduceIte, ma_bd_some, ma_bd_none, ma_tl1, ma_tl0, ma_ap1, ma_ap0, b2i_0, b2i_1, b2i_01, ma_l10, ma_l01, eq_self, true_or, or_true, not_true_eq_false, not_false_eq_true, Bool.false_eq_true]
      by_cases hbl : sp_lt L Z (a + ma_lw 0) = 32
      · obtain ⟨t1, t2⟩ := cm_item_2 e Z s m L (upd S 27 (nI (a + ma_lw 0 + 1))) T (a + ma_lw 0) 0 (fun v => decide (0 ≤ v ∧ v ≤ 6)) (fun v => decide (0 ≤ v ∧ v ≤ 9)) 0 6 0 9 (Or.inl rfl) (by omega) hM1 rfl hbl (fun v => by rw [decide_eq_true_iff]) (fun S' v h29 hv _ _ => by rw [nI_0]; exact cm_so_00 e m S' T v h29 hv)
        cases hr : sp_rn L Z 0 6 (a + ma_lw 0) with
        | inl f =>
          left
          obtain ⟨R', i1, i2, i3⟩ := r1 f hr
          obtain ⟨S', j1, j2, j3⟩ := t1 f hr
          exact mkF f R' F G S' T (fb hr) (wrap _ i1) i2 i3 ((mw1 hbl).trans j1) j2 (sp_fr_f3 (sp_fr_27 j3)) (fun _ _ _ _ => rfl)
        | inr q =>
          obtain ⟨p, v⟩ := q
          have hin := sp_rn_in hr
          obtain ⟨r3, r4⟩ := r2 p v hr
          obtain ⟨t3, t4⟩ := t2 p v hr (fun v => by rw [decide_eq_true_iff]) (fun S1 hS1 S' v2 h29 hv _ _ => by rw [nI_0]; exact cm_so_01 e m S' _ v2 h29 hv)
          cases hr2 : sp_rn L Z 0 9 p with
          | inl f =>
            left
            obtain ⟨R', i1, i2, i3⟩ := r3 f hr2
            obtain ⟨S', j1, j2, j3⟩ := t3 f hr2
            exact mkF f R' F G S' _ (fb2 (by omega) hr2) (wrap _ i1) i2 i3 ((mw1 hbl).trans j1) j2 (sp_fr_f3 (sp_fr_27 j3)) (sp_frT_uE 0 v)
          | inr q =>
            right
            obtain ⟨p2, v2⟩ := q
            have hin2 := sp_rn_in hr2
            obtain ⟨R', i1, i2, i3, i4⟩ := r4 p2 v2 hr2
            obtain ⟨S', u3, j1, j2, j3⟩ := t4 p2 v2 hr2
            have j4 := sp_fr_27 j3
            have hfin := cm_fin_0 e m S' (ma_uE (ma_uE T 0 14 v) 1 14 v2) n (nI 2) u3 v v2 (by rw [j4 1 (by omega) (by omega) (by omega)]; exact hS1) hn4 rfl rfl
            have hv : v.toInt ≤ 6 := by have := ma_le.mp hin.2.2.2.2.1; omega
            have hv2 : v2.toInt ≤ 9 := by have := ma_le.mp hin2.2.2.2.2.1; omega
            refine ⟨p2, R', _, _, _, _, by omega, by omega, hcw.trans (wrap _ i1), i2, i3, i4, ((mw1 hbl).trans j1).trans hfin, j2, fun q a1 a2 a3 a4 => ?_, fun r q a1 a2 => ?_, sp_HR_B (by omega) (sp_HR_add hB.1 hF hn4 ⟨hin.2.2.2.2.2.1, hv⟩ ⟨hin2.2.2.2.2.2.1, hv2⟩ (HS j4 (fun r k a b => by rw [u14 _ _ _ _ _ a b, u14 _ _ _ _ _ a b]))), ?_⟩
            · unfold upd
              rw [if_neg (by omega)]
              exact j4 q a2 a3 a4
            · unfold ma_uG
              split
              · rename_i z
                subst z
                have : sp_newR v v2 (ma_uE (ma_uE T 0 14 v) 1 14 v2 r) q = ma_uE (ma_uE T 0 14 v) 1 14 v2 r q := by
                  unfold sp_newR
                  rw [if_neg (by omega), if_neg (by omega), if_neg (by omega)]
                rw [this]
                exact (sp_frT_t (sp_frT_uE 0 v) (sp_frT_uE 1 v2)) r q a1 a2
              · exact (sp_frT_t (sp_frT_uE 0 v) (sp_frT_uE 1 v2)) r q a1 a2
            · show (F 1).toInt ≤ (nI (n + 1)).toInt
              have := nI_toInt (n := n + 1) (by omega)
              rw [hF]; omega
      · left
        obtain ⟨R', i1, i2, i3⟩ := r1 _ (hnb 0 6 hbl)
        exact mkF (a + ma_lw 0) R' F G _ T (by omega) (wrap _ i1) i2 i3 (mw2 hbl) rfl (frn _) (fun _ _ _ _ => rfl)
    · -- top, foot
      obtain ⟨r1, r2⟩ := cx_w12 d Z x L F G (upd R 3 (nI (a + ma_lw w0))) (a + ma_lw w0) n w0 (nI a) c (by omega) a2' h160 a3' a4' hF hn
      by_cases hbl : sp_lt L Z (a + ma_lw w0) = 32
      · obtain ⟨t1, t2⟩ := cm_item_1 e Z s m L (upd S 27 (nI (a + ma_lw w0 + 1))) T (a + ma_lw w0) w0 (fun v => decide (0 ≤ v ∧ v ≤ nI n - 1)) 0 (nI n - 1) (by rcases c with c | c; exact Or.inl c; exact Or.inr (Or.inl c)) (by omega) hM1 rfl hbl (fun v => by rw [decide_eq_true_iff]) (fun S' v h29 hv _ h3f => cm_so_12 e m S' T v w0 n c hn (by rw [h3f 1 (by omega) (by omega) (by omega)]; exact hS1) h29 hv)
        cases hr : sp_rn L Z 0 (nI n - 1) (a + ma_lw w0) with
        | inl f =>
          left
          obtain ⟨R', i1, i2, i3⟩ := r1 f hr
          obtain ⟨S', j1, j2, j3⟩ := t1 f hr
          exact mkF f R' F G S' T (fb hr) i1 i2 i3 ((mw1 hbl).trans j1) j2 (sp_fr_f3 (sp_fr_27 j3)) (fun _ _ _ _ => rfl)
        | inr q =>
          right
          obtain ⟨p, v⟩ := q
          have hin := sp_rn_in hr
          obtain ⟨R', i1, i2, i3, i4⟩ := r2 p v hr
          obtain ⟨S', u3, j1, j2, j3⟩ := t2 p v hr
          have j4 := sp_fr_27 j3
          have hv2 := ma_le.mp hin.2.2.2.2.1
          rw [ma_sub (by omega) (by omega)] at hv2
          have hv4 : ma_in v 4 := ma_inI hin.2.2.2.2.2.1 (by omega)
          have hfin := cm_fin_12 e m S' (ma_uE T 0 14 v) w0 (nI 1) u3 v c hv4 rfl
          refine ⟨p, R', F, _, S', _, by omega, by omega, hcw.trans i1, i2, i3, i4, ((mw1 hbl).trans j1).trans hfin, j2, sp_fr_f3 j4, fun r q a1 a2 => ?_, sp_HR_B (by omega) (sp_HR_where v.toNatClampNeg (by split; exact Or.inr rfl; exact Or.inl rfl) (HS j4 (fun r k a b => u14 _ _ _ _ _ a b))), Int.le_refl _⟩
          unfold ma_uE
          rw [if_neg (by omega), if_neg (by omega)]
      · left
        obtain ⟨R', i1, i2, i3⟩ := r1 _ (hnb 0 (nI n - 1) hbl)
        exact mkF (a + ma_lw w0) R' F G _ T (by omega) i1 i2 i3 (mw2 hbl) rfl (frn _) (fun _ _ _ _ => rfl)
    · -- sledges
      subst c
      obtain ⟨r1, r2⟩ := cx_w3 d Z x L F G (upd R 3 (nI (a + ma_lw 3))) (a + ma_lw 3) (nI a) (by omega) a2' h160 a3' a4'
      by_cases hbl : sp_lt L Z (a + ma_lw 3) = 32
      · cases hr : sp_rn L Z 0 3 (a + ma_lw 3) with
        | inl f =>
          left
          obtain ⟨t1, -⟩ := cm_item_2 e Z s m L (upd S 27 (nI (a + ma_lw 3 + 1))) T (a + ma_lw 3) 3 (fun v => decide (0 ≤ v ∧ v ≤ 3)) (fun _ => true) 0 3 0 0 (Or.inr (Or.inl rfl)) (by omega) hM1 rfl hbl (fun v => by rw [decide_eq_true_iff]) (fun S' v h29 hv _ _ => cm_so_30 e m S' T v h29 hv)
          obtain ⟨R', F', i1, i2, i3⟩ := r1 f hr
          obtain ⟨S', j1, j2, j3⟩ := t1 f hr
          exact mkF f R' F' G S' T (fb hr) i1 i2 i3 ((mw1 hbl).trans j1) j2 (sp_fr_f3 (sp_fr_27 j3)) (fun _ _ _ _ => rfl)
        | inr q =>
          obtain ⟨p, v⟩ := q
          have hin := sp_rn_in hr
          obtain ⟨r3, r4⟩ := r2 p v hr
          have hv : v.toInt ≤ 3 := by have := ma_le.mp hin.2.2.2.2.1; omega
          obtain ⟨-, t2⟩ := cm_item_2 e Z s m L (upd S 27 (nI (a + ma_lw 3 + 1))) T (a + ma_lw 3) 3 (fun v => decide (0 ≤ v ∧ v ≤ 3)) (fun w => decide (0 ≤ w ∧ w ≤ 3 - v)) 0 3 0 (3 - v) (Or.inr (Or.inl rfl)) (by omega) hM1 rfl hbl (fun v => by rw [decide_eq_true_iff]) (fun S' v h29 hv _ _ => cm_so_30 e m S' T v h29 hv)
          obtain ⟨t3, t4⟩ := t2 p v hr (fun v => by rw [decide_eq_true_iff]) (fun S1 hS1 S' v2 h29 hv2 hv3 _ => cm_so_31 e m S' _ v2 v ⟨hin.2.2.2.2.2.1, hv⟩ rfl h29 hv2 hv3)
          cases hr2 : sp_rn L Z 0 (3 - v) p with
          | inl f =>
            left
            obtain ⟨R', F', i1, i2, i3⟩ := r3 f hr2
            obtain ⟨S', j1, j2, j3⟩ := t3 f hr2
            exact mkF f R' F' G S' _ (fb2 (by omega) hr2) i1 i2 i3 ((mw1 hbl).trans j1) j2 (sp_fr_f3 (sp_fr_27 j3)) (sp_frT_uE 0 v)
          | inr q =>
            right
            obtain ⟨p2, v2⟩ := q
            have hin2 := sp_rn_in hr2
            obtain ⟨R', i1, i2, i3, i4⟩ := r4 p2 v2 hr2
            obtain ⟨S', u3, j1, j2, j3⟩ := t4 p2 v2 hr2
            have j4 := sp_fr_27 j3
            have hfin := cm_fin_3 e m S' (ma_uE (ma_uE T 0 14 v) 1 14 v2) (nI 2) u3 v v2 rfl rfl
            refine ⟨p2, R', _, G, _, _, by omega, by omega, hcw.trans i1, i2, i3, i4, ((mw1 hbl).trans j1).trans hfin, j2, fun q a1 a2 a3 a4 => ?_, sp_frT_t (sp_frT_uE 0 v) (sp_frT_uE 1 v2), sp_HR_B (by omega) (sp_HR_uF (by omega) (by omega) (by omega) (sp_HR_uF (by omega) (by omega) (by omega) (HS j4 (fun r k a b => by rw [u14 _ _ _ _ _ a b, u14 _ _ _ _ _ a b])))), Int.le_refl _⟩
            unfold upd
            rw [if_neg (by omega), if_neg (by omega)]
            exact j4 q a2 a3 a4
      · left
        obtain ⟨R', F', i1, i2, i3⟩ := r1 _ (hnb 0 3 hbl)
        exact mkF (a + ma_lw 3) R' F' G _ T (by omega) i1 i2 i3 (mw2 hbl) rfl (frn _) (fun _ _ _ _ => rfl)
    · -- minutes, pennies
      obtain ⟨r1, r2⟩ := cx_w45 d Z x L F G (upd R 3 (nI (a + ma_lw w0))) (a + ma_lw w0) w0 (nI a) c (by omega) a2' h160 a3' a4'
      by_cases hbl : sp_lt L Z (a + ma_lw w0) = 32
      · obtain ⟨t1, t2⟩ := cm_item_1 e Z s m L (upd S 27 (nI (a + ma_lw w0 + 1))) T (a + ma_lw w0) w0 (fun v => decide (0 ≤ v ∧ v ≤ (if w0 = 4 then 999 else 99))) 0 (if w0 = 4 then 999 else 99) (by rcases c with c | c; exact Or.inr (Or.inr (Or.inl c)); exact Or.inr (Or.inr (Or.inr (Or.inl c)))) (by omega) hM1 rfl hbl (fun v => by rw [decide_eq_true_iff]) (fun S' v h29 hv _ h3f => by
          rcases c with c | c
          · subst c
            simp only [if_true]
            exact cm_so_4 e m S' T v h29
          · subst c
            have n54 : ¬ (5 : Nat) = 4 := by decide
            simp only [n54, if_false]
            exact cm_so_5 e m S' T v h29)
        cases hr : sp_rn L Z 0 (if w0 = 4 then 999 else 99) (a + ma_lw w0) with
        | inl f =>
          left
          obtain ⟨R', F', i1, i2, i3⟩ := r1 f hr
          obtain ⟨S', j1, j2, j3⟩ := t1 f hr
          exact mkF f R' F' G S' T (fb hr) i1 i2 i3 ((mw1 hbl).trans j1) j2 (sp_fr_f3 (sp_fr_27 j3)) (fun _ _ _ _ => rfl)
        | inr q =>
          right
          obtain ⟨p, v⟩ := q
          have hin := sp_rn_in hr
          obtain ⟨R', i1, i2, i3, i4⟩ := r2 p v hr
          obtain ⟨S', u3, j1, j2, j3⟩ := t2 p v hr
          have j4 := sp_fr_27 j3
          have hfin := cm_fin_45 e m S' (ma_uE T 0 14 v) w0 (nI 1) u3 v c rfl
          have w9 : w0 < 9 := by omega
          refine ⟨p, R', _, G, _, _, by omega, by omega, hcw.trans i1, i2, i3, i4, ((mw1 hbl).trans j1).trans hfin, ?_, fun q a1 a2 a3 a4 => ?_, sp_frT_uE 0 v, sp_HR_B (by omega) (sp_HR_uF (by omega) (fun _ => ⟨hin.2.2.2.2.2.1, hin.2.2.2.2.2.2.1⟩) (by omega) (HS j4 (fun r k a b => u14 _ _ _ _ _ a b))), ?_⟩
          · unfold upd
            rw [if_neg (by omega)]
            exact j2
          · unfold upd
            rw [if_neg (by omega)]
            exact j4 q a2 a3 a4
          · unfold upd
            rw [if_neg (by omega)]
            exact Int.le_refl _
      · left
        obtain ⟨R', F', i1, i2, i3⟩ := r1 _ (hnb 0 _ hbl)
        exact mkF (a + ma_lw w0) R' F' G _ T (by omega) i1 i2 i3 (mw2 hbl) rfl (frn _) (fun _ _ _ _ => rfl)
    · -- hill
      subst c
      obtain ⟨r1, r2⟩ := cx_w6 d Z x L F G (upd R 3 (nI (a + ma_lw 6))) (a + ma_lw 6) (nI a) (by omega) a2' h160 a3' a4'
      by_cases hbl : sp_lt L Z (a + ma_lw 6) = 32
      · obtain ⟨t1, t2⟩ := cm_item_2 e Z s m L (upd S 27 (nI (a + ma_lw 6 + 1))) T (a + ma_lw 6) 6 (fun v => decide (1 ≤ v ∧ v ≤ 9)) (fun v => decide (1 ≤ v ∧ v ≤ 9)) 1 9 1 9 (Or.inr (Or.inr rfl)) (by omega) hM1 rfl hbl (fun v => by rw [decide_eq_true_iff]) (fun S' v h29 hv _ _ => cm_so_6 e m S' T v 0 (Or.inl rfl) h29)
        cases hr : sp_rn L Z 1 9 (a + ma_lw 6) with
        | inl f =>
          left
          obtain ⟨R', F', i1, i2, i3⟩ := r1 f hr
          obtain ⟨S', j1, j2, j3⟩ := t1 f hr
          exact mkF f R' F' G S' T (fb hr) i1 i2 i3 ((mw1 hbl).trans j1) j2 (sp_fr_f3 (sp_fr_27 j3)) (fun _ _ _ _ => rfl)
        | inr q =>
          obtain ⟨p, v⟩ := q
          have hin := sp_rn_in hr
          obtain ⟨r3, r4⟩ := r2 p v hr
          obtain ⟨t3, t4⟩ := t2 p v hr (fun v => by rw [decide_eq_true_iff]) (fun S1 hS1 S' v2 h29 hv2 hv3 _ => cm_so_6 e m S' _ v2 1 (Or.inr rfl) h29)
          cases hr2 : sp_rn L Z 1 9 p with
          | inl f =>
            left
            obtain ⟨R', F', i1, i2, i3⟩ := r3 f hr2
            obtain ⟨S', j1, j2, j3⟩ := t3 f hr2
            exact mkF f R' F' G S' _ (fb2 (by omega) hr2) i1 i2 i3 ((mw1 hbl).trans j1) j2 (sp_fr_f3 (sp_fr_27 j3)) (sp_frT_uE 0 v)
          | inr q =>
            right
            obtain ⟨p2, v2⟩ := q
            have hin2 := sp_rn_in hr2
            obtain ⟨R', i1, i2, i3, i4⟩ := r4 p2 v2 hr2
            obtain ⟨S', u3, j1, j2, j3⟩ := t4 p2 v2 hr2
            have j4 := sp_fr_27 j3
            have hfin := cm_fin_6 e m S' (ma_uE (ma_uE T 0 14 v) 1 14 v2) (nI 2) u3 v v2 rfl rfl
            have v1 := ma_le.mp hin.2.2.2.1
            have v9 := ma_le.mp hin.2.2.2.2.1
            have w1 := ma_le.mp hin2.2.2.2.1
            have w9 := ma_le.mp hin2.2.2.2.2.1
            refine ⟨p2, R', _, G, _, _, by omega, by omega, hcw.trans i1, i2, i3, i4, ((mw1 hbl).trans j1).trans hfin, j2, fun q a1 a2 a3 a4 => ?_, sp_frT_t (sp_frT_uE 0 v) (sp_frT_uE 1 v2), sp_HR_B (by omega) (sp_HR_uF (by omega) (by omega) (fun _ => by omega) (sp_HR_uF (by omega) (by omega) (fun _ => by omega) (HS j4 (fun r k a b => by rw [u14 _ _ _ _ _ a b, u14 _ _ _ _ _ a b])))), Int.le_refl _⟩
            unfold upd
            rw [if_neg (by omega), if_neg (by omega)]
            exact j4 q a2 a3 a4
      · left
        obtain ⟨R', F', i1, i2, i3⟩ := r1 _ (hnb 1 9 hbl)
        exact mkF (a + ma_lw 6) R' F' G _ T (by omega) i1 i2 i3 (mw2 hbl) rfl (frn _) (fun _ _ _ _ => rfl)
    · -- move
      subst c
      obtain ⟨r1, r2⟩ := cx_w7 d Z x L F G (upd R 3 (nI (a + ma_lw 7))) (a + ma_lw 7) (nI a) (by omega) a2' h160 a3' a4' hH.2.1
      by_cases hbl : sp_lt L Z (a + ma_lw 7) = 32
      · have hkS := sp_Re_ok hH.1 hH.2.1
        obtain ⟨t1, t2⟩ := cm_num e Z s m L (upd S 27 (nI (a + ma_lw 7 + 1))) T (a + ma_lw 7 + 1) 0 (nI 7) none (fun v => sp_may S T v) (by omega) (by omega) hM1 rfl (fun S' v h29 _ _ h3f => by
          have hRe : ma_Re S S' T T := ⟨fun k a1 a2 => (by
            rw [h3f k (by omega) (by omega) (by omega)]
            unfold upd
            rw [if_neg (by omega)]), fun _ _ _ _ _ => rfl⟩
          have hh := cm_so_7 e m S' T v h29 (sp_Re_ok hRe hkS)
          rw [← sp_Re_may v hRe] at hh
          exact hh)
        have h39 := cm_item39 e Z s m L (upd S 27 (nI (a + ma_lw 7 + 1))) T 7 0 none (by omega) (by omega) hM1
        have n7 : sp_NT.getD 7 0 = 1 := rfl
        rw [n7, if_neg (by decide), if_pos rfl] at h39
        have mpre := (mw1 hbl).trans h39
        cases hr : sp_rn L Z 0 999 (a + ma_lw 7) with
        | inl f =>
          left
          have hd : (sp_dg L Z 3 (a + ma_lw 7 + 1) 0).1 = a + ma_lw 7 + 1 ∧ f = a + ma_lw 7 + 1 := by
            have hvb := sp_dg_b L Z 3 (a + ma_lw 7 + 1) 0 (by omega) (by decide) (by decide)
            rw [sp_rn_b hbl] at hr
            by_cases cc : (sp_dg L Z 3 (a + ma_lw 7 + 1) 0).1 = a + ma_lw 7 + 1 ∨ (sp_dg L Z 3 (a + ma_lw 7 + 1) 0).2 < 0 ∨ 999 < (sp_dg L Z 3 (a + ma_lw 7 + 1) 0).2
            · rw [if_pos cc] at hr
              refine ⟨?_, (Sum.inl.inj hr).symm⟩
              rcases cc with cc | cc | cc
              · exact cc
              · rw [ma_lt] at cc; omega
              · rw [ma_lt] at cc; omega
            · rw [if_neg cc] at hr
              cases hr
          obtain ⟨R', i1, i2, i3⟩ := r1 f hr
          obtain ⟨S', j1, j2, j3⟩ := t1 (Or.inl hd.1)
          exact mkF f R' F G S' T (fb hr) i1 i2 i3 (mpre.trans j1) (by rw [hd.2]; exact j2) (sp_fr_f3 (sp_fr_27 j3)) (fun _ _ _ _ => rfl)
        | inr q =>
          obtain ⟨p, v⟩ := q
          have hin := sp_rn_in hr
          obtain ⟨r3, r4⟩ := r2 p v hr
          have hmm := sp_Re_may v hH.1
          rw [hin.2.1] at t1 t2
          by_cases cm : sp_may F G v = true
          · right
            obtain ⟨R', i1, i2, i3, i4⟩ := r4 cm
            have cmS : sp_may S T v = true := hmm ▸ cm
            obtain ⟨S', j1, j2, j3⟩ := t2 (fun z => by
              rcases z with z | z
              · exact hin.2.2.1 z
              · have z2 : sp_may S T v = false := z
                rw [cmS] at z2
                exact absurd z2 (by decide))
            have j4 := sp_fr_27 j3
            have hM' : sp_MT m L Z s S' (ma_uE T 0 14 v) := sp_MT_T Z s m L (sp_MT_S hM (j4 26 (by omega) (by omega) (by omega)) (j4 28 (by omega) (by omega) (by omega))) (fun r q hq => sp_uE14 T 0 r q v (by omega))
            have h39b := cm_item39 e Z s m L S' (ma_uE T 0 14 v) 7 1 (some (vI (nI (a + ma_lw 7 + 1)))) (by omega) (by omega) hM'
            rw [n7, if_pos (by decide)] at h39b
            have hHR' := HS j4 (fun r k a b => u14 T 0 v r k a b)
            have hfin := cm_fin_7 e m S' (ma_uE T 0 14 v) (nI 1) (some (vI (nI (a + ma_lw 7 + 1)))) v rfl (sp_Re_ok hHR'.1 hH.2.1) (by rw [← hHR'.1.1 1 (by omega) (by omega)]; exact ((sp_may_iff F G v).mp cm).1)
            refine ⟨p, R', _, _, _, _, by omega, by omega, hcw.trans i1, i2, i3, i4, ((mpre.trans j1).trans h39b).trans hfin, by rw [ma_mvF_9 _ _ _ _ (by omega)]; exact j2, fun q a1 a2 a3 a4 => by rw [ma_mvF_9 _ _ _ _ a1]; exact j4 q a2 a3 a4, fun r q a1 a2 => by rw [ma_mvG_7 _ _ _ _ _ a1]; exact sp_frT_uE 0 v r q a1 a2, sp_HR_mv (by omega) cm hHR', by rw [sp_mvF_1]; exact Int.le_refl _⟩
          · left
            obtain ⟨R', i1, i2, i3⟩ := r3 cm
            have cmS : sp_may S T v = false := by rw [← hmm]; exact Bool.eq_false_iff.mpr cm
            obtain ⟨S', j1, j2, j3⟩ := t1 (Or.inr cmS)
            exact mkF (a + ma_lw 7 + 1) R' F G S' T (by omega) i1 i2 i3 (mpre.trans j1) j2 (sp_fr_f3 (sp_fr_27 j3)) (fun _ _ _ _ => rfl)
      · left
        obtain ⟨R', i1, i2, i3⟩ := r1 _ (hnb 0 999 hbl)
        exact mkF (a + ma_lw 7) R' F G _ T (by omega) i1 i2 i3 (mw2 hbl) rfl (frn _) (fun _ _ _ _ => rfl)
