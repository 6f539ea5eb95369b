/-! PART 63: AHEAD: the class's lookahead object and its hills; runs by a MOVE. -/
def ma_lk (x : ma_S) (K p b : Nat → Int32) (Fs : Nat → Nat → Int32) (Gs : Nat → Nat → Nat → Int32) (fs : Nat → Nat → Int32) : ma_S := (fun g i j k => if g = 9 ∧ i = 0 ∧ j = 0 then K k else if g = 50 ∧ i = 121 ∧ j = 0 then p k else if g = 50 ∧ i = 122 ∧ j = 0 then b k else if g = 2 ∧ (5 ≤ i ∧ i < 8) ∧ j = 0 then Fs (i - 5) k else if g = 4 ∧ (5 ≤ i ∧ i < 8) then Gs (i - 5) j k else if g = 50 ∧ (105 ≤ i ∧ i < 108) ∧ j = 0 then fs (i - 105) k else x.1 g i j k, x.2)
def ma_ix {α : Type} (F : Nat → α) (k : Nat) (v : α) : Nat → α := fun i => if i = k then v else F i
theorem ma_ix_at {α : Type} (F : Nat → α) (k : Nat) (v : α) : ma_ix F k v k = v := if_pos rfl
theorem ma_ix_ne {α : Type} {F : Nat → α} {k i : Nat} {v : α} (h : i ≠ k) : ma_ix F k v i = F i := if_neg h
section LK
variable (x : ma_S) (K p b : Nat → Int32) (Fs : Nat → Nat → Int32) (Gs : Nat → Nat → Nat → Int32) (fs : Nat → Nat → Int32)
theorem ma_lk_id : ma_lk x (x.1 9 0 0) (x.1 50 121 0) (x.1 50 122 0) (fun i => x.1 2 (5 + i) 0) (fun i => x.1 4 (5 + i)) (fun i => x.1 50 (105 + i) 0) = x := by
  refine ma_S_ext (fun g i j k => ?_) (fun _ _ => rfl)
  simp only [ma_lk]
  split
  · rename_i h; obtain ⟨rfl, rfl, rfl⟩ := h; rfl
  split
  · rename_i h; obtain ⟨rfl, rfl, rfl⟩ := h; rfl
  split
  · rename_i h; obtain ⟨rfl, rfl, rfl⟩ := h; rfl
  split
  · rename_i h; obtain ⟨rfl, h2, rfl⟩ := h; rw [show 5 + (i - 5) = i by omega]
  split
  · rename_i h; obtain ⟨rfl, h2⟩ := h; rw [show 5 + (i - 5) = i by omega]
  split
  · rename_i h; obtain ⟨rfl, h2, rfl⟩ := h; rw [show 105 + (i - 105) = i by omega]
  · rfl
theorem ma_lk_K (k : Nat) : (ma_lk x K p b Fs Gs fs).1 9 0 0 k = K k := by simp [ma_lk]
theorem ma_lk_b (k : Nat) : (ma_lk x K p b Fs Gs fs).1 50 122 0 k = b k := by simp [ma_lk]
theorem ma_lk_F {i : Nat} (h : i < 3) : (ma_lk x K p b Fs Gs fs).1 2 (5 + i) 0 = Fs i := by
  funext k
  simp only [ma_lk]
  rw [if_neg (by omega), if_neg (by omega), if_neg (by omega), if_pos ⟨trivial, ⟨by omega, by omega⟩, trivial⟩, show 5 + i - 5 = i by omega]
theorem ma_lk_G {i : Nat} (h : i < 3) : (ma_lk x K p b Fs Gs fs).1 4 (5 + i) = Gs i := by
  funext r k
  simp only [ma_lk]
  rw [if_neg (by omega), if_neg (by omega), if_neg (by omega), if_neg (by omega), if_pos ⟨trivial, by omega, by omega⟩, show 5 + i - 5 = i by omega]
theorem ma_lk_f {i : Nat} (h : i < 3) : (ma_lk x K p b Fs Gs fs).1 50 (100 + (5 + i)) 0 = fs i := by
  funext k
  simp only [ma_lk]
  rw [if_neg (by omega), if_neg (by omega), if_neg (by omega), if_neg (by omega), if_neg (by omega), if_pos ⟨trivial, ⟨by omega, by omega⟩, trivial⟩, show 100 + (5 + i) - 105 = i by omega]
theorem ma_lk_uK (k : Nat) (v : Int32) : ma_u (ma_lk x K p b Fs Gs fs) 9 0 0 k v = ma_lk x (upd K k v) p b Fs Gs fs := by
  refine ma_S_ext (fun g i j k' => ?_) (fun _ _ => rfl)
  simp only [ma_u, ma_lk, upd]
  by_cases h : g = 9 ∧ i = 0 ∧ j = 0
  · obtain ⟨rfl, rfl, rfl⟩ := h; simp
  · rw [if_neg (fun z => h ⟨z.1, z.2.1, z.2.2.1⟩), if_neg h, if_neg h]
theorem ma_lk_up (k : Nat) (v : Int32) : ma_u (ma_lk x K p b Fs Gs fs) 50 121 0 k v = ma_lk x K (upd p k v) b Fs Gs fs := by
  refine ma_S_ext (fun g i j k' => ?_) (fun _ _ => rfl)
  simp only [ma_u, ma_lk, upd]
  by_cases h : g = 50 ∧ i = 121 ∧ j = 0
  · obtain ⟨rfl, rfl, rfl⟩ := h; simp
  · rw [if_neg (fun z => h ⟨z.1, z.2.1, z.2.2.1⟩), if_neg h, if_neg h]
theorem ma_lk_cI : ma_cI (ma_lk x K p b Fs Gs fs) 121 0 122 0 3 = ma_lk x K p (va_cpy p b 0 0 3) Fs Gs fs := by
  have hp : (ma_lk x K p b Fs Gs fs).1 50 121 0 = p := by funext k; simp [ma_lk]
  have hb : (ma_lk x K p b Fs Gs fs).1 50 122 0 = b := by funext k; simp [ma_lk]
  refine ma_S_ext (fun g i j k' => ?_) (fun _ _ => rfl)
  simp only [ma_cI, hp, hb]
  by_cases h : g = 50 ∧ i = 122 ∧ j = 0
  · obtain ⟨rfl, rfl, rfl⟩ := h; simp [ma_lk]
  · rw [if_neg h]
    simp only [ma_lk]
    rw [if_neg h, if_neg h]
theorem ma_lk_sh {i : Nat} (h : i < 3) (F : Nat → Int32) (G : Nat → Nat → Int32) : ma_sh (ma_lk x K p b Fs Gs fs) (5 + i) F G = ma_lk x K p b (ma_ix Fs i F) (ma_ix Gs i G) fs := by
  refine ma_S_ext (fun g i' j k => ?_) (fun _ _ => rfl)
  simp only [ma_sh, ma_lk, ma_ix]
  by_cases h1 : g = 2 ∧ i' = 5 + i ∧ j = 0
  · obtain ⟨rfl, rfl, rfl⟩ := h1
    rw [if_pos (by omega), if_neg (by omega), if_neg (by omega), if_neg (by omega), if_pos (by omega), if_pos (by omega)]
  by_cases h2 : g = 4 ∧ i' = 5 + i
  · obtain ⟨rfl, rfl⟩ := h2
    rw [if_neg (by omega), if_pos (by omega), if_neg (by omega), if_neg (by omega), if_neg (by omega), if_neg (by omega), if_pos (by omega), if_pos (by omega)]
  · rw [if_neg h1, if_neg h2]
    repeat' split
    all_goals first | rfl | (exfalso; omega)
theorem ma_lk_ar {i : Nat} (h : i < 3) (f : Nat → Int32) : ma_ar (ma_lk x K p b Fs Gs fs) (100 + (5 + i)) f = ma_lk x K p b Fs Gs (ma_ix fs i f) := by
  refine ma_S_ext (fun g i' j k => ?_) (fun _ _ => rfl)
  simp only [ma_ar, ma_lk, ma_ix]
  by_cases h1 : g = 50 ∧ i' = 100 + (5 + i) ∧ j = 0
  · obtain ⟨rfl, rfl, rfl⟩ := h1
    rw [if_pos (by omega), if_neg (by omega), if_neg (by omega), if_neg (by omega), if_neg (by omega), if_neg (by omega), if_pos (by omega), if_pos (by omega)]
  · rw [if_neg h1]
    repeat' split
    all_goals first | rfl | (exfalso; omega)
theorem ma_sx_lk : ma_sx x (ma_lk x K p b Fs Gs fs) := by
  refine ⟨?_, ?_, ?_, ?_, ?_, rfl, ?_, ?_, ?_, ?_⟩
  all_goals (try funext i) <;> (try funext j) <;> (try funext k) <;> simp [ma_lk]
end LK
theorem ma_la_5 {i : Nat} (h : i < 3) : ma_la (100 + (5 + i)) = 40 := by
  rcases i with _|_|_|i
  all_goals first | omega | rfl
/-- better -/
def sp_bt2 (K : Nat → Int32) (r q : Int32) : Prop := K 4 < r ∨ (r = K 4 ∧ q < K 5)
def sp_K2 (K : Nat → Int32) (l r q : Int32) : Nat → Int32 := upd (upd (upd K 3 l) 4 r) 5 q
theorem cx_compare (d : Nat) (l r q : Int32) (x : ma_S) (K p b : Nat → Int32) (Fs : Nat → Nat → Int32) (Gs : Nat → Nat → Nat → Int32) (fs : Nat → Nat → Int32) : (sp_bt2 K r q → ma_cal (d + 1) 23 [vR 9 0 0, vI l, vI r, vI q] (ma_lk x K p b Fs Gs fs) = some (none, ma_lk x (sp_K2 K l r q) p (va_cpy p b 0 0 3) Fs Gs fs)) ∧ (¬ sp_bt2 K r q → ma_cal (d + 1) 23 [vR 9 0 0, vI l, vI r, vI q] (ma_lk x K p b Fs Gs fs) = some (none, ma_lk x K p b Fs Gs fs)) := by
  have c0 : Int32.toNatClampNeg 0 = 0 := by decide
  have c3 : Int32.toNatClampNeg 3 = 3 := by decide
  have hc : ((0 : Int32) < 0 ∨ (0 : Int32) < 0 ∨ (3 : Int32) < 0 ∨ ma_la 121 < 0 + 3 ∨ ma_la 122 < 0 + 3) = False := by decide
  unfold sp_bt2 sp_K2
  rw [en_23]
  rcases Classical.propComplete (K 4 < r) with a1 | a1 <;> rcases Classical.propComplete (r = K 4) with a2 | a2 <;> rcases Classical.propComplete (K 5 ≤ q) with a3 | a3
  all_goals
    refine ⟨fun h => ?_, fun h => ?_⟩
    all_goals first
      | (exfalso; revert h; simp only [a1, a2, ma_nlt q (K 5), a3, true_or, not_true_eq_false, and_false, false_and, or_self, not_false_eq_true, and_self, or_true, false_or, imp_self]; done)
      | (simp (decide := true) only [bk_23_0, bk_23_8, bk_23_16, bk_23_24, bk_23_53, ma_lk_K, ma_lk_uK, ma_lk_cI, a1, a2, a3, c0, c3, ↓reduceIte, ma_bd_some, ma_bd_none, ma_tl1, ma_tl0, ma_ap1, ma_ap0, b2i_0, b2i_1, b2i_01, ma_l10, ma_l01, eq_self, true_or, or_true, not_true_eq_false, not_false_eq_true, Bool.false_eq_true]; done)
/-- sums of whole numbers -/
def sp_iz (g : Nat → Int) : Nat → Int
  | 0 => 0
  | n + 1 => sp_iz g n + g n
theorem sp_iz_add (g h : Nat → Int) : ∀ n, sp_iz (fun r => g r + h r) n = sp_iz g n + sp_iz h n
  | 0 => rfl
  | n + 1 => by
    have := sp_iz_add g h n
    show sp_iz (fun r => g r + h r) n + (g n + h n) = (sp_iz g n + g n) + (sp_iz h n + h n)
    omega
theorem sp_iz_one (a : Nat) : ∀ n, sp_iz (fun r => if r = a then 1 else 0) n = if a < n then 1 else 0
  | 0 => by rw [if_neg (by omega)]; rfl
  | n + 1 => by
    have := sp_iz_one a n
    show sp_iz _ n + (if n = a then 1 else 0) = _
    rw [this]
    repeat' split
    all_goals first | omega | rfl
theorem sp_iz_zero : ∀ n, sp_iz (fun _ => 0) n = 0
  | 0 => rfl
  | n + 1 => by
    have := sp_iz_zero n
    show sp_iz (fun _ => 0) n + 0 = 0
    omega
theorem sp_iz_congr {g h : Nat → Int} : ∀ n, (∀ r, r < n → g r = h r) → sp_iz g n = sp_iz h n
  | 0, _ => rfl
  | n + 1, e => by
    have := sp_iz_congr n (fun r hr => e r (by omega))
    show sp_iz g n + g n = sp_iz h n + h n
    rw [this, e n (by omega)]
theorem sp_sum_is {f : Nat → Int32} {B : Int} (hB : B < 100000000) : ∀ n, n ≤ 4 → (∀ r, r < n → 0 ≤ (f r).toInt ∧ (f r).toInt ≤ B) → (sp_sum f n).toInt = sp_iz (fun r => (f r).toInt) n := by
  intro n
  induction n with
  | zero => intro _ _; rfl
  | succ n ih =>
    intro hn h
    have hi := ih (by omega) (fun r hr => h r (by omega))
    have hb := h n (by omega)
    have hs := sp_sum_b hB n (by omega) (fun r hr => h r (by omega))
    have hm : (n : Int) * B ≤ 4 * B := Int.mul_le_mul_of_nonneg_right (by omega) (by omega)
    show (sp_sum f n + f n).toInt = sp_iz (fun r => (f r).toInt) n + (f n).toInt
    rw [ma_add (by omega) (by omega), hi]
def sp_ro (m : Int32) : Int := if m / 100 = 0 then 1 else if m / 100 = 1 then 2 else 0
theorem sp_runs_mv {F : Nat → Int32} {G : Nat → Nat → Int32} {n : Nat} {m : Int32} {B : Int} (hB : B < 10000000) (hk : sp_ok F G) (hF : F 1 = nI n) (hn : n ≤ 4) (hr : sp_rb2 B F G) (hm : sp_may F G m = true) : (sp_sum (fun r => sp_mvG F G m r 5) n).toInt = (sp_sum (fun r => G r 5) n).toInt + sp_ro m := by
  have hni := nI_toInt (n := n) (by omega)
  have hM := ((sp_may_iff F G m).mp hm).1
  have h0 : 0 ≤ m.toInt := by have := sp_isM_iff.mp hM; omega
  have hg : ∀ r, r < n → 0 ≤ (G r 5).toInt ∧ (G r 5).toInt ≤ B := fun r h => hr r (by rw [hF, hni]; omega)
  have hr2 := sp_rb2_mv m (by omega) hr
  have hg2 : ∀ r, r < n → 0 ≤ (sp_mvG F G m r 5).toInt ∧ (sp_mvG F G m r 5).toInt ≤ B + 1 := fun r h => hr2 r (by rw [sp_mvF_1, hF, hni]; omega)
  rw [sp_sum_is (B := B) (by omega) n hn hg, sp_sum_is (B := B + 1) (by omega) n hn hg2]
  have step : ∀ r, r < n → (sp_mvG F G m r 5).toInt = (G r 5).toInt + (if sp_tk m (nI r) = true ∧ (m / 100 = 0 ∨ m / 100 = 1) then 1 else 0) := fun r h => by
    have hb := hg r h
    have e1 : (1 : Int32).toInt = 1 := rfl
    unfold sp_mvG
    rw [if_pos (by rw [hF, hni]; omega)]
    unfold sp_step
    by_cases c : sp_tk m (nI r) = true
    · rw [if_pos c]
      show (if m / 100 = 0 ∨ m / 100 = 1 then G r 5 + 1 else G r 5).toInt = _
      by_cases c2 : m / 100 = 0 ∨ m / 100 = 1
      · rw [if_pos c2, if_pos ⟨c, c2⟩, ma_add (by omega) (by omega)]; omega
      · rw [if_neg c2, if_neg (fun z => c2 z.2)]; omega
    · rw [if_neg c, if_neg (fun z => c z.1)]
      show (G r 5).toInt = _
      omega
  rw [sp_iz_congr n step, sp_iz_add]
  congr 1
  have htk : ∀ r, r < n → (sp_tk m (nI r) = true ↔ (¬ m / 100 = 7 ∧ (r = sp_ri m ∨ (sp_two (m / 100) = true ∧ r = sp_rj m)))) := fun r h => by
    unfold sp_tk sp_ri sp_rj
    rw [decide_eq_true_iff]
    have a1 := sp_r10 h0
    have a2 := sp_r1 h0
    have a3 := nI_toInt (n := r) (by omega)
    rw [ma_eq (a := nI r) (b := ma_rm (m / 10) 10), ma_eq (a := nI r) (b := ma_rm m 10), ma_clN, ma_clN]
    constructor
    · rintro ⟨z1, z2⟩
      refine ⟨z1, ?_⟩
      rcases z2 with z2 | ⟨z2, z3⟩
      · left; omega
      · right; exact ⟨z2, by omega⟩
    · rintro ⟨z1, z2⟩
      refine ⟨z1, ?_⟩
      rcases z2 with z2 | ⟨z2, z3⟩
      · left; omega
      · right; exact ⟨z2, by omega⟩
  unfold sp_ro
  by_cases s0 : m / 100 = 0
  · have t0 : ¬ sp_two (m / 100) = true := by rw [s0]; decide
    have n7 : ¬ m / 100 = 7 := by rw [s0]; decide
    rw [if_pos s0]
    have hri : sp_ri m < n := by
      rcases sp_ri_lt hM with z | ⟨z, -⟩
      · exfalso; exact n7 (by rw [sp_700 z]; decide)
      · rw [hF, hni] at z; omega
    have := sp_iz_one (sp_ri m) n
    rw [if_pos hri] at this
    refine Eq.trans (sp_iz_congr n (h := fun r => if r = sp_ri m then 1 else 0) (fun r h => ?_)) this
    show (if sp_tk m (nI r) = true ∧ (m / 100 = 0 ∨ m / 100 = 1) then (1 : Int) else 0) = if r = sp_ri m then 1 else 0
    by_cases c : r = sp_ri m
    · rw [if_pos c, if_pos ⟨(htk r h).mpr ⟨n7, Or.inl c⟩, Or.inl s0⟩]
    · rw [if_neg c, if_neg (fun z => by
        rcases ((htk r h).mp z.1).2 with z | z
        · exact c z
        · exact t0 z.1)]
  by_cases s1 : m / 100 = 1
  · have t0 : sp_two (m / 100) = true := by rw [s1]; decide
    have n7 : ¬ m / 100 = 7 := by rw [s1]; decide
    rw [if_neg s0, if_pos s1]
    obtain ⟨hri, hrj⟩ : sp_ri m < n ∧ sp_rj m < n := by
      rcases sp_ri_lt hM with z | ⟨z, w⟩
      · exfalso; exact n7 (by rw [sp_700 z]; decide)
      · have w2 := w t0
        rw [hF, hni] at z w2; omega
    have hne : sp_ri m ≠ sp_rj m := fun e => by
      have z := sp_isM_iff.mp hM
      have a1 := sp_r10 h0
      have a2 := sp_r1 h0
      unfold sp_ri sp_rj at e
      rw [ma_clN, ma_clN] at e
      rcases z with z | ⟨_, _, _, z⟩
      · exact n7 (by rw [sp_700 z]; decide)
      · rw [if_pos t0] at z; omega
    have h1 := sp_iz_one (sp_ri m) n
    have h2 := sp_iz_one (sp_rj m) n
    rw [if_pos hri] at h1
    rw [if_pos hrj] at h2
    have h3 := sp_iz_add (fun r => if r = sp_ri m then 1 else 0) (fun r => if r = sp_rj m then 1 else 0) n
    rw [h1, h2] at h3
    refine Eq.trans (sp_iz_congr n (h := fun r => (if r = sp_ri m then 1 else 0) + (if r = sp_rj m then 1 else 0)) (fun r h => ?_)) h3
    show (if sp_tk m (nI r) = true ∧ (m / 100 = 0 ∨ m / 100 = 1) then (1 : Int) else 0) = (if r = sp_ri m then 1 else 0) + (if r = sp_rj m then 1 else 0)
    by_cases c : r = sp_ri m
    · have c2 : ¬ r = sp_rj m := fun z => hne (c.symm.trans z)
      rw [if_pos (show sp_tk m (nI r) = true ∧ (m / 100 = 0 ∨ m / 100 = 1) from ⟨(htk r h).mpr ⟨n7, Or.inl c⟩, Or.inr s1⟩), if_pos c, if_neg c2]
      rfl
    · by_cases c2 : r = sp_rj m
      · rw [if_pos (show sp_tk m (nI r) = true ∧ (m / 100 = 0 ∨ m / 100 = 1) from ⟨(htk r h).mpr ⟨n7, Or.inr ⟨t0, c2⟩⟩, Or.inr s1⟩), if_neg c, if_pos c2]
        rfl
      · rw [if_neg (show ¬ (sp_tk m (nI r) = true ∧ (m / 100 = 0 ∨ m / 100 = 1)) from fun z => by
          rcases ((htk r h).mp z.1).2 with z | z
          · exact c z
          · exact c2 z.2), if_neg c, if_neg c2]
        rfl
  · rw [if_neg s0, if_neg s1]
    refine Eq.trans (sp_iz_congr n (h := fun _ => 0) (fun r h => ?_)) (sp_iz_zero n)
    exact if_neg (fun z => z.2.elim s0 s1)
