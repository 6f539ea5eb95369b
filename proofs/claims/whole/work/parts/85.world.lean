/-! PART 85: the worlds of the two new objects as states of the small machine. -/
def na_unh (i : Nat) : List ma_Q := [(2, i, 0), (3, i, 0), (50, 100 + i, 0), (4, i, 0), (4, i, 1), (4, i, 2), (4, i, 3)]
def na_uns (i : Nat) : List ma_Q := [(16, i, 0), (60, i, 0)]
def na_unX : List ma_Q := (1, 0, 0) :: (15, 0, 0) :: (50, 124, 0) :: (na_uns 7 ++ (na_uns 6 ++ (na_uns 5 ++ (na_uns 4 ++ (na_uns 3 ++ (na_uns 2 ++ (na_uns 1 ++ (na_uns 0 ++ ([(13, 0, 0), (50, 123, 0)] ++ (((9, 0, 0) :: (10, 0, 0) :: (50, 121, 0) :: (50, 122, 0) :: (na_unh 7 ++ (na_unh 6 ++ na_unh 5))) ++ (((7, 0, 0) :: (50, 120, 0) :: na_unh 4) ++ (((6, 0, 0) :: na_unh 3) ++ (na_unh 2 ++ (na_unh 1 ++ na_unh 0))))))))))))))
def na_unM : List ma_Q := [(20, 0, 0), (50, 7, 0), (50, 1, 0), (50, 2, 0), (50, 3, 0), (50, 4, 0), (50, 5, 0), (50, 6, 0), (50, 8, 0), (50, 9, 0), (50, 10, 0), (50, 11, 0), (60, 10, 0), (60, 11, 0), (50, 12, 0), (50, 13, 0), (50, 14, 0), (50, 15, 0), (50, 16, 0), (50, 17, 0), (50, 18, 0), (50, 19, 0), (50, 20, 0), (50, 21, 0)]
def na_okq (un : List ma_Q) (q : ma_Q) : Bool := (decide ((q.1 = 60 ∨ q.1 = 50) → q.2.2 = 0) && (Nat.beq q.1 3).not.or ((List.range 4).all (fun k => un.contains (4, q.2.1, k)))) && ((Nat.beq q.1 10).not.or ((List.range 3).all (fun k => un.contains (2, 5 + k, 0))) && (Nat.beq q.1 15).not.or ((List.range 8).all (fun k => un.contains (16, k, 0)))) && (decide (q.1 = 3 ∨ q.1 = 10 ∨ q.1 = 15 ∨ q.1 = 50 ∨ q.1 = 60) || (List.range (ma_nf (ma_cg q.1))).all (fun k => (Nat.beq (ma_kd (ma_cg q.1) k) 2).not.or (un.contains (ma_rf q.1 q.2.1 (ma_sk (ma_cg q.1) k))))) && decide (q.1 ≠ 40 ∧ q.1 ≠ 41 ∧ q.1 ≠ 42 ∧ q.1 ≠ 43)
theorem na_un_of {un : List ma_Q} (h : un.all (na_okq un) = true) : ma_un un := fun q hq => by
  have h1 := List.all_eq_true.mp h q hq
  unfold na_okq at h1
  simp only [Bool.and_eq_true, decide_eq_true_eq, Bool.or_eq_true, List.all_eq_true, List.mem_range, List.contains_iff_mem] at h1
  obtain ⟨⟨⟨⟨a1, a2⟩, a3, a4⟩, a5⟩, a6⟩ := h1
  have nb : ∀ {x y : Nat} {P : Prop}, ((!(Nat.beq x y)) = true ∨ P) → x = y → P := fun {x y P} z e => by
    subst e
    have : Nat.beq x x = true := by simp
    rw [this] at z
    rcases z with z | z
    · cases z
    · exact z
  refine ⟨a1, fun e k hk => ?_, fun e k hk => ?_, fun e k hk => ?_, fun n1 n2 n3 n4 n5 k hk e => ?_, a6⟩
  · have z := nb a2 e
    exact z k hk
  · have z := nb a3 e
    exact z k hk
  · have z := nb a4 e
    exact z k hk
  · rcases a5 with a5 | a5
    · omega
    · have z := nb (a5 k hk) e
      exact z
theorem na_unX_ok : ma_un na_unX := na_un_of (by decide +kernel)
theorem na_unM_ok : ma_un na_unM := na_un_of (by decide +kernel)
def na_i2 (k : Nat) : Int32 := match k with | 2 => 1 | 4 => 60 | 6 => 6 | 7 => 3 | 8 => 1 | _ => 0
def na_i20 (k : Nat) : Int32 := match k with | 2 => 1 | 4 => 60 | 6 => 6 | 7 => 3 | 8 => 1 | 9 => -1 | _ => 0
def na_i4 (j k : Nat) : Int32 := match k with | 0 => nI j | _ => 0
def na_i1 (k : Nat) : Int32 := match k with | 10 => -1 | _ => 0
def na_i7 (k : Nat) : Int32 := match k with | 4 => -1 | _ => 0
def na_i16 (k : Nat) : Int32 := match k with | 1 => -1 | _ => 0
def na_i50 (W N : Nat → Int32) (i : Nat) : Nat → Int32 := match i with | 12 => W | 13 => N | _ => fun _ => 0
/-- the state of new objects -/
def na_σ (W N : Nat → Int32) : ma_S := (fun g i j => match g with | 1 => na_i1 | 2 => na_i2 | 4 => na_i4 j | 7 => na_i7 | 16 => na_i16 | 20 => na_i20 | 50 => na_i50 W N i | _ => fun _ => 0, fun _ _ => 0)
def na_hu (u : na_XT) (i : Nat) : Nat → Nat := match i with | 0 => u.2.1 0 | 1 => u.2.1 1 | 2 => u.2.1 2 | 3 => u.2.2.1.2 | 4 => u.2.2.2.1.2.2 | k + 5 => u.2.2.2.2.1.2.2 k
def na_hq (u : na_XT) (i : Nat) : Nat := match i with | 0 => u.1 0 | 1 => u.1 1 | 2 => u.1 2 | 3 => u.2.2.1.1 | 4 => u.2.2.2.1.1 | k + 5 => u.2.2.2.2.1.2.1 k
def na_f50 (u : na_XT) (v : Nat → Nat) (i : Nat) : Nat := match i with | 120 => u.2.2.2.1.2.1 | 121 => u.2.2.2.2.1.1 1 | 122 => u.2.2.2.2.1.1 2 | 123 => u.2.2.2.2.2 | 124 => u.1 8 | 100 => na_hu u 0 5 | 101 => na_hu u 1 5 | 102 => na_hu u 2 5 | 103 => na_hu u 3 5 | 104 => na_hu u 4 5 | 105 => na_hu u 5 5 | 106 => na_hu u 6 5 | 107 => na_hu u 7 5 | i => v i
def na_f60 (u : na_XT) (v : Nat → Nat) (i : Nat) : Nat := match i with | 10 => v 30 | 11 => v 31 | i => u.1 (i + 20)
def na_φ (st : Nat → Nat → Nat) (qX qM : Nat) (u : na_XT) (v : Nat → Nat) : ma_F := fun g i j => match g with | 1 => qX | 2 => na_hq u i | 3 => na_hu u i 0 | 4 => na_hu u i (j + 1) | 6 => u.1 3 | 7 => u.1 4 | 9 => u.1 5 | 10 => u.2.2.2.2.1.1 0 | 13 => u.1 6 | 15 => u.1 7 | 16 => u.1 (i + 10) | 20 => qM | 40 => st 0 i | 41 => st 1 i | 42 => st 2 i | 50 => na_f50 u v i | 60 => na_f60 u v i | _ => 0
theorem na_ws_app {φ : ma_F} {cA : Nat → ClassId} {σ : ma_S} (a b : List ma_Q) : ma_ws φ cA σ (a ++ b) = ma_ws φ cA σ a ++ ma_ws φ cA σ b := List.map_append
set_option maxRecDepth 100000 in
theorem na_modelW {st : Nat → Nat → Nat} {qX qM : Nat} {u : na_XT} {v : (Nat → Nat) × (Nat → Int32) × (Nat → Int32)} {cA : Nat → ClassId} : na_model cA qM v = ma_ws (na_φ st qX qM u v.1) cA (na_σ v.2.1 v.2.2) na_unM := rfl
def na_lookf (f : Nat → Option Nat) (cA : Nat → ClassId) (q : Nat) (u : (Nat → Nat) × (Nat → Nat) × (Nat → Nat → Nat)) : va_W := (q, .inr (1, [.ref (u.1 0), .ref (u.1 1), .ref (u.1 2), .int 0, .int 0, .int 0])) :: (u.1 0, .inl (cA 3, 3, .inr (.inr (.inr (.inr f))))) :: (u.1 1, .inl (cA 0, 3, .inl (fun _ => 0))) :: (u.1 2, .inl (cA 0, 3, .inl (fun _ => 0))) :: (na_hill cA (u.2.1 2) (u.2.2 2) ++ (na_hill cA (u.2.1 1) (u.2.2 1) ++ na_hill cA (u.2.1 0) (u.2.2 0)))
def na_Xf (f : Nat → Option Nat) (cA : Nat → ClassId) (q : Nat) (u : na_XT) : va_W := (q, .inr (7, [.ref (u.1 0), .ref (u.1 1), .ref (u.1 2), .int 0, .ref (u.1 3), .ref (u.1 4), .ref (u.1 5), .ref (u.1 6), .ref (u.1 7), .ref (u.1 8), .int (-1)])) :: (u.1 7, .inl (cA 4, 8, .inr (.inr (.inr (.inr (fun k => some (u.1 (k + 10)))))))) :: (u.1 8, .inl (cA 0, 7, .inl (fun _ => 0))) :: (na_shelf cA (u.1 17) (u.1 27) ++ (na_shelf cA (u.1 16) (u.1 26) ++ (na_shelf cA (u.1 15) (u.1 25) ++ (na_shelf cA (u.1 14) (u.1 24) ++ (na_shelf cA (u.1 13) (u.1 23) ++ (na_shelf cA (u.1 12) (u.1 22) ++ (na_shelf cA (u.1 11) (u.1 21) ++ (na_shelf cA (u.1 10) (u.1 20) ++ (na_trace cA (u.1 6) u.2.2.2.2.2 ++ (na_lookf f cA (u.1 5) u.2.2.2.2.1 ++ (na_reader cA (u.1 4) u.2.2.2.1 ++ (na_sharing cA (u.1 3) u.2.2.1 ++ (na_hill cA (u.1 2) (u.2.1 2) ++ (na_hill cA (u.1 1) (u.2.1 1) ++ na_hill cA (u.1 0) (u.2.1 0)))))))))))))))
set_option maxRecDepth 100000 in
theorem na_XW {st : Nat → Nat → Nat} {qX qM : Nat} {u : na_XT} {v : Nat → Nat} {W N : Nat → Int32} {cA : Nat → ClassId} : na_X cA qX u = ma_ws (na_φ st qX qM u v) cA (na_σ W N) na_unX := by
  have e : (fun k => some (u.2.2.2.2.1.2.1 k)) = fun k => some (na_φ st qX qM u v 2 (5 + k) 0) := funext fun k => by
    show _ = some (na_hq u (5 + k))
    rw [Nat.add_comm]
    rfl
  have h1 : na_X cA qX u = na_Xf (fun k => some (u.2.2.2.2.1.2.1 k)) cA qX u := rfl
  have h2 : na_Xf (fun k => some (na_φ st qX qM u v 2 (5 + k) 0)) cA qX u = ma_ws (na_φ st qX qM u v) cA (na_σ W N) na_unX := rfl
  rw [h1, e, h2]
theorem na_Iv {W N : Nat → Int32} (h : ma_IvW W N) : ma_Iv 0 (na_σ W N) (na_σ W N) := by
  have e0 : ∀ k, na_i2 k = (na_σ W N).1 2 0 0 k := fun _ => rfl
  refine ⟨⟨⟨fun k a b => ?_, fun r hr k a b => ?_⟩, ?_, fun r hr => ?_, fun r hr => rfl⟩, fun s hs => Or.inl ⟨rfl, rfl, rfl⟩, fun j _ => rfl, ⟨rfl, show 0 ≤ (0 : Int32).toInt by decide, show (0 : Int32).toInt ≤ 1000 by decide, fun _ _ _ => rfl⟩, ⟨rfl, Or.inl rfl⟩, rfl, h⟩
  · show na_i2 k = na_i20 k
    rcases (show k = 1 ∨ k = 2 ∨ k = 3 ∨ k = 4 ∨ k = 5 ∨ k = 6 ∨ k = 7 ∨ k = 8 by omega) with rfl | rfl | rfl | rfl | rfl | rfl | rfl | rfl <;> rfl
  · have z : (na_i2 1).toInt = 0 := rfl
    have hr2 : (r : Int) < (na_i2 1).toInt := hr
    omega
  · refine ⟨show 0 ≤ (na_i2 1).toInt by decide, show (na_i2 1).toInt ≤ 4 by decide, show 0 ≤ (na_i2 4).toInt by decide, show (na_i2 4).toInt ≤ 999 by decide, show 1 ≤ (na_i2 6).toInt by decide, show (na_i2 6).toInt ≤ 9 by decide, show 1 ≤ (na_i2 7).toInt by decide, show (na_i2 7).toInt ≤ 9 by decide, fun r hr => ?_⟩
    have z : (na_i2 1).toInt = 0 := rfl
    have hr2 : (r : Int) < (na_i2 1).toInt := hr
    omega
  · have z : (na_i2 1).toInt = 0 := rfl
    have hr2 : (r : Int) < (na_i2 1).toInt := hr
    omega
