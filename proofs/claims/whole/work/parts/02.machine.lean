/-! PART 02: a small machine over values with numbered cells: one step, runs with fuel, runs without. -/
abbrev ma_L : Type := List (Option ma_V)
abbrev ma_S : Type := (Nat → Nat → Nat → Nat → Int32) × (Nat → Nat → Int64)
abbrev ma_R : Type := Option ma_V × ma_S
abbrev ma_N : Type := Option (ma_R ⊕ ((Nat × ma_L × List ma_V × ma_S) ⊕ (Nat × List ma_V × Nat × ma_L × List ma_V × ma_S)))
abbrev ma_go (n : Nat) (ls : ma_L) (st : List ma_V) (σ : ma_S) : ma_N := some (.inr (.inl (n, ls, st, σ)))
def ma_u (σ : ma_S) (g i j k : Nat) (v : Int32) : ma_S := (fun g' i' j' k' => if g' = g ∧ i' = i ∧ j' = j ∧ k' = k then v else σ.1 g' i' j' k', σ.2)
def ma_uJ (σ : ma_S) (i k : Nat) (v : Int64) : ma_S := (σ.1, fun i' k' => if i' = i ∧ k' = k then v else σ.2 i' k')
def ma_cI (σ : ma_S) (i0 sp i1 dp n : Nat) : ma_S := (fun g' i' j' k' => if g' = 50 ∧ i' = i1 ∧ j' = 0 then va_cpy (σ.1 50 i0 0) (σ.1 50 i1 0) sp dp n k' else σ.1 g' i' j' k', σ.2)
def ma_cJ (σ : ma_S) (i0 sp i1 dp n : Nat) : ma_S := (σ.1, fun i' k' => if i' = i1 then va_cpy (σ.2 i0) (σ.2 i1) sp dp n k' else σ.2 i' k')
def ma_rm (x y : Int32) : Int32 := x - x / y * y
def ma_in (x : Int32) (n : Nat) : Prop := 0 ≤ x.toInt ∧ x.toInt < (n : Int)
theorem ma_in_def (x : Int32) (n : Nat) : ma_in x n ↔ (0 ≤ x.toInt ∧ x.toInt < (n : Int)) := Iff.rfl
def ma_ind (x : Int32) (n : Nat) : Decidable (ma_in x n) := by unfold ma_in; infer_instance
/-- if the place is in range -/
def ma_if {α : Type} (x : Int32) (n : Nat) (a b : α) : α := @ite α (ma_in x n) (ma_ind x n) a b
theorem ma_if_pos {α : Type} {x : Int32} {n : Nat} {a b : α} (h : ma_in x n) : ma_if x n a b = a := by unfold ma_if; exact if_pos h
theorem ma_if_neg {α : Type} {x : Int32} {n : Nat} {a b : α} (h : ¬ ma_in x n) : ma_if x n a b = b := by unfold ma_if; exact if_neg h
def ma_isJ (ls : ma_L) (i : Nat) : Bool := match ls[i]? with
  | some (some (.inr (.inl _))) => true
  | _ => false
/-- the stores into the locals -/
def ma_sl (n : Nat) (ls : ma_L) (i : Nat) (v : ma_V) (st : List ma_V) (σ : ma_S) : ma_N := match Nat.ble (i + 1) ls.length, ma_isJ ls (i - 1) with
  | true, false => ma_go n (ls.set i (some v)) st σ
  | _, _ => none
def ma_tg (pc : Nat) (off : Int) : Nat := ((pc : Int) + off).toNat
def ma_en : List ma_V → ma_L
  | [] => []
  | .inr (.inl x) :: r => some (vL x) :: none :: ma_en r
  | v :: r => some v :: ma_en r
def ma_ent (μ : Nat) (as : List ma_V) : ma_L := ma_en as ++ List.replicate (ma_ml μ - (ma_en as).length) none
def ma_ld (n : Nat) (ls : ma_L) (i : Nat) (st : List ma_V) (σ : ma_S) : ma_N := match ls[i]? with
  | some (some (.inl x)) => ma_go n ls (.inl x :: st) σ
  | _ => none
def ma_lL (n : Nat) (ls : ma_L) (i : Nat) (st : List ma_V) (σ : ma_S) : ma_N := match ls[i]? with
  | some (some (.inr (.inl x))) => ma_go n ls (.inr (.inl x) :: st) σ
  | _ => none
def ma_lA (n : Nat) (ls : ma_L) (i : Nat) (st : List ma_V) (σ : ma_S) : ma_N := match ls[i]? with
  | some (some (.inr (.inr q))) => ma_go n ls (.inr (.inr q) :: st) σ
  | _ => none
def ma_sI (n : Nat) (ls : ma_L) (i : Nat) (st : List ma_V) (σ : ma_S) : ma_N := match st with
  | .inl x :: r => ma_sl n ls i (.inl x) r σ
  | _ => none
def ma_sA (n : Nat) (ls : ma_L) (i : Nat) (st : List ma_V) (σ : ma_S) : ma_N := match st with
  | .inr (.inr q) :: r => ma_sl n ls i (.inr (.inr q)) r σ
  | _ => none
def ma_c0 (c : Jvm.ClassFile.Cond) (x : Int32) (t n : Nat) : Nat := match c with
  | .eq => if x = 0 then t else n
  | .ne => if x = 0 then n else t
  | .lt => if x < 0 then t else n
  | .ge => if 0 ≤ x then t else n
  | .gt => if 0 < x then t else n
  | .le => if x ≤ 0 then t else n
def ma_c2 (c : Jvm.ClassFile.Cond) (x y : Int32) (t n : Nat) : Nat := match c with
  | .eq => if x = y then t else n
  | .ne => if x = y then n else t
  | .lt => if x < y then t else n
  | .ge => if y ≤ x then t else n
  | .gt => if y < x then t else n
  | .le => if x ≤ y then t else n
/-- a call, if its receiver is of the class, the rest of the stack is short -/
def ma_call (virt : Bool) (μ k n : Nat) (ls : ma_L) (st : List ma_V) (σ : ma_S) : ma_N := match Nat.beq (st.take k).length k && (Nat.ble (st.drop k).length 4 && Nat.ble (ma_en (st.take k).reverse).length (ma_ml μ)), virt, (st.take k).reverse with
  | true, false, as => some (.inr (.inr (μ, as, n, ls, st.drop k, σ)))
  | true, true, .inr (.inr (g, q)) :: as => match Nat.beq g (ma_gc (ma_cl μ)) with
    | true => some (.inr (.inr (μ, .inr (.inr (g, q)) :: as, n, ls, st.drop k, σ)))
    | false => none
  | _, _, _ => none
def ma_gf (μ i n : Nat) (ls : ma_L) (st : List ma_V) (σ : ma_S) : ma_N := match ma_ft (ma_cl μ) i, st with
  | some (g', k, kind), .inr (.inr (g, i, j)) :: r => match Nat.beq g g' with
    | true => match kind with
      | 2 => ma_go n ls (.inr (.inr (ma_rf g i k)) :: r) σ
      | 3 => ma_go n ls (vI 0 :: r) σ
      | _ => ma_go n ls (vI (σ.1 g i j k) :: r) σ
    | false => none
  | _, _ => none
def ma_pf (μ i n : Nat) (ls : ma_L) (st : List ma_V) (σ : ma_S) : ma_N := match ma_ft (ma_cl μ) i, st with
  | some (g', k, kind), .inl v :: .inr (.inr (g, i, j)) :: r => match Nat.beq g g' with
    | true => match kind with
      | 0 => ma_go n ls r (ma_u σ g i j k v)
      | 1 => if v = 0 ∨ v = 1 then ma_go n ls r (ma_u σ g i j k v) else none
      | _ => none
    | false => none
  | _, _ => none
def ma_re (g i k : Nat) : Nat × Nat × Nat := match g with
  | 3 => (4, i, k)
  | 10 => (2, 5 + k, 0)
  | _ => (16, k, 0)
def ma_st (μ pc : Nat) (ins : Instr) (n : Nat) (ls : ma_L) (st : List ma_V) (σ : ma_S) : ma_N := match ins with
  | .iconst k => ma_go n ls (vI (Int32.ofInt k) :: st) σ
  | .bipush k => ma_go n ls (vI (Int8.ofInt k).toInt32 :: st) σ
  | .sipush k => ma_go n ls (vI (Int16.ofInt k).toInt32 :: st) σ
  | .lconst k => ma_go n ls (vL (Int64.ofNat (k : Nat)) :: st) σ
  | .ldc i => match ma_lc (ma_cl μ) i with
    | some v => ma_go n ls (v :: st) σ
    | none => none
  | .ldc_w i => match ma_lc (ma_cl μ) i with
    | some v => ma_go n ls (v :: st) σ
    | none => none
  | .iload i => ma_ld n ls i st σ
  | .iload_n i => ma_ld n ls i.val st σ
  | .lload_n i => ma_lL n ls i.val st σ
  | .aload i => ma_lA n ls i st σ
  | .aload_n i => ma_lA n ls i.val st σ
  | .istore i => ma_sI n ls i st σ
  | .istore_n i => ma_sI n ls i.val st σ
  | .astore i => ma_sA n ls i st σ
  | .astore_n i => ma_sA n ls i.val st σ
  | .iinc i k => match ls[i]? with
    | some (some (.inl x)) => ma_sl n ls i (.inl (x + Int32.ofInt k)) st σ
    | _ => none
  | .iadd => match st with
    | .inl y :: .inl x :: r => ma_go n ls (.inl (x + y) :: r) σ
    | _ => none
  | .isub => match st with
    | .inl y :: .inl x :: r => ma_go n ls (.inl (x - y) :: r) σ
    | _ => none
  | .imul => match st with
    | .inl y :: .inl x :: r => ma_go n ls (.inl (x * y) :: r) σ
    | _ => none
  | .ior => match st with
    | .inl y :: .inl x :: r => ma_go n ls (.inl (x ||| y) :: r) σ
    | _ => none
  | .ixor => match st with
    | .inl y :: .inl x :: r => ma_go n ls (.inl (x ^^^ y) :: r) σ
    | _ => none
  | .iand => match st with
    | .inl y :: .inl x :: r => ma_go n ls (.inl (x &&& y) :: r) σ
    | _ => none
  | .ishl => match st with
    | .inl y :: .inl x :: r => ma_go n ls (.inl (x <<< (y &&& 31)) :: r) σ
    | _ => none
  | .ishr => match st with
    | .inl y :: .inl x :: r => ma_go n ls (.inl (x >>> (y &&& 31)) :: r) σ
    | _ => none
  | .iushr => match st with
    | .inl y :: .inl x :: r => ma_go n ls (.inl (x.toUInt32 >>> (y.toUInt32 &&& Int32.toUInt32 31)).toInt32 :: r) σ
    | _ => none
  | .idiv => match st with
    | .inl y :: .inl x :: r => if y = 0 then none else ma_go n ls (.inl (x / y) :: r) σ
    | _ => none
  | .irem => match st with
    | .inl y :: .inl x :: r => if y = 0 then none else ma_go n ls (.inl (ma_rm x y) :: r) σ
    | _ => none
  | .ineg => match st with
    | .inl x :: r => ma_go n ls (.inl (-x) :: r) σ
    | _ => none
  | .i2l => match st with
    | .inl x :: r => ma_go n ls (vL x.toInt64 :: r) σ
    | _ => none
  | .l2i => match st with
    | .inr (.inl x) :: r => ma_go n ls (vI x.toInt32 :: r) σ
    | _ => none
  | .i2b => match st with
    | .inl x :: r => ma_go n ls (vI x.toInt8.toInt32 :: r) σ
    | _ => none
  | .i2s => match st with
    | .inl x :: r => ma_go n ls (vI x.toInt16.toInt32 :: r) σ
    | _ => none
  | .i2c => match st with
    | .inl x :: r => ma_go n ls (vI (x.toUInt32 % 65536).toInt32 :: r) σ
    | _ => none
  | .dup => match st with
    | .inl x :: r => ma_go n ls (.inl x :: .inl x :: r) σ
    | .inr (.inr q) :: r => ma_go n ls (.inr (.inr q) :: .inr (.inr q) :: r) σ
    | _ => none
  | .dup2 => match st with
    | .inl x :: .inr (.inr q) :: r => ma_go n ls (.inl x :: .inr (.inr q) :: .inl x :: .inr (.inr q) :: r) σ
    | _ => none
  | .dup_x1 => match st with
    | .inl x :: .inr (.inr q) :: r => ma_go n ls (.inl x :: .inr (.inr q) :: .inl x :: r) σ
    | _ => none
  | .pop => match st with
    | .inl _ :: r => ma_go n ls r σ
    | _ => none
  | .ifCond c off => match st with
    | .inl x :: r => ma_go (ma_c0 c x (ma_tg pc off) n) ls r σ
    | _ => none
  | .if_icmp c off => match st with
    | .inl y :: .inl x :: r => ma_go (ma_c2 c x y (ma_tg pc off) n) ls r σ
    | _ => none
  | .goto off => ma_go (ma_tg pc off) ls st σ
  | .tableswitch d lo hi offs => match st with
    | .inl x :: r => if x.toInt < lo ∨ hi < x.toInt then ma_go (ma_tg pc d) ls r σ else match offs[(x.toInt - lo).toNat]? with
      | some off => ma_go (ma_tg pc off) ls r σ
      | none => none
    | _ => none
  | .lookupswitch d ps => match st with
    | .inl x :: r => ma_go (ma_tg pc (Op.lookupswitch.offset ps.toList d x.toInt)) ls r σ
    | _ => none
  | .getfield i => ma_gf μ i n ls st σ
  | .putfield i => ma_pf μ i n ls st σ
  | .getstatic i => match ma_gs (ma_cl μ) i with
    | some v => ma_go n ls (v :: st) σ
    | none => none
  | .iaload => match st with
    | .inl x :: .inr (.inr (g, i, j)) :: r => match g with
      | 50 => ma_if x (ma_la i) (ma_go n ls (.inl (σ.1 50 i j x.toNatClampNeg) :: r) σ) none
      | 40 => ma_if x (ma_ls i) (ma_go n ls (.inl (ma_sv i x.toNatClampNeg) :: r) σ) none
      | _ => none
    | _ => none
  | .baload => match st with
    | .inl x :: .inr (.inr (g, i, _)) :: r => match g with
      | 42 => ma_if x (ma_lw i) (ma_go n ls (.inl (ma_wv i x.toNatClampNeg) :: r) σ) none
      | _ => none
    | _ => none
  | .laload => match st with
    | .inl x :: .inr (.inr (g, i, _)) :: r => match g with
      | 60 => ma_if x (ma_lj i) (ma_go n ls (.inr (.inl (σ.2 i x.toNatClampNeg)) :: r) σ) none
      | _ => none
    | _ => none
  | .aaload => match st with
    | .inl x :: .inr (.inr (g, i, _)) :: r => match g with
      | 3 => ma_if x 4 (ma_go n ls (.inr (.inr (ma_re 3 i x.toNatClampNeg)) :: r) σ) none
      | 10 => ma_if x 3 (ma_go n ls (.inr (.inr (ma_re 10 i x.toNatClampNeg)) :: r) σ) none
      | 15 => ma_if x 8 (ma_go n ls (.inr (.inr (ma_re 15 i x.toNatClampNeg)) :: r) σ) none
      | _ => none
    | _ => none
  | .iastore => match st with
    | .inl v :: .inl x :: .inr (.inr (g, i, j)) :: r => match g with
      | 50 => ma_if x (ma_la i) (ma_go n ls r (ma_u σ 50 i j x.toNatClampNeg v)) none
      | _ => none
    | _ => none
  | .lastore => match st with
    | .inr (.inl v) :: .inl x :: .inr (.inr (g, i, _)) :: r => match g with
      | 60 => ma_if x (ma_lj i) (ma_go n ls r (ma_uJ σ i x.toNatClampNeg v)) none
      | _ => none
    | _ => none
  | .arraylength => match st with
    | .inr (.inr (g, i, _)) :: r => match g with
      | 42 => ma_go n ls (vI (nI (ma_lw i)) :: r) σ
      | _ => none
    | _ => none
  | .invokevirtual i => match ma_mt (ma_cl μ) i with
    | some (0, μ', k) => ma_call true μ' (k + 1) n ls st σ
    | _ => none
  | .invokestatic i => match ma_mt (ma_cl μ) i with
    | some (1, μ', k) => ma_call false μ' k n ls st σ
    | some (3, _, _) => match st with
      | .inl y :: .inl x :: r => match Nat.ble r.length 4 with
        | true => ma_go n ls (vI (if x < y then y else x) :: r) σ
        | false => none
      | _ => none
    | some (4, _, _) => match st with
      | .inl y :: .inl x :: r => match Nat.ble r.length 4 with
        | true => ma_go n ls (vI (if y < x then y else x) :: r) σ
        | false => none
      | _ => none
    | some (5, _, _) => match st with
      | .inl l :: .inl dp :: .inr (.inr (g1, i1, _)) :: .inl sp :: .inr (.inr (g0, i0, _)) :: r => match Nat.ble r.length 4, g0, g1 with
        | true, 50, 50 => if sp < 0 ∨ dp < 0 ∨ l < 0 ∨ ma_la i0 < sp.toNatClampNeg + l.toNatClampNeg ∨ ma_la i1 < dp.toNatClampNeg + l.toNatClampNeg then none else ma_go n ls r (ma_cI σ i0 sp.toNatClampNeg i1 dp.toNatClampNeg l.toNatClampNeg)
        | true, 60, 60 => if sp < 0 ∨ dp < 0 ∨ l < 0 ∨ ma_lj i0 < sp.toNatClampNeg + l.toNatClampNeg ∨ ma_lj i1 < dp.toNatClampNeg + l.toNatClampNeg then none else ma_go n ls r (ma_cJ σ i0 sp.toNatClampNeg i1 dp.toNatClampNeg l.toNatClampNeg)
        | _, _, _ => none
      | _ => none
    | _ => none
  | .ireturn => match st with
    | [.inl x] => match ma_rt μ with
      | 1 => some (.inl (some (.inl x), σ))
      | 2 => if x = 0 ∨ x = 1 then some (.inl (some (.inl x), σ)) else none
      | 3 => if 0 ≤ x.toInt ∧ x.toInt < 65536 then some (.inl (some (.inl x), σ)) else none
      | 4 => if x = 0 ∨ x = 1 then some (.inl (some (.inl x), σ)) else none
      | _ => none
    | _ => none
  | .lreturn => match st, ma_rt μ with
    | [.inr (.inl x)], 5 => some (.inl (some (.inr (.inl x)), σ))
    | _, _ => none
  | .areturn => match st, ma_rt μ with
    | [.inr (.inr (g, w, j))], 6 => match Nat.beq g 41 && (Nat.ble (w + 1) 8 && Nat.beq j 0) with
      | true => some (.inl (some (.inr (.inr (41, w, 0))), σ))
      | false => none
    | _, _ => none
  | .return_ => match st, ma_rt μ with
    | [], 0 => some (.inl (none, σ))
    | _, _ => none
  | _ => none
def ma_nx (μ pc : Nat) (ls : ma_L) (st : List ma_V) (σ : ma_S) : ma_N := match ma_lu (ma_cd μ) pc with
  | some (ins, len) => ma_st μ pc ins (pc + len) ls st σ
  | none => none
/-- runs: with fuel n, calls d deep -/
def ma_xF : Nat → Nat → Nat → Nat → ma_L → List ma_V → ma_S → Option ma_R
  | 0, _, _, _, _, _, _ => none
  | n + 1, d, μ, pc, ls, st, σ => match ma_nx μ pc ls st σ with
    | none => none
    | some (.inl r) => some r
    | some (.inr (.inl (pc', ls', st', σ'))) => ma_xF n d μ pc' ls' st' σ'
    | some (.inr (.inr (μ', as, pc', ls', st', σ'))) => match d with
      | 0 => none
      | d' + 1 => match ma_xF n d' μ' 0 (ma_ent μ' as) [] σ' with
        | none => none
        | some (r, σ'') => ma_xF n (d' + 1) μ pc' ls' (r.toList ++ st') σ''
theorem ma_xF_mono : ∀ (n d μ pc : Nat) (ls : ma_L) (st : List ma_V) (σ : ma_S) (r : ma_R), ma_xF n d μ pc ls st σ = some r → ma_xF (n + 1) d μ pc ls st σ = some r := by
  intro n
  induction n with
  | zero => intro d μ pc ls st σ r h; simp [ma_xF] at h
  | succ n ih =>
    intro d μ pc ls st σ r h
    rw [ma_xF] at h ⊢
    split at h
    · cases h
    · exact h
    · exact ih _ _ _ _ _ _ _ h
    · cases d with
      | zero => simp at h
      | succ d =>
        simp only at h ⊢
        split at h
        · cases h
        · rename_i r1 s1 h1
          rw [ih _ _ _ _ _ _ _ h1]
          exact ih _ _ _ _ _ _ _ h
theorem ma_xF_le {n k d μ pc : Nat} {ls : ma_L} {st : List ma_V} {σ : ma_S} {r : ma_R} (hk : n ≤ k) (h : ma_xF n d μ pc ls st σ = some r) : ma_xF k d μ pc ls st σ = some r := by
  induction hk with
  | refl => exact h
  | step _ ih => exact ma_xF_mono _ _ _ _ _ _ _ _ ih
theorem ma_ex_ex (d μ pc : Nat) (ls : ma_L) (st : List ma_V) (σ : ma_S) : ∃ o : Option ma_R, ∀ r, o = some r ↔ ∃ n, ma_xF n d μ pc ls st σ = some r := by
  by_cases h : ∃ n r, ma_xF n d μ pc ls st σ = some r
  · obtain ⟨n, r, h⟩ := h
    refine ⟨some r, fun r' => ⟨fun e => ⟨n, by rw [h, ← Option.some.inj e]⟩, fun ⟨k, e⟩ => ?_⟩⟩
    have h1 := ma_xF_le (Nat.le_max_left n k) h
    have h2 := ma_xF_le (Nat.le_max_right n k) e
    exact h1.symm.trans h2
  · exact ⟨none, fun r => ⟨fun e => (by cases e), fun ⟨n, e⟩ => absurd ⟨n, r, e⟩ h⟩⟩
noncomputable def ma_ex (d μ pc : Nat) (ls : ma_L) (st : List ma_V) (σ : ma_S) : Option ma_R := Classical.choose (ma_ex_ex d μ pc ls st σ)
theorem ma_ex_iff {d μ pc : Nat} {ls : ma_L} {st : List ma_V} {σ : ma_S} {r : ma_R} : ma_ex d μ pc ls st σ = some r ↔ ∃ n, ma_xF n d μ pc ls st σ = some r := Classical.choose_spec (ma_ex_ex d μ pc ls st σ) r
/-- a call's answer -/
noncomputable def ma_cal (d μ : Nat) (as : List ma_V) (σ : ma_S) : Option ma_R := match d with
  | 0 => none
  | d' + 1 => ma_ex d' μ 0 (ma_ent μ as) [] σ
def ma_bd (o : Option ma_R) (k : Option ma_V → ma_S → Option ma_R) : Option ma_R := match o with
  | none => none
  | some (r, σ) => k r σ
theorem ma_bd_some (r : Option ma_V) (σ : ma_S) (k : Option ma_V → ma_S → Option ma_R) : ma_bd (some (r, σ)) k = k r σ := rfl
theorem ma_bd_none (k : Option ma_V → ma_S → Option ma_R) : ma_bd none k = none := rfl
theorem ma_opt_ext {α : Type} {a b : Option α} (h : ∀ r, a = some r ↔ b = some r) : a = b := by
  cases a with
  | none => cases b with
    | none => rfl
    | some y => exact absurd ((h y).mpr rfl) (by simp)
  | some x => exact ((h x).mp rfl).symm
theorem ma_ex_ret {d μ pc : Nat} {ls : ma_L} {st : List ma_V} {σ : ma_S} {r : ma_R} (h : ma_nx μ pc ls st σ = some (.inl r)) : ma_ex d μ pc ls st σ = some r :=
  ma_ex_iff.mpr ⟨1, by rw [ma_xF, h]⟩
theorem ma_ex_go {d μ pc pc' : Nat} {ls ls' : ma_L} {st st' : List ma_V} {σ σ' : ma_S} (h : ma_nx μ pc ls st σ = ma_go pc' ls' st' σ') : ma_ex d μ pc ls st σ = ma_ex d μ pc' ls' st' σ' := by
  refine ma_opt_ext fun r => ⟨fun e => ?_, fun e => ?_⟩
  · obtain ⟨n, e⟩ := ma_ex_iff.mp e
    cases n with
    | zero => simp [ma_xF] at e
    | succ n =>
      rw [ma_xF, h] at e
      exact ma_ex_iff.mpr ⟨n, e⟩
  · obtain ⟨n, e⟩ := ma_ex_iff.mp e
    exact ma_ex_iff.mpr ⟨n + 1, by rw [ma_xF, h]; exact e⟩
theorem ma_ex_call {d μ pc μ' pc' : Nat} {as : List ma_V} {ls ls' : ma_L} {st st' : List ma_V} {σ σ' : ma_S} (h : ma_nx μ pc ls st σ = some (.inr (.inr (μ', as, pc', ls', st', σ')))) :
    ma_ex d μ pc ls st σ = ma_bd (ma_cal d μ' as σ') (fun r σ'' => ma_ex d μ pc' ls' (r.toList ++ st') σ'') := by
  refine ma_opt_ext fun r => ⟨fun e => ?_, fun e => ?_⟩
  · obtain ⟨n, e⟩ := ma_ex_iff.mp e
    cases n with
    | zero => simp [ma_xF] at e
    | succ n =>
      rw [ma_xF, h] at e
      cases d with
      | zero => simp at e
      | succ d =>
        simp only at e
        split at e
        · cases e
        · rename_i r1 s1 h1
          have h2 : ma_cal (d + 1) μ' as σ' = some (r1, s1) := ma_ex_iff.mpr ⟨n, h1⟩
          rw [h2, ma_bd_some]
          exact ma_ex_iff.mpr ⟨n, e⟩
  · cases d with
    | zero => cases e
    | succ d =>
      cases h2 : ma_cal (d + 1) μ' as σ' with
      | none => rw [h2] at e; cases e
      | some q =>
        obtain ⟨r1, s1⟩ := q
        rw [h2, ma_bd_some] at e
        obtain ⟨n1, e1⟩ := ma_ex_iff.mp e
        have h3 : ma_ex d μ' 0 (ma_ent μ' as) [] σ' = some (r1, s1) := h2
        obtain ⟨n2, e2⟩ := ma_ex_iff.mp h3
        refine ma_ex_iff.mpr ⟨max n1 n2 + 1, ?_⟩
        rw [ma_xF, h]
        simp only
        rw [ma_xF_le (Nat.le_max_right n1 n2) e2]
        exact ma_xF_le (Nat.le_max_left n1 n2) e1
theorem ma_cal_eq (d μ : Nat) (as : List ma_V) (σ : ma_S) : ma_cal (d + 1) μ as σ = ma_ex d μ 0 (ma_ent μ as) [] σ := rfl
