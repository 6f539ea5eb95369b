/-! PART 03: one row an instruction, for runs without fuel. -/
theorem ma_ic {α : Type} {x : Int32} {n : Nat} {a b c : α} (h : a = b) : ma_if x n a c = ma_if x n b c := by rw [h]
theorem ma_ie {α : Type} {c : Prop} [Decidable c] {a b z : α} (h : a = b) : (if c then z else a) = (if c then z else b) := by rw [h]
theorem ma_it {α : Type} {c : Prop} [Decidable c] {a b z : α} (h : a = b) : (if c then a else z) = (if c then b else z) := by rw [h]
section EI
variable {d μ pc n i k : Nat} {cs : List (Nat × Instr × Nat)} {ls : ma_L} {st : List ma_V} {σ : ma_S} {x y v : Int32}
theorem ei_iconst {k : Int} (hc : ma_cd μ = cs) (h : ma_lu cs pc = some (.iconst k, n)) (hv : Int32.ofInt k = v) : ma_ex d μ pc ls st σ = ma_ex d μ (pc + n) ls (vI v :: st) σ := ma_ex_go (by rw [ma_nx, hc, h, ← hv]; rfl)
theorem ei_bipush {k : Int} (hc : ma_cd μ = cs) (h : ma_lu cs pc = some (.bipush k, n)) (hv : (Int8.ofInt k).toInt32 = v) : ma_ex d μ pc ls st σ = ma_ex d μ (pc + n) ls (vI v :: st) σ := ma_ex_go (by rw [ma_nx, hc, h, ← hv]; rfl)
theorem ei_sipush {k : Int} (hc : ma_cd μ = cs) (h : ma_lu cs pc = some (.sipush k, n)) (hv : (Int16.ofInt k).toInt32 = v) : ma_ex d μ pc ls st σ = ma_ex d μ (pc + n) ls (vI v :: st) σ := ma_ex_go (by rw [ma_nx, hc, h, ← hv]; rfl)
theorem ei_lconst {k : Fin 2} {v : Int64} (hc : ma_cd μ = cs) (h : ma_lu cs pc = some (.lconst k, n)) (hv : Int64.ofNat (k : Nat) = v) : ma_ex d μ pc ls st σ = ma_ex d μ (pc + n) ls (vL v :: st) σ := ma_ex_go (by rw [ma_nx, hc, h, ← hv]; rfl)
theorem ei_ldc {c : Nat} {v : ma_V} (hc : ma_cd μ = cs) (h : ma_lu cs pc = some (.ldc i, n)) (hcl : ma_cl μ = c) (hv : ma_lc c i = some v) : ma_ex d μ pc ls st σ = ma_ex d μ (pc + n) ls (v :: st) σ := ma_ex_go (by rw [ma_nx, hc, h]; simp only [ma_st, hcl, hv])
theorem ei_ldc_w {c : Nat} {v : ma_V} (hc : ma_cd μ = cs) (h : ma_lu cs pc = some (.ldc_w i, n)) (hcl : ma_cl μ = c) (hv : ma_lc c i = some v) : ma_ex d μ pc ls st σ = ma_ex d μ (pc + n) ls (v :: st) σ := ma_ex_go (by rw [ma_nx, hc, h]; simp only [ma_st, hcl, hv])
theorem ei_iload (hc : ma_cd μ = cs) (h : ma_lu cs pc = some (.iload i, n)) (hl : ls[i]? = some (some (vI x))) : ma_ex d μ pc ls st σ = ma_ex d μ (pc + n) ls (vI x :: st) σ := ma_ex_go (by rw [ma_nx, hc, h]; simp only [ma_st, ma_ld, hl])
theorem ei_iload_n {i : Fin 4} (hc : ma_cd μ = cs) (h : ma_lu cs pc = some (.iload_n i, n)) (hl : ls[i.val]? = some (some (vI x))) : ma_ex d μ pc ls st σ = ma_ex d μ (pc + n) ls (vI x :: st) σ := ma_ex_go (by rw [ma_nx, hc, h]; simp only [ma_st, ma_ld, hl])
theorem ei_lload_n {i : Fin 4} {x : Int64} (hc : ma_cd μ = cs) (h : ma_lu cs pc = some (.lload_n i, n)) (hl : ls[i.val]? = some (some (vL x))) : ma_ex d μ pc ls st σ = ma_ex d μ (pc + n) ls (vL x :: st) σ := ma_ex_go (by rw [ma_nx, hc, h]; simp only [ma_st, ma_lL, hl])
theorem ei_aload {g a b : Nat} (hc : ma_cd μ = cs) (h : ma_lu cs pc = some (.aload i, n)) (hl : ls[i]? = some (some (vR g a b))) : ma_ex d μ pc ls st σ = ma_ex d μ (pc + n) ls (vR g a b :: st) σ := ma_ex_go (by rw [ma_nx, hc, h]; simp only [ma_st, ma_lA, hl])
theorem ei_aload_n {i : Fin 4} {g a b : Nat} (hc : ma_cd μ = cs) (h : ma_lu cs pc = some (.aload_n i, n)) (hl : ls[i.val]? = some (some (vR g a b))) : ma_ex d μ pc ls st σ = ma_ex d μ (pc + n) ls (vR g a b :: st) σ := ma_ex_go (by rw [ma_nx, hc, h]; simp only [ma_st, ma_lA, hl])
theorem ei_istore {ls' : ma_L} (hc : ma_cd μ = cs) (h : ma_lu cs pc = some (.istore i, n)) (hb : Nat.ble (i + 1) ls.length = true) (hj : ma_isJ ls (i - 1) = false) (hs : ls.set i (some (vI x)) = ls') : ma_ex d μ pc ls (vI x :: st) σ = ma_ex d μ (pc + n) ls' st σ := ma_ex_go (by rw [ma_nx, hc, h]; simp only [ma_st, ma_sI, ma_sl, hb, hj, hs])
theorem ei_istore_n {i : Fin 4} {ls' : ma_L} (hc : ma_cd μ = cs) (h : ma_lu cs pc = some (.istore_n i, n)) (hb : Nat.ble (i.val + 1) ls.length = true) (hj : ma_isJ ls (i.val - 1) = false) (hs : ls.set i.val (some (vI x)) = ls') : ma_ex d μ pc ls (vI x :: st) σ = ma_ex d μ (pc + n) ls' st σ := ma_ex_go (by rw [ma_nx, hc, h]; simp only [ma_st, ma_sI, ma_sl, hb, hj, hs])
theorem ei_astore {g a b : Nat} {ls' : ma_L} (hc : ma_cd μ = cs) (h : ma_lu cs pc = some (.astore i, n)) (hb : Nat.ble (i + 1) ls.length = true) (hj : ma_isJ ls (i - 1) = false) (hs : ls.set i (some (vR g a b)) = ls') : ma_ex d μ pc ls (vR g a b :: st) σ = ma_ex d μ (pc + n) ls' st σ := ma_ex_go (by rw [ma_nx, hc, h]; simp only [ma_st, ma_sA, ma_sl, hb, hj, hs])
theorem ei_astore_n {i : Fin 4} {g a b : Nat} {ls' : ma_L} (hc : ma_cd μ = cs) (h : ma_lu cs pc = some (.astore_n i, n)) (hb : Nat.ble (i.val + 1) ls.length = true) (hj : ma_isJ ls (i.val - 1) = false) (hs : ls.set i.val (some (vR g a b)) = ls') : ma_ex d μ pc ls (vR g a b :: st) σ = ma_ex d μ (pc + n) ls' st σ := ma_ex_go (by rw [ma_nx, hc, h]; simp only [ma_st, ma_sA, ma_sl, hb, hj, hs])
theorem ei_iinc {k : Int} {ls' : ma_L} (hc : ma_cd μ = cs) (h : ma_lu cs pc = some (.iinc i k, n)) (hl : ls[i]? = some (some (vI x))) (hv : Int32.ofInt k = v) (hb : Nat.ble (i + 1) ls.length = true) (hj : ma_isJ ls (i - 1) = false) (hs : ls.set i (some (vI (x + v))) = ls') : ma_ex d μ pc ls st σ = ma_ex d μ (pc + n) ls' st σ := ma_ex_go (by rw [ma_nx, hc, h]; simp only [ma_st, hl, ma_sl, hb, hj, hv, hs])
theorem ei_iadd (hc : ma_cd μ = cs) (h : ma_lu cs pc = some (.iadd, n)) : ma_ex d μ pc ls (vI y :: vI x :: st) σ = ma_ex d μ (pc + n) ls (vI (x + y) :: st) σ := ma_ex_go (by rw [ma_nx, hc, h]; rfl)
theorem ei_isub (hc : ma_cd μ = cs) (h : ma_lu cs pc = some (.isub, n)) : ma_ex d μ pc ls (vI y :: vI x :: st) σ = ma_ex d μ (pc + n) ls (vI (x - y) :: st) σ := ma_ex_go (by rw [ma_nx, hc, h]; rfl)
theorem ei_imul (hc : ma_cd μ = cs) (h : ma_lu cs pc = some (.imul, n)) : ma_ex d μ pc ls (vI y :: vI x :: st) σ = ma_ex d μ (pc + n) ls (vI (x * y) :: st) σ := ma_ex_go (by rw [ma_nx, hc, h]; rfl)
theorem ei_ior (hc : ma_cd μ = cs) (h : ma_lu cs pc = some (.ior, n)) : ma_ex d μ pc ls (vI y :: vI x :: st) σ = ma_ex d μ (pc + n) ls (vI (x ||| y) :: st) σ := ma_ex_go (by rw [ma_nx, hc, h]; rfl)
theorem ei_ixor (hc : ma_cd μ = cs) (h : ma_lu cs pc = some (.ixor, n)) : ma_ex d μ pc ls (vI y :: vI x :: st) σ = ma_ex d μ (pc + n) ls (vI (x ^^^ y) :: st) σ := ma_ex_go (by rw [ma_nx, hc, h]; rfl)
theorem ei_iand (hc : ma_cd μ = cs) (h : ma_lu cs pc = some (.iand, n)) : ma_ex d μ pc ls (vI y :: vI x :: st) σ = ma_ex d μ (pc + n) ls (vI (x &&& y) :: st) σ := ma_ex_go (by rw [ma_nx, hc, h]; rfl)
theorem ei_ishl (hc : ma_cd μ = cs) (h : ma_lu cs pc = some (.ishl, n)) : ma_ex d μ pc ls (vI y :: vI x :: st) σ = ma_ex d μ (pc + n) ls (vI (x <<< (y &&& 31)) :: st) σ := ma_ex_go (by rw [ma_nx, hc, h]; rfl)
theorem ei_ishr (hc : ma_cd μ = cs) (h : ma_lu cs pc = some (.ishr, n)) : ma_ex d μ pc ls (vI y :: vI x :: st) σ = ma_ex d μ (pc + n) ls (vI (x >>> (y &&& 31)) :: st) σ := ma_ex_go (by rw [ma_nx, hc, h]; rfl)
theorem ei_iushr (hc : ma_cd μ = cs) (h : ma_lu cs pc = some (.iushr, n)) : ma_ex d μ pc ls (vI y :: vI x :: st) σ = ma_ex d μ (pc + n) ls (vI (x.toUInt32 >>> (y.toUInt32 &&& Int32.toUInt32 31)).toInt32 :: st) σ := ma_ex_go (by rw [ma_nx, hc, h]; rfl)
theorem ei_idiv (hc : ma_cd μ = cs) (h : ma_lu cs pc = some (.idiv, n)) (hy : ¬ y = 0) : ma_ex d μ pc ls (vI y :: vI x :: st) σ = ma_ex d μ (pc + n) ls (vI (x / y) :: st) σ := ma_ex_go (by rw [ma_nx, hc, h]; simp only [ma_st, if_neg hy])
theorem ei_irem (hc : ma_cd μ = cs) (h : ma_lu cs pc = some (.irem, n)) (hy : ¬ y = 0) : ma_ex d μ pc ls (vI y :: vI x :: st) σ = ma_ex d μ (pc + n) ls (vI (ma_rm x y) :: st) σ := ma_ex_go (by rw [ma_nx, hc, h]; simp only [ma_st, if_neg hy])
theorem ma_ex_stuck (h : ma_nx μ pc ls st σ = none) : ma_ex d μ pc ls st σ = none := by
  cases e : ma_ex d μ pc ls st σ with
  | none => rfl
  | some r =>
    obtain ⟨n, e⟩ := ma_ex_iff.mp e
    cases n with
    | zero => simp [ma_xF] at e
    | succ n => rw [ma_xF, h] at e; cases e
theorem ei_irem' (hc : ma_cd μ = cs) (h : ma_lu cs pc = some (.irem, n)) : ma_ex d μ pc ls (vI y :: vI x :: st) σ = if y = 0 then none else ma_ex d μ (pc + n) ls (vI (ma_rm x y) :: st) σ := by
  split
  · exact ma_ex_stuck (by rw [ma_nx, hc, h]; simp only [ma_st]; rw [if_pos (by assumption)])
  · exact ei_irem hc h (by assumption)
theorem ei_ineg (hc : ma_cd μ = cs) (h : ma_lu cs pc = some (.ineg, n)) : ma_ex d μ pc ls (vI x :: st) σ = ma_ex d μ (pc + n) ls (vI (-x) :: st) σ := ma_ex_go (by rw [ma_nx, hc, h]; rfl)
theorem ei_i2l (hc : ma_cd μ = cs) (h : ma_lu cs pc = some (.i2l, n)) : ma_ex d μ pc ls (vI x :: st) σ = ma_ex d μ (pc + n) ls (vL x.toInt64 :: st) σ := ma_ex_go (by rw [ma_nx, hc, h]; rfl)
theorem ei_l2i {x : Int64} (hc : ma_cd μ = cs) (h : ma_lu cs pc = some (.l2i, n)) : ma_ex d μ pc ls (vL x :: st) σ = ma_ex d μ (pc + n) ls (vI x.toInt32 :: st) σ := ma_ex_go (by rw [ma_nx, hc, h]; rfl)
theorem ei_i2b (hc : ma_cd μ = cs) (h : ma_lu cs pc = some (.i2b, n)) : ma_ex d μ pc ls (vI x :: st) σ = ma_ex d μ (pc + n) ls (vI x.toInt8.toInt32 :: st) σ := ma_ex_go (by rw [ma_nx, hc, h]; rfl)
theorem ei_i2s (hc : ma_cd μ = cs) (h : ma_lu cs pc = some (.i2s, n)) : ma_ex d μ pc ls (vI x :: st) σ = ma_ex d μ (pc + n) ls (vI x.toInt16.toInt32 :: st) σ := ma_ex_go (by rw [ma_nx, hc, h]; rfl)
theorem ei_i2c (hc : ma_cd μ = cs) (h : ma_lu cs pc = some (.i2c, n)) : ma_ex d μ pc ls (vI x :: st) σ = ma_ex d μ (pc + n) ls (vI (x.toUInt32 % 65536).toInt32 :: st) σ := ma_ex_go (by rw [ma_nx, hc, h]; rfl)
theorem ei_dupI (hc : ma_cd μ = cs) (h : ma_lu cs pc = some (.dup, n)) : ma_ex d μ pc ls (vI x :: st) σ = ma_ex d μ (pc + n) ls (vI x :: vI x :: st) σ := ma_ex_go (by rw [ma_nx, hc, h]; rfl)
theorem ei_dupR {g a b : Nat} (hc : ma_cd μ = cs) (h : ma_lu cs pc = some (.dup, n)) : ma_ex d μ pc ls (vR g a b :: st) σ = ma_ex d μ (pc + n) ls (vR g a b :: vR g a b :: st) σ := ma_ex_go (by rw [ma_nx, hc, h]; rfl)
theorem ei_dup2 {g a b : Nat} (hc : ma_cd μ = cs) (h : ma_lu cs pc = some (.dup2, n)) : ma_ex d μ pc ls (vI x :: vR g a b :: st) σ = ma_ex d μ (pc + n) ls (vI x :: vR g a b :: vI x :: vR g a b :: st) σ := ma_ex_go (by rw [ma_nx, hc, h]; rfl)
theorem ei_dup_x1 {g a b : Nat} (hc : ma_cd μ = cs) (h : ma_lu cs pc = some (.dup_x1, n)) : ma_ex d μ pc ls (vI x :: vR g a b :: st) σ = ma_ex d μ (pc + n) ls (vI x :: vR g a b :: vI x :: st) σ := ma_ex_go (by rw [ma_nx, hc, h]; rfl)
theorem ei_pop (hc : ma_cd μ = cs) (h : ma_lu cs pc = some (.pop, n)) : ma_ex d μ pc ls (vI x :: st) σ = ma_ex d μ (pc + n) ls st σ := ma_ex_go (by rw [ma_nx, hc, h]; rfl)
theorem ei_goto {off : Int} {t : Nat} (hc : ma_cd μ = cs) (h : ma_lu cs pc = some (.goto off, n)) (ht : ma_tg pc off = t) : ma_ex d μ pc ls st σ = ma_ex d μ t ls st σ := ma_ex_go (by rw [ma_nx, hc, h, ← ht]; rfl)
theorem ma_ex_if {c : Prop} [Decidable c] {a b : Nat} {ls' : ma_L} {st' : List ma_V} {σ' : ma_S} (h : ma_nx μ pc ls st σ = ma_go (if c then a else b) ls' st' σ') : ma_ex d μ pc ls st σ = if c then ma_ex d μ a ls' st' σ' else ma_ex d μ b ls' st' σ' := by
  rw [ma_ex_go h]
  split <;> rfl
theorem ei_if_eq {off : Int} {t : Nat} (hc : ma_cd μ = cs) (h : ma_lu cs pc = some (.ifCond .eq off, n)) (ht : ma_tg pc off = t) : ma_ex d μ pc ls (vI x :: st) σ = if x = 0 then ma_ex d μ t ls st σ else ma_ex d μ (pc + n) ls st σ := ma_ex_if (by rw [ma_nx, hc, h, ← ht]; rfl)
theorem ei_if_ne {off : Int} {t : Nat} (hc : ma_cd μ = cs) (h : ma_lu cs pc = some (.ifCond .ne off, n)) (ht : ma_tg pc off = t) : ma_ex d μ pc ls (vI x :: st) σ = if x = 0 then ma_ex d μ (pc + n) ls st σ else ma_ex d μ t ls st σ := ma_ex_if (by rw [ma_nx, hc, h, ← ht]; rfl)
theorem ei_if_lt {off : Int} {t : Nat} (hc : ma_cd μ = cs) (h : ma_lu cs pc = some (.ifCond .lt off, n)) (ht : ma_tg pc off = t) : ma_ex d μ pc ls (vI x :: st) σ = if x < 0 then ma_ex d μ t ls st σ else ma_ex d μ (pc + n) ls st σ := ma_ex_if (by rw [ma_nx, hc, h, ← ht]; rfl)
theorem ei_if_ge {off : Int} {t : Nat} (hc : ma_cd μ = cs) (h : ma_lu cs pc = some (.ifCond .ge off, n)) (ht : ma_tg pc off = t) : ma_ex d μ pc ls (vI x :: st) σ = if 0 ≤ x then ma_ex d μ t ls st σ else ma_ex d μ (pc + n) ls st σ := ma_ex_if (by rw [ma_nx, hc, h, ← ht]; rfl)
theorem ei_if_gt {off : Int} {t : Nat} (hc : ma_cd μ = cs) (h : ma_lu cs pc = some (.ifCond .gt off, n)) (ht : ma_tg pc off = t) : ma_ex d μ pc ls (vI x :: st) σ = if 0 < x then ma_ex d μ t ls st σ else ma_ex d μ (pc + n) ls st σ := ma_ex_if (by rw [ma_nx, hc, h, ← ht]; rfl)
theorem ei_if_le {off : Int} {t : Nat} (hc : ma_cd μ = cs) (h : ma_lu cs pc = some (.ifCond .le off, n)) (ht : ma_tg pc off = t) : ma_ex d μ pc ls (vI x :: st) σ = if x ≤ 0 then ma_ex d μ t ls st σ else ma_ex d μ (pc + n) ls st σ := ma_ex_if (by rw [ma_nx, hc, h, ← ht]; rfl)
theorem ei_ic_eq {off : Int} {t : Nat} (hc : ma_cd μ = cs) (h : ma_lu cs pc = some (.if_icmp .eq off, n)) (ht : ma_tg pc off = t) : ma_ex d μ pc ls (vI y :: vI x :: st) σ = if x = y then ma_ex d μ t ls st σ else ma_ex d μ (pc + n) ls st σ := ma_ex_if (by rw [ma_nx, hc, h, ← ht]; rfl)
theorem ei_ic_ne {off : Int} {t : Nat} (hc : ma_cd μ = cs) (h : ma_lu cs pc = some (.if_icmp .ne off, n)) (ht : ma_tg pc off = t) : ma_ex d μ pc ls (vI y :: vI x :: st) σ = if x = y then ma_ex d μ (pc + n) ls st σ else ma_ex d μ t ls st σ := ma_ex_if (by rw [ma_nx, hc, h, ← ht]; rfl)
theorem ei_ic_lt {off : Int} {t : Nat} (hc : ma_cd μ = cs) (h : ma_lu cs pc = some (.if_icmp .lt off, n)) (ht : ma_tg pc off = t) : ma_ex d μ pc ls (vI y :: vI x :: st) σ = if x < y then ma_ex d μ t ls st σ else ma_ex d μ (pc + n) ls st σ := ma_ex_if (by rw [ma_nx, hc, h, ← ht]; rfl)
theorem ei_ic_ge {off : Int} {t : Nat} (hc : ma_cd μ = cs) (h : ma_lu cs pc = some (.if_icmp .ge off, n)) (ht : ma_tg pc off = t) : ma_ex d μ pc ls (vI y :: vI x :: st) σ = if y ≤ x then ma_ex d μ t ls st σ else ma_ex d μ (pc + n) ls st σ := ma_ex_if (by rw [ma_nx, hc, h, ← ht]; rfl)
theorem ei_ic_gt {off : Int} {t : Nat} (hc : ma_cd μ = cs) (h : ma_lu cs pc = some (.if_icmp .gt off, n)) (ht : ma_tg pc off = t) : ma_ex d μ pc ls (vI y :: vI x :: st) σ = if y < x then ma_ex d μ t ls st σ else ma_ex d μ (pc + n) ls st σ := ma_ex_if (by rw [ma_nx, hc, h, ← ht]; rfl)
theorem ei_ic_le {off : Int} {t : Nat} (hc : ma_cd μ = cs) (h : ma_lu cs pc = some (.if_icmp .le off, n)) (ht : ma_tg pc off = t) : ma_ex d μ pc ls (vI y :: vI x :: st) σ = if x ≤ y then ma_ex d μ t ls st σ else ma_ex d μ (pc + n) ls st σ := ma_ex_if (by rw [ma_nx, hc, h, ← ht]; rfl)
/-- a chain of cases from a first number on -/
def ma_ch {α : Type} (x : Int32) (f : Nat → α) (dflt : Nat) : Int → List Nat → α
  | _, [] => f dflt
  | a, t :: r => if x = Int32.ofInt a then f t else ma_ch x f dflt (a + 1) r
theorem ma_ch_out {α : Type} {x : Int32} {f : Nat → α} {dflt : Nat} : ∀ (l : List Nat) (a : Int), -2147483648 ≤ a → a + l.length ≤ 2147483647 → (x.toInt < a ∨ a + l.length ≤ x.toInt) → ma_ch x f dflt a l = f dflt
  | [], _, _, _, _ => rfl
  | t :: r, a, h1, h2, h3 => by
    simp only [List.length_cons] at h2 h3
    rw [ma_ch, if_neg, ma_ch_out r (a + 1) (by omega) (by omega) (by omega)]
    intro e
    have e2 : x.toInt = a := by rw [e]; exact Int32.toInt_ofInt_of_le (by simpa using h1) (by omega)
    omega
theorem ma_ch_in {α : Type} {x : Int32} {f : Nat → α} {dflt t : Nat} : ∀ (l : List Nat) (a : Int), -2147483648 ≤ a → a + l.length ≤ 2147483647 → a ≤ x.toInt → l[(x.toInt - a).toNat]? = some t → ma_ch x f dflt a l = f t
  | [], _, _, _, _, h => by simp at h
  | u :: r, a, h1, h2, h3, h4 => by
    simp only [List.length_cons] at h2
    rw [ma_ch]
    by_cases e : x = Int32.ofInt a
    · have e2 : x.toInt = a := by rw [e]; exact Int32.toInt_ofInt_of_le (by simpa using h1) (by omega)
      rw [if_pos e]
      rw [e2] at h4
      simp at h4
      rw [h4]
    · rw [if_neg e]
      have e2 : ¬ x.toInt = a := fun z => e (Int32.toInt_inj.mp (by rw [z]; exact (Int32.toInt_ofInt_of_le (by simpa using h1) (by omega)).symm))
      refine ma_ch_in r (a + 1) (by omega) (by omega) (by omega) ?_
      rw [show (x.toInt - a).toNat = (x.toInt - (a + 1)).toNat + 1 by omega, List.getElem?_cons_succ] at h4
      exact h4
theorem ei_tsw {dd lo hi : Int} {offs : Array Int} {ts : List Nat} {t : Nat} (hc : ma_cd μ = cs) (h : ma_lu cs pc = some (.tableswitch dd lo hi offs, n)) (ht : ma_tg pc dd = t) (hts : offs.toList.map (ma_tg pc) = ts) (hlo : -2147483648 ≤ lo) (hhi : hi + 1 = lo + ts.length) (hh : hi < 2147483647) :
    ma_ex d μ pc ls (vI x :: st) σ = ma_ch x (fun q => ma_ex d μ q ls st σ) t lo ts := by
  have hlen : ts.length = offs.size := by rw [← hts]; simp
  by_cases ho : x.toInt < lo ∨ hi < x.toInt
  · rw [ma_ch_out ts lo hlo (by omega) (by omega)]
    exact ma_ex_go (by rw [ma_nx, hc, h, ← ht]; simp only [ma_st]; rw [if_pos ho])
  · have hk : (x.toInt - lo).toNat < offs.size := by omega
    have hg : offs[(x.toInt - lo).toNat]? = some offs[(x.toInt - lo).toNat] := Array.getElem?_eq_getElem hk
    have hg2 : ts[(x.toInt - lo).toNat]? = some (ma_tg pc offs[(x.toInt - lo).toNat]) := by
      rw [← hts, List.getElem?_map, Array.getElem?_toList, hg]; rfl
    rw [ma_ch_in ts lo hlo (by omega) (by omega) hg2]
    exact ma_ex_go (by rw [ma_nx, hc, h]; simp only [ma_st]; rw [if_neg ho]; simp only [hg])
def ma_cl2 {α : Type} (x : Int32) (f : Nat → α) (dflt : Nat) : List (Int × Nat) → α
  | [] => f dflt
  | (a, t) :: r => if x = Int32.ofInt a then f t else ma_cl2 x f dflt r
theorem ma_cl2_eq {α : Type} {x : Int32} {f : Nat → α} {pc : Nat} {dd : Int} : ∀ (ps : List (Int × Int)), (∀ q ∈ ps, -2147483648 ≤ q.1 ∧ q.1 ≤ 2147483647) → f (ma_tg pc (Op.lookupswitch.offset ps dd x.toInt)) = ma_cl2 x f (ma_tg pc dd) (ps.map fun q => (q.1, ma_tg pc q.2))
  | [], _ => by rfl
  | (a, o) :: r, h => by
    have h1 := h (a, o) List.mem_cons_self
    rw [List.map_cons, ma_cl2, Op.lookupswitch.offset_cons]
    have e0 : (Int32.ofInt a).toInt = a := Int32.toInt_ofInt_of_le (by simpa using h1.1) (by omega)
    by_cases e : x = Int32.ofInt a
    · rw [if_pos e, if_pos (by rw [e, e0])]
    · rw [if_neg e, if_neg (fun z => e (Int32.toInt_inj.mp (by rw [e0]; exact z.symm)))]
      exact ma_cl2_eq r (fun q hq => h q (List.mem_cons_of_mem _ hq))
theorem ei_lsw {dd : Int} {ps : Array (Int × Int)} {ts : List (Int × Nat)} {t : Nat} (hc : ma_cd μ = cs) (h : ma_lu cs pc = some (.lookupswitch dd ps, n)) (ht : ma_tg pc dd = t) (hts : (ps.toList.map fun q => (q.1, ma_tg pc q.2)) = ts) (hr : ∀ q ∈ ps.toList, -2147483648 ≤ q.1 ∧ q.1 ≤ 2147483647) :
    ma_ex d μ pc ls (vI x :: st) σ = ma_cl2 x (fun q => ma_ex d μ q ls st σ) t ts := by
  rw [← hts, ← ht, ← ma_cl2_eq (f := fun q => ma_ex d μ q ls st σ) ps.toList hr]
  exact ma_ex_go (by rw [ma_nx, hc, h]; rfl)
theorem ei_getI {c g a b kind : Nat} (hc : ma_cd μ = cs) (h : ma_lu cs pc = some (.getfield i, n)) (hcl : ma_cl μ = c) (hf : ma_ft c i = some (g, k, kind)) (hk : kind = 0 ∨ kind = 1) : ma_ex d μ pc ls (vR g a b :: st) σ = ma_ex d μ (pc + n) ls (vI (σ.1 g a b k) :: st) σ := ma_ex_go (by
  rw [ma_nx, hc, h]
  simp only [ma_st, ma_gf, hcl, hf]
  have : Nat.beq g g = true := by simp
  rcases hk with rfl | rfl <;> simp [this])
theorem ei_getR {c g a b g' a' b' : Nat} (hc : ma_cd μ = cs) (h : ma_lu cs pc = some (.getfield i, n)) (hcl : ma_cl μ = c) (hf : ma_ft c i = some (g, k, 2)) (hr : ma_rf g a k = (g', a', b')) : ma_ex d μ pc ls (vR g a b :: st) σ = ma_ex d μ (pc + n) ls (vR g' a' b' :: st) σ := ma_ex_go (by
  rw [ma_nx, hc, h]
  have : Nat.beq g g = true := by simp
  simp only [ma_st, ma_gf, hcl, hf, this, hr])
theorem ei_getB {c g a b : Nat} (hc : ma_cd μ = cs) (h : ma_lu cs pc = some (.getfield i, n)) (hcl : ma_cl μ = c) (hf : ma_ft c i = some (g, k, 3)) : ma_ex d μ pc ls (vR g a b :: st) σ = ma_ex d μ (pc + n) ls (vI 0 :: st) σ := ma_ex_go (by
  rw [ma_nx, hc, h]
  have : Nat.beq g g = true := by simp
  simp only [ma_st, ma_gf, hcl, hf, this])
theorem ei_putI {c g a b : Nat} (hc : ma_cd μ = cs) (h : ma_lu cs pc = some (.putfield i, n)) (hcl : ma_cl μ = c) (hf : ma_ft c i = some (g, k, 0)) : ma_ex d μ pc ls (vI x :: vR g a b :: st) σ = ma_ex d μ (pc + n) ls st (ma_u σ g a b k x) := ma_ex_go (by
  rw [ma_nx, hc, h]
  have : Nat.beq g g = true := by simp
  simp only [ma_st, ma_pf, hcl, hf, this])
theorem ei_putZ {c g a b : Nat} (hc : ma_cd μ = cs) (h : ma_lu cs pc = some (.putfield i, n)) (hcl : ma_cl μ = c) (hf : ma_ft c i = some (g, k, 1)) (hx : x = 0 ∨ x = 1) : ma_ex d μ pc ls (vI x :: vR g a b :: st) σ = ma_ex d μ (pc + n) ls st (ma_u σ g a b k x) := ma_ex_go (by
  rw [ma_nx, hc, h]
  have : Nat.beq g g = true := by simp
  simp only [ma_st, ma_pf, hcl, hf, this, if_pos hx])
theorem ei_putZ' {c g a b : Nat} (hc : ma_cd μ = cs) (h : ma_lu cs pc = some (.putfield i, n)) (hcl : ma_cl μ = c) (hf : ma_ft c i = some (g, k, 1)) : ma_ex d μ pc ls (vI x :: vR g a b :: st) σ = if x = 0 ∨ x = 1 then ma_ex d μ (pc + n) ls st (ma_u σ g a b k x) else none := by
  split
  · exact ei_putZ hc h hcl hf (by assumption)
  · refine ma_ex_stuck ?_
    rw [ma_nx, hc, h]
    have : Nat.beq g g = true := by simp
    simp only [ma_st, ma_pf, hcl, hf, this]
    rw [if_neg (by assumption)]
theorem ei_getS {c : Nat} {v : ma_V} (hc : ma_cd μ = cs) (h : ma_lu cs pc = some (.getstatic i, n)) (hcl : ma_cl μ = c) (hv : ma_gs c i = some v) : ma_ex d μ pc ls st σ = ma_ex d μ (pc + n) ls (v :: st) σ := ma_ex_go (by rw [ma_nx, hc, h]; simp only [ma_st, hcl, hv])
theorem ma_ex_in {m : Nat} {ls' : ma_L} {st' : List ma_V} {σ' : ma_S} {t : Nat} (h : ma_nx μ pc ls st σ = ma_if x m (ma_go t ls' st' σ') none) : ma_ex d μ pc ls st σ = ma_if x m (ma_ex d μ t ls' st' σ') none := by
  by_cases hx : ma_in x m
  · rw [ma_if_pos hx] at h ⊢; exact ma_ex_go h
  · rw [ma_if_neg hx] at h ⊢; exact ma_ex_stuck h
theorem ei_iald {a b m : Nat} (hc : ma_cd μ = cs) (h : ma_lu cs pc = some (.iaload, n)) (hm : ma_la a = m) : ma_ex d μ pc ls (vI x :: vR 50 a b :: st) σ = ma_if x m (ma_ex d μ (pc + n) ls (vI (σ.1 50 a b x.toNatClampNeg) :: st) σ) none := ma_ex_in (by rw [ma_nx, hc, h, ← hm]; rfl)
theorem ei_ialdS {a b m : Nat} (hc : ma_cd μ = cs) (h : ma_lu cs pc = some (.iaload, n)) (hm : ma_ls a = m) : ma_ex d μ pc ls (vI x :: vR 40 a b :: st) σ = ma_if x m (ma_ex d μ (pc + n) ls (vI (ma_sv a x.toNatClampNeg) :: st) σ) none := ma_ex_in (by rw [ma_nx, hc, h, ← hm]; rfl)
theorem ei_bald {a b m : Nat} (hc : ma_cd μ = cs) (h : ma_lu cs pc = some (.baload, n)) (hm : ma_lw a = m) : ma_ex d μ pc ls (vI x :: vR 42 a b :: st) σ = ma_if x m (ma_ex d μ (pc + n) ls (vI (ma_wv a x.toNatClampNeg) :: st) σ) none := ma_ex_in (by rw [ma_nx, hc, h, ← hm]; rfl)
theorem ei_lald {a b m : Nat} (hc : ma_cd μ = cs) (h : ma_lu cs pc = some (.laload, n)) (hm : ma_lj a = m) : ma_ex d μ pc ls (vI x :: vR 60 a b :: st) σ = ma_if x m (ma_ex d μ (pc + n) ls (vL (σ.2 a x.toNatClampNeg) :: st) σ) none := ma_ex_in (by rw [ma_nx, hc, h, ← hm]; rfl)
theorem ei_aald3 {a b : Nat} (hc : ma_cd μ = cs) (h : ma_lu cs pc = some (.aaload, n)) : ma_ex d μ pc ls (vI x :: vR 3 a b :: st) σ = ma_if x 4 (ma_ex d μ (pc + n) ls (vR 4 a x.toNatClampNeg :: st) σ) none := ma_ex_in (by rw [ma_nx, hc, h]; rfl)
theorem ei_aald10 {a b : Nat} (hc : ma_cd μ = cs) (h : ma_lu cs pc = some (.aaload, n)) : ma_ex d μ pc ls (vI x :: vR 10 a b :: st) σ = ma_if x 3 (ma_ex d μ (pc + n) ls (vR 2 (5 + x.toNatClampNeg) 0 :: st) σ) none := ma_ex_in (by rw [ma_nx, hc, h]; rfl)
theorem ei_aald15 {a b : Nat} (hc : ma_cd μ = cs) (h : ma_lu cs pc = some (.aaload, n)) : ma_ex d μ pc ls (vI x :: vR 15 a b :: st) σ = ma_if x 8 (ma_ex d μ (pc + n) ls (vR 16 x.toNatClampNeg 0 :: st) σ) none := ma_ex_in (by rw [ma_nx, hc, h]; rfl)
theorem ei_iast {a b m : Nat} (hc : ma_cd μ = cs) (h : ma_lu cs pc = some (.iastore, n)) (hm : ma_la a = m) : ma_ex d μ pc ls (vI v :: vI x :: vR 50 a b :: st) σ = ma_if x m (ma_ex d μ (pc + n) ls st (ma_u σ 50 a b x.toNatClampNeg v)) none := ma_ex_in (by rw [ma_nx, hc, h, ← hm]; rfl)
theorem ei_last {a b m : Nat} {v : Int64} (hc : ma_cd μ = cs) (h : ma_lu cs pc = some (.lastore, n)) (hm : ma_lj a = m) : ma_ex d μ pc ls (vL v :: vI x :: vR 60 a b :: st) σ = ma_if x m (ma_ex d μ (pc + n) ls st (ma_uJ σ a x.toNatClampNeg v)) none := ma_ex_in (by rw [ma_nx, hc, h, ← hm]; rfl)
theorem ei_alen {a b : Nat} (hc : ma_cd μ = cs) (h : ma_lu cs pc = some (.arraylength, n)) : ma_ex d μ pc ls (vR 42 a b :: st) σ = ma_ex d μ (pc + n) ls (vI (nI (ma_lw a)) :: st) σ := ma_ex_go (by rw [ma_nx, hc, h]; rfl)
theorem ei_callV {c μ' : Nat} {as r : List ma_V} (hc : ma_cd μ = cs) (h : ma_lu cs pc = some (.invokevirtual i, n)) (hcl : ma_cl μ = c) (hm : ma_mt c i = some (0, μ', k)) (hq : ma_call true μ' (k + 1) (pc + n) ls st σ = some (.inr (.inr (μ', as, pc + n, ls, r, σ)))) :
    ma_ex d μ pc ls st σ = ma_bd (ma_cal d μ' as σ) (fun v σ' => ma_ex d μ (pc + n) ls (v.toList ++ r) σ') := ma_ex_call (by rw [ma_nx, hc, h]; simp only [ma_st, hcl, hm, hq])
theorem ei_callS {c μ' : Nat} {as r : List ma_V} (hc : ma_cd μ = cs) (h : ma_lu cs pc = some (.invokestatic i, n)) (hcl : ma_cl μ = c) (hm : ma_mt c i = some (1, μ', k)) (hq : ma_call false μ' k (pc + n) ls st σ = some (.inr (.inr (μ', as, pc + n, ls, r, σ)))) :
    ma_ex d μ pc ls st σ = ma_bd (ma_cal d μ' as σ) (fun v σ' => ma_ex d μ (pc + n) ls (v.toList ++ r) σ') := ma_ex_call (by rw [ma_nx, hc, h]; simp only [ma_st, hcl, hm, hq])
theorem ei_max {c a : Nat} (hc : ma_cd μ = cs) (h : ma_lu cs pc = some (.invokestatic i, n)) (hcl : ma_cl μ = c) (hm : ma_mt c i = some (3, a, k)) (hs : Nat.ble st.length 4 = true) : ma_ex d μ pc ls (vI y :: vI x :: st) σ = ma_ex d μ (pc + n) ls (vI (if x < y then y else x) :: st) σ := ma_ex_go (by rw [ma_nx, hc, h]; simp only [ma_st, hcl, hm, hs])
theorem ei_min {c a : Nat} (hc : ma_cd μ = cs) (h : ma_lu cs pc = some (.invokestatic i, n)) (hcl : ma_cl μ = c) (hm : ma_mt c i = some (4, a, k)) (hs : Nat.ble st.length 4 = true) : ma_ex d μ pc ls (vI y :: vI x :: st) σ = ma_ex d μ (pc + n) ls (vI (if y < x then y else x) :: st) σ := ma_ex_go (by rw [ma_nx, hc, h]; simp only [ma_st, hcl, hm, hs])
theorem ei_cpJ {c a i0 i1 j0 j1 : Nat} {l dp sp : Int32} (hc : ma_cd μ = cs) (h : ma_lu cs pc = some (.invokestatic i, n)) (hcl : ma_cl μ = c) (hm : ma_mt c i = some (5, a, k)) (hs : Nat.ble st.length 4 = true) : ma_ex d μ pc ls (vI l :: vI dp :: vR 60 i1 j1 :: vI sp :: vR 60 i0 j0 :: st) σ = if sp < 0 ∨ dp < 0 ∨ l < 0 ∨ ma_lj i0 < sp.toNatClampNeg + l.toNatClampNeg ∨ ma_lj i1 < dp.toNatClampNeg + l.toNatClampNeg then none else ma_ex d μ (pc + n) ls st (ma_cJ σ i0 sp.toNatClampNeg i1 dp.toNatClampNeg l.toNatClampNeg) := by
  split
  · refine ma_ex_stuck ?_
    rw [ma_nx, hc, h]
    simp only [ma_st, hcl, hm, hs]
    rw [if_pos (by assumption)]
  · refine ma_ex_go ?_
    rw [ma_nx, hc, h]
    simp only [ma_st, hcl, hm, hs]
    rw [if_neg (by assumption)]
theorem ei_cpI {c a i0 i1 j0 j1 : Nat} {l dp sp : Int32} (hc : ma_cd μ = cs) (h : ma_lu cs pc = some (.invokestatic i, n)) (hcl : ma_cl μ = c) (hm : ma_mt c i = some (5, a, k)) (hs : Nat.ble st.length 4 = true) : ma_ex d μ pc ls (vI l :: vI dp :: vR 50 i1 j1 :: vI sp :: vR 50 i0 j0 :: st) σ = if sp < 0 ∨ dp < 0 ∨ l < 0 ∨ ma_la i0 < sp.toNatClampNeg + l.toNatClampNeg ∨ ma_la i1 < dp.toNatClampNeg + l.toNatClampNeg then none else ma_ex d μ (pc + n) ls st (ma_cI σ i0 sp.toNatClampNeg i1 dp.toNatClampNeg l.toNatClampNeg) := by
  split
  · refine ma_ex_stuck ?_
    rw [ma_nx, hc, h]
    simp only [ma_st, hcl, hm, hs]
    rw [if_pos (by assumption)]
  · refine ma_ex_go ?_
    rw [ma_nx, hc, h]
    simp only [ma_st, hcl, hm, hs]
    rw [if_neg (by assumption)]
theorem ei_iret (hc : ma_cd μ = cs) (h : ma_lu cs pc = some (.ireturn, n)) (hr : ma_rt μ = 1) : ma_ex d μ pc ls [vI x] σ = some (some (vI x), σ) := ma_ex_ret (by rw [ma_nx, hc, h]; simp only [ma_st, hr])
theorem ei_zret (hc : ma_cd μ = cs) (h : ma_lu cs pc = some (.ireturn, n)) (hr : ma_rt μ = 2) (hx : x = 0 ∨ x = 1) : ma_ex d μ pc ls [vI x] σ = some (some (vI x), σ) := ma_ex_ret (by rw [ma_nx, hc, h]; simp only [ma_st, hr, if_pos hx])
theorem ei_zret' (hc : ma_cd μ = cs) (h : ma_lu cs pc = some (.ireturn, n)) (hr : ma_rt μ = 2) : ma_ex d μ pc ls [vI x] σ = if x = 0 ∨ x = 1 then some (some (vI x), σ) else none := by
  split
  · exact ei_zret hc h hr (by assumption)
  · refine ma_ex_stuck ?_
    rw [ma_nx, hc, h]
    simp only [ma_st, hr]
    rw [if_neg (by assumption)]
theorem ei_bret (hc : ma_cd μ = cs) (h : ma_lu cs pc = some (.ireturn, n)) (hr : ma_rt μ = 4) (hx : x = 0 ∨ x = 1) : ma_ex d μ pc ls [vI x] σ = some (some (vI x), σ) := ma_ex_ret (by rw [ma_nx, hc, h]; simp only [ma_st, hr, if_pos hx])
theorem ei_cret (hc : ma_cd μ = cs) (h : ma_lu cs pc = some (.ireturn, n)) (hr : ma_rt μ = 3) : ma_ex d μ pc ls [vI x] σ = if 0 ≤ x.toInt ∧ x.toInt < 65536 then some (some (vI x), σ) else none := by
  split
  · refine ma_ex_ret ?_
    rw [ma_nx, hc, h]
    simp only [ma_st, hr]
    rw [if_pos (by assumption)]
  · refine ma_ex_stuck ?_
    rw [ma_nx, hc, h]
    simp only [ma_st, hr]
    rw [if_neg (by assumption)]
theorem ei_lret {x : Int64} (hc : ma_cd μ = cs) (h : ma_lu cs pc = some (.lreturn, n)) (hr : ma_rt μ = 5) : ma_ex d μ pc ls [vL x] σ = some (some (vL x), σ) := ma_ex_ret (by rw [ma_nx, hc, h]; simp only [ma_st, hr])
theorem ei_aret {a : Nat} (hc : ma_cd μ = cs) (h : ma_lu cs pc = some (.areturn, n)) (hr : ma_rt μ = 6) (hw : (Nat.beq 41 41 && (Nat.ble (a + 1) 8 && Nat.beq 0 0)) = true) : ma_ex d μ pc ls [vR 41 a 0] σ = some (some (vR 41 a 0), σ) := ma_ex_ret (by rw [ma_nx, hc, h]; simp only [ma_st, hr, hw])
theorem ei_vret (hc : ma_cd μ = cs) (h : ma_lu cs pc = some (.return_, n)) (hr : ma_rt μ = 0) : ma_ex d μ pc ls [] σ = some (none, σ) := ma_ex_ret (by rw [ma_nx, hc, h]; simp only [ma_st, hr])
end EI
