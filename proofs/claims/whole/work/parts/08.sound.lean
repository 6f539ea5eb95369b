/-! PART 08: a run of the small machine is a run of the machine. -/
abbrev ma_F : Type := Nat → Nat → Nat → Nat
abbrev ma_Q : Type := Nat × Nat × Nat
def ma_tv (φ : ma_F) (fv : Value) (v : ma_V) : Value := match v with
  | .inl x => .int x
  | .inr (.inl x) => .long x
  | .inr (.inr (g, i, j)) => match Nat.beq g 43 with
    | true => fv
    | false => .ref (φ g i j)
def ma_fv (φ : ma_F) (σ : ma_S) (c g i j k : Nat) : Value := match Nat.beq (ma_kd c k) 2 with
  | true => .ref (φ (ma_rf g i (ma_sk c k)).1 (ma_rf g i (ma_sk c k)).2.1 (ma_rf g i (ma_sk c k)).2.2)
  | false => .int (σ.1 g i j (ma_sk c k))
def ma_fs (φ : ma_F) (σ : ma_S) (c g i j : Nat) : List Value := (List.range (ma_nf c)).map (ma_fv φ σ c g i j)
def ma_ce (φ : ma_F) (cA : Nat → ClassId) (σ : ma_S) (q : ma_Q) : va_E := match q.1 with
  | 3 => .inl (cA 2, 4, .inr (.inr (.inr (.inr (fun k => some (φ 4 q.2.1 k))))))
  | 10 => .inl (cA 3, 3, .inr (.inr (.inr (.inr (fun k => some (φ 2 (5 + k) 0))))))
  | 15 => .inl (cA 4, 8, .inr (.inr (.inr (.inr (fun k => some (φ 16 k 0))))))
  | 50 => .inl (cA 0, ma_la q.2.1, .inl (σ.1 50 q.2.1 q.2.2))
  | 60 => .inl (cA 1, ma_lj q.2.1, .inr (.inl (σ.2 q.2.1)))
  | g => .inr (ma_cg g, ma_fs φ σ (ma_cg g) g q.2.1 q.2.2)
def ma_ad (φ : ma_F) (q : ma_Q) : Nat := φ q.1 q.2.1 q.2.2
def ma_ws (φ : ma_F) (cA : Nat → ClassId) (σ : ma_S) (un : List ma_Q) : va_W := un.map (fun q => (ma_ad φ q, ma_ce φ cA σ q))
def ma_ty (cA : Nat → ClassId) : List (ClassId × FieldType) := [(cA 0, .int), (cA 1, .long), (cA 2, .object "OneSledgeForTwo$Rider"), (cA 3, .object "OneSledgeForTwo$Hill"), (cA 4, .object "OneSledgeForTwo$Shelf")]
def ma_un (un : List ma_Q) : Prop := ∀ q ∈ un, ((q.1 = 60 ∨ q.1 = 50) → q.2.2 = 0) ∧ (q.1 = 3 → ∀ k, k < 4 → (4, q.2.1, k) ∈ un) ∧ (q.1 = 10 → ∀ k, k < 3 → (2, 5 + k, 0) ∈ un) ∧ (q.1 = 15 → ∀ k, k < 8 → (16, k, 0) ∈ un) ∧ (q.1 ≠ 3 → q.1 ≠ 10 → q.1 ≠ 15 → q.1 ≠ 50 → q.1 ≠ 60 → ∀ k, k < ma_nf (ma_cg q.1) → ma_kd (ma_cg q.1) k = 2 → ma_rf q.1 q.2.1 (ma_sk (ma_cg q.1) k) ∈ un) ∧ (q.1 ≠ 40 ∧ q.1 ≠ 41 ∧ q.1 ≠ 42 ∧ q.1 ≠ 43)
def ma_old (q : ma_Q) : Prop := (q.1 = 40 ∧ q.2.1 < 4 ∧ q.2.2 = 0) ∨ (q.1 = 41 ∧ q.2.1 < 8 ∧ q.2.2 = 0) ∨ (q.1 = 42 ∧ q.2.1 < 8 ∧ q.2.2 = 0) ∨ q.1 = 43
def ma_ok (un : List ma_Q) (v : ma_V) : Prop := match v with
  | .inr (.inr q) => q ∈ un ∨ ma_old q
  | _ => True
def ma_isk : MethodName := ⟨"OneSledgeForTwo", "isKind", "(I)Z"⟩
/-- what stands beside: static arrays, texts, two words on the nest -/
def ma_Old (φ : ma_F) (fv : Value) (A : Nat → Prop) (U : State) (H : Heap) : Prop :=
  (∀ i, i < 4 → va_Z "OneSledgeForTwo" (ma_sn i) "[I" (.ref (φ 40 i 0)) A U H ∧ va_T .int (φ 40 i 0) 7 (fun j => .int (ma_sv i j)) A U H) ∧
  va_Z "java/lang/String" "COMPACT_STRINGS" "Z" (.int 1) A U H ∧ va_Z "jdk/internal/util/Preconditions" "SIOOBE_FORMATTER" "Ljava/util/function/BiFunction;" fv A U H ∧
  (∀ w, w < 8 → va_O "java/lang/String" (φ 41 w 0) A U H ∧ va_OF "java/lang/String" "coder" "B" (.int 0) (φ 41 w 0) A U H ∧ va_OF "java/lang/String" "value" "[B" (.ref (φ 42 w 0)) (φ 41 w 0) A U H ∧ va_T .byte (φ 42 w 0) (ma_lw w) (fun j => .int (ma_wv w j)) A U H ∧ vk_R "OneSledgeForTwo$Reader" (ma_wi w) (ma_wn w) (φ 41 w 0) U) ∧
  va_Nw (.methodLinkNest "OneSledgeForTwo$Rider" 36 ma_isk "OneSledgeForTwo") U ∧ va_Nw (.fieldLinkNest "OneSledgeForTwo$Rider" 40 "OneSledgeForTwo" "ABOVE" "[I" "OneSledgeForTwo") U
theorem ma_Old.warm {φ : ma_F} {fv : Value} {A : Nat → Prop} {s U : State} {H : Heap} (hW : s.WarmedH U.vm) (h : ma_Old φ fv A s H) : ma_Old φ fv A U H := by
  obtain ⟨h1, h2, h3, h4, h5, h6⟩ := h
  exact ⟨fun i hi => ⟨(h1 i hi).1.moved hW.alike, (h1 i hi).2.moved hW.alike⟩, h2.moved hW.alike, h3.moved hW.alike, fun w hw => ⟨va_O.moved hW.alike (h4 w hw).1, va_OF.moved hW.alike (h4 w hw).2.1, va_OF.moved hW.alike (h4 w hw).2.2.1, va_T.moved hW.alike (h4 w hw).2.2.2.1, vk_R.warm hW (h4 w hw).2.2.2.2⟩, va_Nw.warmM hW h5, va_Nw.warmF hW h6⟩
theorem ma_Old.same {φ : ma_F} {fv : Value} {A : Nat → Prop} {u U : State} {H : Heap} (hv : U.vm = u.vm) (hal : u.vm.Alike U.vm) (h : ma_Old φ fv A u H) : ma_Old φ fv A U H := by
  obtain ⟨h1, h2, h3, h4, h5, h6⟩ := h
  exact ⟨fun i hi => ⟨(h1 i hi).1.moved hal, (h1 i hi).2.moved hal⟩, h2.moved hal, h3.moved hal, fun w hw => ⟨va_O.moved hal (h4 w hw).1, va_OF.moved hal (h4 w hw).2.1, va_OF.moved hal (h4 w hw).2.2.1, va_T.moved hal (h4 w hw).2.2.2.1, vk_R.same hv (h4 w hw).2.2.2.2⟩, va_Nw.same rfl hv.symm h5, va_Nw.same rfl hv.symm h6⟩
theorem ma_Old.kept {φ : ma_F} {fv : Value} {A : Nat → Prop} {U : State} {H H1 : Heap} (h : ma_Old φ fv A U H) (hq : ∀ a : Nat, a < H.size → ¬ A a → H1[a]? = H[a]?) : ma_Old φ fv A U H1 := by
  obtain ⟨h1, h2, h3, h4, h5, h6⟩ := h
  exact ⟨fun i hi => ⟨(h1 i hi).1.kept hq, (h1 i hi).2.kept hq⟩, h2.kept hq, h3.kept hq, fun w hw => ⟨(h4 w hw).1.kept hq, (h4 w hw).2.1.kept hq, (h4 w hw).2.2.1.kept hq, (h4 w hw).2.2.2.1.kept hq, (h4 w hw).2.2.2.2⟩, h5, h6⟩
def ma_mws (μ : Nat) : List Cond := .code (ma_nm μ) (ma_by μ) (ma_ml μ) (ma_rf_ μ) :: ma_tb
def ma_room (d : Nat) : Room := { frames := d + 1, cells := 0, slots := 0, locals := 40 * d + 60 }
def ma_Pc (φ : ma_F) (fv : Value) (cA : Nat → ClassId) (D : va_G) (A : Nat → Prop) (un : List ma_Q) (as : List ma_V) (σ : ma_S) : Array Value → State → Prop := va_Pc (as.map (ma_tv φ fv)) (fun U => va_P D ma_cls (ma_ws φ cA σ un) U.heap ∧ va_K D ma_cls (ma_ty cA) U ∧ ma_Old φ fv A U U.heap)
def ma_Qg (φ : ma_F) (fv : Value) (cA : Nat → ClassId) (D : va_G) (A : Nat → Prop) (un : List ma_Q) (r : Option ma_V) (σ : ma_S) : Array Value → State → Outcome → State → Prop := fun _ st oc t => (oc = .returned (r.map (ma_tv φ fv)) ∧ va_P D ma_cls (ma_ws φ cA σ un) t.heap) ∧ va_F A st t
/-- the locals -/
def ma_LV (φ : ma_F) (fv : Value) (nL : Nat) (la : Array Slot) (ls : ma_L) : Prop := ls.length = nL ∧ la.size = nL ∧ lv_wf la ∧ ∀ (i : Nat) (v : ma_V), ls[i]? = some (some v) → la[i]? = some (.val (ma_tv φ fv v))
theorem ma_cat {φ : ma_F} {fv : Value} (hfv : fv = .null ∨ ∃ a, fv = .ref a) (v : ma_V) : (ma_tv φ fv v).category = 2 → ∃ x, v = .inr (.inl x) := by
  intro h
  match v with
  | .inl x => simp [ma_tv, Value.category] at h
  | .inr (.inl x) => exact ⟨x, rfl⟩
  | .inr (.inr (g, i, j)) =>
    exfalso
    simp only [ma_tv] at h
    split at h
    · rcases hfv with rfl | ⟨a, rfl⟩ <;> simp [Value.category] at h
    · simp [Value.category] at h
theorem ma_catR {φ : ma_F} {fv : Value} (hfv : fv = .null ∨ ∃ a, fv = .ref a) (q : ma_Q) : (ma_tv φ fv (.inr (.inr q))).category = 1 := by
  obtain ⟨g, i, j⟩ := q
  simp only [ma_tv]
  split
  · rcases hfv with rfl | ⟨a, rfl⟩ <;> rfl
  · rfl
def ma_prs (φ : ma_F) (fv : Value) (ls : ma_L) : List (Nat × Value) := (List.range ls.length).filterMap (fun j => match ls[j]? with
  | some (some v) => some (j, ma_tv φ fv v)
  | _ => none)
theorem ma_prs_mem {φ : ma_F} {fv : Value} {ls : ma_L} {j : Nat} {w : Value} : (j, w) ∈ ma_prs φ fv ls ↔ ∃ v, ls[j]? = some (some v) ∧ w = ma_tv φ fv v := by
  unfold ma_prs
  rw [List.mem_filterMap]
  constructor
  · rintro ⟨a, -, h⟩
    split at h
    · rename_i v hv
      cases h
      exact ⟨v, hv, rfl⟩
    · cases h
  · rintro ⟨v, hv, rfl⟩
    exact ⟨j, List.mem_range.mpr (List.getElem?_eq_some_iff.mp hv).1, by rw [hv]⟩
theorem ma_LV.has {φ : ma_F} {fv : Value} {nL : Nat} {la : Array Slot} {ls : ma_L} (h : ma_LV φ fv nL la ls) : lv_has la nL (ma_prs φ fv ls) := by
  refine ⟨h.2.1, h.2.2.1, fun q hq => ?_⟩
  obtain ⟨v, h1, h2⟩ := ma_prs_mem.mp (show (q.1, q.2) ∈ _ from hq)
  rw [h2]
  exact h.2.2.2 _ _ h1
theorem ma_LV.set {φ : ma_F} {fv : Value} (hfv : fv = .null ∨ ∃ a, fv = .ref a) {nL : Nat} {la la' : Array Slot} {ls : ma_L} {i : Nat} {v : ma_V} (h : ma_LV φ fv nL la ls) (hi : i < ls.length) (hj : ma_isJ ls (i - 1) = false)
    (h' : lv_has la' nL ((i, ma_tv φ fv v) :: (ma_prs φ fv ls).filter (fun q => !(q.1 == i) && !(q.1 + 1 == i && q.2.category == 2)))) : ma_LV φ fv nL la' (ls.set i (some v)) := by
  refine ⟨by rw [List.length_set]; exact h.1, h'.1, h'.2.1, fun k w hk => ?_⟩
  by_cases hki : k = i
  · subst hki
    rw [List.getElem?_set_self hi] at hk
    cases hk
    exact h'.2.2 _ List.mem_cons_self
  · rw [List.getElem?_set_ne (Ne.symm hki)] at hk
    refine h'.2.2 (k, ma_tv φ fv w) (List.mem_cons_of_mem _ (List.mem_filter.mpr ⟨ma_prs_mem.mpr ⟨w, hk, rfl⟩, ?_⟩))
    simp only [Bool.and_eq_true, Bool.not_eq_true', beq_eq_false_iff_ne, ne_eq, hki, not_false_eq_true, true_and, Bool.and_eq_false_imp, beq_iff_eq]
    intro e z
    obtain ⟨x, rfl⟩ := ma_cat hfv w z
    have e2 : k = i - 1 := by omega
    rw [e2] at hk
    simp [ma_isJ, hk] at hj
theorem ma_ce_obj {φ : ma_F} {cA : Nat → ClassId} {σ : ma_S} {g i j : Nat} (h : g ≠ 3 ∧ g ≠ 10 ∧ g ≠ 15 ∧ g ≠ 50 ∧ g ≠ 60) : ma_ce φ cA σ (g, i, j) = .inr (ma_cg g, ma_fs φ σ (ma_cg g) g i j) := by
  obtain ⟨h1, h2, h3, h4, h5⟩ := h
  unfold ma_ce
  split <;> first | contradiction | rfl | (simp_all; done)
theorem ma_ce_congr {φ : ma_F} {cA : Nat → ClassId} {σ σ' : ma_S} {q : ma_Q} (h1 : σ'.1 q.1 q.2.1 q.2.2 = σ.1 q.1 q.2.1 q.2.2) (h2 : q.1 = 60 → σ'.2 q.2.1 = σ.2 q.2.1) : ma_ce φ cA σ' q = ma_ce φ cA σ q := by
  obtain ⟨g, i, j⟩ := q
  simp only at h1 h2
  unfold ma_ce
  split
  · rfl
  · rfl
  · rfl
  · rename_i e; simp only at e; subst e; simp only [h1]
  · rename_i e; simp only at e; subst e; simp only [h2]
  · simp only [ma_fs]
    congr 2
    refine List.map_congr_left fun k _ => ?_
    simp only [ma_fv, h1]
theorem ma_ws_at {φ : ma_F} {cA : Nat → ClassId} {σ : ma_S} {un : List ma_Q} {q : ma_Q} (h : q ∈ un) : ∃ k : Nat, un[k]? = some q ∧ (ma_ws φ cA σ un)[k]? = some (ma_ad φ q, ma_ce φ cA σ q) := by
  obtain ⟨k, hk⟩ := List.getElem?_of_mem h
  exact ⟨k, hk, by rw [ma_ws, List.getElem?_map, hk]; rfl⟩
/-- a store into one cell of the world -/
theorem ma_ws_set {φ : ma_F} {cA : Nat → ClassId} {σ σ' : ma_S} {un : List ma_Q} {A : Nat → Prop} {q : ma_Q} {k : Nat} (hD : va_D A (ma_ws φ cA σ un)) (hk : un[k]? = some q) (hne : ∀ q' ∈ un, q' ≠ q → ma_ce φ cA σ' q' = ma_ce φ cA σ q') : (ma_ws φ cA σ un).set k (ma_ad φ q, ma_ce φ cA σ' q) = ma_ws φ cA σ' un := by
  have hl : k < un.length := (List.getElem?_eq_some_iff.mp hk).1
  refine List.ext_getElem? fun n => ?_
  by_cases hn : n = k
  · subst hn
    rw [List.getElem?_set_self (by rw [ma_ws, List.length_map]; exact hl), ma_ws, List.getElem?_map, hk]; rfl
  · rw [List.getElem?_set_ne (Ne.symm hn), ma_ws, ma_ws, List.getElem?_map, List.getElem?_map]
    cases hq : un[n]? with
    | none => rfl
    | some q' =>
      have hne' : q' ≠ q := fun e => hn (hD.1 n k (ma_ad φ q', ma_ce φ cA σ q') (ma_ad φ q, ma_ce φ cA σ q) (by rw [ma_ws, List.getElem?_map, hq]; rfl) (by rw [ma_ws, List.getElem?_map, hk]; rfl) (by rw [e]))
      show some (ma_ad φ q', ma_ce φ cA σ q') = some (ma_ad φ q', ma_ce φ cA σ' q')
      rw [hne q' (List.mem_of_getElem? hq) hne']
theorem ma_D_any {φ : ma_F} {cA : Nat → ClassId} {σ σ' : ma_S} {un : List ma_Q} {A : Nat → Prop} (hD : va_D A (ma_ws φ cA σ un)) : va_D A (ma_ws φ cA σ' un) := by
  have key : ∀ (k : Nat) (p : Nat × va_E), (ma_ws φ cA σ' un)[k]? = some p → ∃ p0, (ma_ws φ cA σ un)[k]? = some p0 ∧ p0.1 = p.1 := by
    intro k p hp
    rw [ma_ws, List.getElem?_map] at hp
    cases hq : un[k]? with
    | none => rw [hq] at hp; cases hp
    | some q =>
      rw [hq] at hp
      cases hp
      exact ⟨(ma_ad φ q, ma_ce φ cA σ q), by rw [ma_ws, List.getElem?_map, hq]; rfl, rfl⟩
  refine ⟨fun i j p q hi hj h => ?_, fun k q hk => ?_⟩
  · obtain ⟨p0, h1, h2⟩ := key i p hi
    obtain ⟨q0, h3, h4⟩ := key j q hj
    exact hD.1 i j p0 q0 h1 h3 (by rw [h2, h4, h])
  · obtain ⟨q0, h1, h2⟩ := key k q hk
    rw [← h2]
    exact hD.2 k q0 h1
theorem ma_u_ne {σ : ma_S} {g i j k g' i' j' : Nat} {v : Int32} (h : (g', i', j') ≠ (g, i, j)) : (ma_u σ g i j k v).1 g' i' j' = σ.1 g' i' j' := by
  funext k'
  simp only [ma_u]
  rw [if_neg]
  rintro ⟨rfl, rfl, rfl, rfl⟩
  exact h rfl
theorem ma_u_at {σ : ma_S} {g i j k : Nat} {v : Int32} : (ma_u σ g i j k v).1 g i j = upd (σ.1 g i j) k v := by
  funext k'
  simp [ma_u, upd]
theorem ma_uJ_at {σ : ma_S} {i k : Nat} {v : Int64} : (ma_uJ σ i k v).2 i = vp_updL (σ.2 i) k v := by
  funext k'
  simp [ma_uJ, vp_updL]
theorem ma_uJ_ne {σ : ma_S} {i i' k : Nat} {v : Int64} (h : i' ≠ i) : (ma_uJ σ i k v).2 i' = σ.2 i' := by
  funext k'
  simp [ma_uJ, h]
theorem ma_sk_inj {c a b : Nat} (h : ma_sk c a = ma_sk c b) : a = b := by
  unfold ma_sk at h
  split at h <;> omega
theorem ma_fs_set {φ : ma_F} {σ : ma_S} {c g i j k : Nat} {v : Int32} (hk : k < ma_nf c) (h2 : ma_kd c k ≠ 2) : (ma_fs φ σ c g i j).set k (.int v) = ma_fs φ (ma_u σ g i j (ma_sk c k) v) c g i j := by
  refine List.ext_getElem? fun n => ?_
  have hb : Nat.beq (ma_kd c k) 2 = false := by
    cases e : Nat.beq (ma_kd c k) 2 with
    | false => rfl
    | true => exact absurd (Nat.eq_of_beq_eq_true e) h2
  by_cases hn : n = k
  · subst hn
    rw [List.getElem?_set_self (by simp [ma_fs, hk])]
    simp [ma_fs, hk, ma_fv, hb, ma_u_at, upd]
  · rw [List.getElem?_set_ne (Ne.symm hn)]
    simp only [ma_fs, List.getElem?_map]
    cases hq : (List.range (ma_nf c))[n]? with
    | none => rfl
    | some n' =>
      have e : n' = n := by
        have := List.getElem?_eq_some_iff.mp hq
        obtain ⟨h1, h2⟩ := this
        simpa using h2.symm
      subst e
      simp only [Option.map_some, ma_fv, ma_u_at, upd]
      rw [if_neg (fun z => hn (ma_sk_inj z))]
theorem ma_fs_get {φ : ma_F} {σ : ma_S} {c g i j k : Nat} (hk : k < ma_nf c) : (ma_fs φ σ c g i j)[k]? = some (ma_fv φ σ c g i j k) := by
  simp [ma_fs, hk]
theorem ma_in_vp {x : Int32} {n : Nat} (h : ma_in x n) : vp_in x n := vp_in_iff.mpr h
theorem ma_gc9 : ∀ c, c < 9 → ma_gc c ≠ 3 ∧ ma_gc c ≠ 10 ∧ ma_gc c ≠ 15 ∧ ma_gc c ≠ 50 ∧ ma_gc c ≠ 60 ∧ ma_gc c ≠ 40 ∧ ma_gc c ≠ 41 ∧ ma_gc c ≠ 42 ∧ ma_gc c ≠ 43 := by decide
theorem ma_tvR {φ : ma_F} {fv : Value} {g i j : Nat} (h : g ≠ 43) : ma_tv φ fv (.inr (.inr (g, i, j))) = .ref (φ g i j) := by
  simp only [ma_tv]
  split
  · rename_i e; exact absurd (Nat.eq_of_beq_eq_true e) h
  · rfl
theorem ma_tvI {φ : ma_F} {fv : Value} {x : Int32} : ma_tv φ fv (.inl x) = .int x := rfl
theorem ma_tvJ {φ : ma_F} {fv : Value} {x : Int64} : ma_tv φ fv (.inr (.inl x)) = .long x := rfl
