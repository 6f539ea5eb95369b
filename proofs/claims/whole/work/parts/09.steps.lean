/-! PART 09: one step of the small machine is a step of the machine. -/
def ma_okS (un : List ma_Q) (st : List ma_V) : Prop := ∀ v ∈ st, ma_ok un v
def ma_okL (un : List ma_Q) (ls : ma_L) : Prop := ∀ v, some v ∈ ls → ma_ok un v
theorem okc {un : List ma_Q} {v : ma_V} {r : List ma_V} (h : ma_ok un v) (hr : ma_okS un r) : ma_okS un (v :: r) := fun w hw => by
  rcases List.mem_cons.mp hw with rfl | hw
  · exact h
  · exact hr w hw
theorem okt {un : List ma_Q} {v : ma_V} {r : List ma_V} (h : ma_okS un (v :: r)) : ma_okS un r := fun w hw => h w (List.mem_cons_of_mem _ hw)
theorem okh {un : List ma_Q} {v : ma_V} {r : List ma_V} (h : ma_okS un (v :: r)) : ma_ok un v := h v List.mem_cons_self
theorem okI {un : List ma_Q} {x : Int32} : ma_ok un (.inl x) := trivial
theorem okJ {un : List ma_Q} {x : Int64} : ma_ok un (.inr (.inl x)) := trivial
theorem okset {un : List ma_Q} {ls : ma_L} {i : Nat} {v : ma_V} (h : ma_okL un ls) (hv : ma_ok un v) : ma_okL un (ls.set i (some v)) := fun w hw => by
  rcases List.mem_or_eq_of_mem_set hw with hw | e
  · exact h w hw
  · cases e; exact hv
theorem ma_sl_inv {n i pc' : Nat} {ls ls' : ma_L} {v : ma_V} {st st' : List ma_V} {σ σ' : ma_S} (h : ma_sl n ls i v st σ = ma_go pc' ls' st' σ') : i < ls.length ∧ ma_isJ ls (i - 1) = false ∧ pc' = n ∧ ls' = ls.set i (some v) ∧ st' = st ∧ σ' = σ := by
  unfold ma_sl at h
  split at h
  · rename_i h1 h2
    cases h
    exact ⟨Nat.le_of_ble_eq_true h1, h2, rfl, rfl, rfl, rfl⟩
  · cases h
theorem ma_ld_inv {n i pc' : Nat} {ls ls' : ma_L} {st st' : List ma_V} {σ σ' : ma_S} (h : ma_ld n ls i st σ = ma_go pc' ls' st' σ') : ∃ x, ls[i]? = some (some (.inl x)) ∧ pc' = n ∧ ls' = ls ∧ st' = .inl x :: st ∧ σ' = σ := by
  unfold ma_ld at h
  split at h
  · rename_i x hx
    cases h
    exact ⟨x, hx, rfl, rfl, rfl, rfl⟩
  · cases h
theorem ma_lL_inv {n i pc' : Nat} {ls ls' : ma_L} {st st' : List ma_V} {σ σ' : ma_S} (h : ma_lL n ls i st σ = ma_go pc' ls' st' σ') : ∃ x, ls[i]? = some (some (.inr (.inl x))) ∧ pc' = n ∧ ls' = ls ∧ st' = .inr (.inl x) :: st ∧ σ' = σ := by
  unfold ma_lL at h
  split at h
  · rename_i x hx
    cases h
    exact ⟨x, hx, rfl, rfl, rfl, rfl⟩
  · cases h
theorem ma_lA_inv {n i pc' : Nat} {ls ls' : ma_L} {st st' : List ma_V} {σ σ' : ma_S} (h : ma_lA n ls i st σ = ma_go pc' ls' st' σ') : ∃ q, ls[i]? = some (some (.inr (.inr q))) ∧ pc' = n ∧ ls' = ls ∧ st' = .inr (.inr q) :: st ∧ σ' = σ := by
  unfold ma_lA at h
  split at h
  · rename_i x hx
    cases h
    exact ⟨x, hx, rfl, rfl, rfl, rfl⟩
  · cases h
theorem ma_if_inv {x : Int32} {n : Nat} {a : ma_N} {b : ma_R ⊕ ((Nat × ma_L × List ma_V × ma_S) ⊕ (Nat × List ma_V × Nat × ma_L × List ma_V × ma_S))} (h : ma_if x n a none = some b) : ma_in x n ∧ a = some b := by
  by_cases hx : ma_in x n
  · rw [ma_if_pos hx] at h; exact ⟨hx, h⟩
  · rw [ma_if_neg hx] at h; cases h
theorem ma_call_inv {virt : Bool} {μ k n : Nat} {ls : ma_L} {st : List ma_V} {σ : ma_S} {b : ma_R ⊕ ((Nat × ma_L × List ma_V × ma_S) ⊕ (Nat × List ma_V × Nat × ma_L × List ma_V × ma_S))} (h : ma_call virt μ k n ls st σ = some b) : (st.take k).length = k ∧ (st.drop k).length ≤ 4 ∧ (ma_en (st.take k).reverse).length ≤ ma_ml μ ∧ b = .inr (.inr (μ, (st.take k).reverse, n, ls, st.drop k, σ)) ∧ (virt = true → ∃ q as, (st.take k).reverse = .inr (.inr (ma_gc (ma_cl μ), q)) :: as) := by
  unfold ma_call at h
  split at h
  · rename_i h1
    simp only [Bool.and_eq_true] at h1
    cases h
    exact ⟨Nat.eq_of_beq_eq_true h1.1, Nat.le_of_ble_eq_true h1.2.1, Nat.le_of_ble_eq_true h1.2.2, rfl, fun e => by cases e⟩
  · rename_i g q as h1 e
    simp only [Bool.and_eq_true] at h1
    split at h
    · rename_i hg
      have hg2 := Nat.eq_of_beq_eq_true hg
      subst hg2
      cases h
      rw [e]
      rw [e] at h1
      exact ⟨Nat.eq_of_beq_eq_true h1.1, Nat.le_of_ble_eq_true h1.2.1, Nat.le_of_ble_eq_true h1.2.2, rfl, fun _ => ⟨q, as, rfl⟩⟩
    · cases h
  · cases h
theorem ma_ldcw : ∀ μ, μ < 210 → (ma_cd μ).all (fun q => match q.2.1 with
  | .ldc_w _ => Nat.beq (ma_cl μ) 8
  | _ => true) = true := by decide +kernel
def ma_Ctx (p : Program) (s : State) (m : MethodId) (args : Array Value) (meth : Method) (c : Code) (φ : ma_F) (fv : Value) (cA : Nat → ClassId) (D : va_G) (A : Nat → Prop) (un : List ma_Q) (μ : Nat) : Prop :=
  μ < 210 ∧ p.tables.exec = Jvm.exec ∧ c.code = ma_by μ ∧ c.maxLocals = ma_ml μ ∧ meth.sig.returnType = ma_rf_ μ ∧ s.vm.findClass (ma_cn (ma_cl μ)) = some m.cls ∧ (∀ w ∈ ma_tb, w.before args s = true) ∧ meth.locks = false ∧ va_K D ma_cls (ma_ty cA) s ∧ ma_Old φ fv A s s.heap ∧ ma_un un ∧ (fv = .null ∨ ∃ a, fv = .ref a) ∧ (∀ σ, va_D A (ma_ws φ cA σ un))
/-- from a state of the small machine the machine goes on to Q -/
def ma_At (p : Program) (l : Launch) (e : Env) (s : State) (m : MethodId) (args : Array Value) (below : List Frame) (meth : Method) (c : Code) (φ : ma_F) (fv : Value) (cA : Nat → ClassId) (D : va_G) (A : Nat → Prop) (un : List ma_Q) (μ d pc : Nat) (ls : ma_L) (st : List ma_V) (σ : ma_S) (Q : State → Prop) : Prop :=
  ∀ (la : Array Slot) (H : Heap) (locs : List Loc), ma_LV φ fv (ma_ml μ) la ls → va_P D ma_cls (ma_ws φ cA σ un) H → va_S A s.heap H locs → (∀ q ∈ locs, A q.base) → W p l e (ma_room d) s m args below meth c H locs 0 0 Q (F0 m pc la (st.map (ma_tv φ fv)))
section SND
variable {p : Program} {l : Launch} {e : Env} {s : State} {m : MethodId} {args : Array Value} {below : List Frame} {meth : Method} {c : Code} {φ : ma_F} {fv : Value} {cA : Nat → ClassId} {D : va_G} {A : Nat → Prop} {un : List ma_Q} {μ d pc len pc' : Nat} {ls ls' : ma_L} {st st' : List ma_V} {σ σ' : ma_S}
/-- what a step owes -/
def ma_Go (p : Program) (l : Launch) (e : Env) (s : State) (m : MethodId) (args : Array Value) (below : List Frame) (meth : Method) (c : Code) (φ : ma_F) (fv : Value) (cA : Nat → ClassId) (D : va_G) (A : Nat → Prop) (un : List ma_Q) (μ d pc : Nat) (ls : ma_L) (st : List ma_V) (σ : ma_S) (pc' : Nat) (ls' : ma_L) (st' : List ma_V) (σ' : ma_S) : Prop :=
  ma_okS un st' ∧ ma_okL un ls' ∧ ∀ Q, ma_At p l e s m args below meth c φ fv cA D A un μ d pc' ls' st' σ' Q → ma_At p l e s m args below meth c φ fv cA D A un μ d pc ls st σ Q
theorem ma_gf_go {i : Nat} (C : ma_Ctx p s m args meth c φ fv cA D A un μ) (hdec : decode (ma_by μ) pc = .ok (.getfield i, 3)) (hS : ma_okS un st) (hL : ma_okL un ls) (h : ma_gf μ i (pc + 3) ls st σ = ma_go pc' ls' st' σ') : ma_Go p l e s m args below meth c φ fv cA D A un μ d pc ls st σ pc' ls' st' σ' := by
  obtain ⟨hμ, hx, hb, hml, hr, hown, hts, hlocks, hK, hO, hun, hfv, hD⟩ := C
  unfold ma_gf at h
  split at h
  · rename_i g' k kind g i1 j1 r hft
    split at h
    · rename_i hg
      have hg2 := Nat.eq_of_beq_eq_true hg
      subst hg2
      have P := ma_ft_ok hft
      have hv := okh hS
      by_cases h41 : g = 41
      · subst h41
        have ho : i1 < 8 ∧ j1 = 0 := by
          rcases hv with hv | hv
          · exact absurd rfl (hun _ hv).2.2.2.2.2.2.1
          · rcases hv with hv | hv | hv | hv <;> simp at hv
            exact hv
        obtain ⟨hi8, rfl⟩ := ho
        obtain ⟨o1, o2, o3, o4, o5⟩ := hO.2.2.2.1 i1 hi8
        rcases P.2 rfl with ⟨e1, e2, hw⟩ | ⟨e1, e2, hw⟩
        · simp only at e1 e2; subst e1; subst e2
          simp only at h
          cases h
          refine ⟨okc (Or.inr (Or.inr (Or.inr (Or.inl ⟨rfl, hi8, rfl⟩)))) (okt hS), hL, fun Q K la H locs h1 h2 h3 h4 => ?_⟩
          exact vk_getf hx hb o3 h3 hown (hts _ hw) (fun _ h => h) hdec (K la H locs h1 h2 h3 h4)
        · simp only at e1 e2; subst e1; subst e2
          simp only at h
          cases h
          refine ⟨okc okI (okt hS), hL, fun Q K la H locs h1 h2 h3 h4 => ?_⟩
          exact vk_getf hx hb o2 h3 hown (hts _ hw) (fun _ h => h) hdec (K la H locs h1 h2 h3 h4)
      · obtain ⟨q1, q2, q3, q4, q5, q6, q7⟩ := P.1 h41
        simp only at q1 q2 q3 q4 q5 q6 q7
        have hgn := ma_gc9 _ q1
        rw [q2] at hgn
        have hin : (g, i1, j1) ∈ un := by
          rcases hv with hv | hv
          · exact hv
          · rcases hv with hv | hv | hv | hv <;> simp [hgn] at hv
        obtain ⟨k0, hk0, hw0⟩ := ma_ws_at (φ := φ) (cA := cA) (σ := σ) hin
        rw [ma_ce_obj ⟨hgn.1, hgn.2.1, hgn.2.2.1, hgn.2.2.2.1, hgn.2.2.2.2.1⟩] at hw0
        have hlt : ∀ (la : Array Slot) (H : Heap) (locs : List Loc) (Q : State → Prop), va_P D ma_cls (ma_ws φ cA σ un) H → W p l e (ma_room d) s m args below meth c H locs 0 0 Q (F0 m (pc + 3) la (ma_fv φ σ (ma_cg g) g i1 j1 (ma_ks g k) :: r.map (ma_tv φ fv))) → W p l e (ma_room d) s m args below meth c H locs 0 0 Q (F0 m pc la (.ref (φ g i1 j1) :: r.map (ma_tv φ fv))) := fun la H locs Q h2 K =>
          va_get (C := ma_cn (ma_cg g)) (T := ma_tf (ma_cg g)) (N := ma_nf (ma_cg g)) hx hb hts (ma_in9 _ q1) hown hK h2 k0 hw0 (ma_cls9 _ q1) (ma_ks g k) q3 (hts _ q6) (fun x hx => by rw [q7] at hx; exact hx) (ma_fs_get q3) hdec K
        have htv : ma_tv φ fv (.inr (.inr (g, i1, j1))) = .ref (φ g i1 j1) := ma_tvR hgn.2.2.2.2.2.2.2.2
        split at h
        · have hk2 : ma_kd (ma_cg g) (ma_ks g k) = 2 := q5
          have hcl := (hun _ hin).2.2.2.2.1 hgn.1 hgn.2.1 hgn.2.2.1 hgn.2.2.2.1 hgn.2.2.2.2.1 _ q3 hk2
          simp only at hcl
          rw [q4] at hcl
          cases h
          refine ⟨okc (Or.inl hcl) (okt hS), hL, fun Q K la H locs h1 h2 h3 h4 => ?_⟩
          have K2 := K la H locs h1 h2 h3 h4
          rw [List.map_cons, ma_tvR (hun _ hcl).2.2.2.2.2.2.2.2] at K2
          rw [List.map_cons, htv]
          refine hlt la H locs Q h2 ?_
          have hbe : Nat.beq (ma_kd (ma_cg g) (ma_ks g k)) 2 = true := by rw [hk2]; rfl
          simp only [ma_fv, hbe, q4]
          exact K2
        · exfalso
          have hk3 : ma_kd (ma_cg g) (ma_ks g k) = 3 := q5
          rcases (ma_kd9 _ q1 _ q3).2.2 (by rw [hk3]; decide) with z | z <;> rw [hk3] at z <;> cases z
        · rename_i n2 n3
          cases h
          refine ⟨okc okI (okt hS), hL, fun Q K la H locs h1 h2 h3 h4 => ?_⟩
          have K2 := K la H locs h1 h2 h3 h4
          rw [List.map_cons] at K2
          rw [List.map_cons, htv]
          refine hlt la H locs Q h2 ?_
          have hbe : Nat.beq (ma_kd (ma_cg g) (ma_ks g k)) 2 = false := by
            rw [q5]
            cases z : Nat.beq kind 2 with
            | false => rfl
            | true => exact absurd (Nat.eq_of_beq_eq_true z) n2
          simp only [ma_fv, hbe, q4]
          exact K2
    · cases h
  · cases h
theorem ma_pf_go {i : Nat} (C : ma_Ctx p s m args meth c φ fv cA D A un μ) (hdec : decode (ma_by μ) pc = .ok (.putfield i, 3)) (hok : ma_iok μ pc (.putfield i) 3 = true) (hS : ma_okS un st) (hL : ma_okL un ls) (h : ma_pf μ i (pc + 3) ls st σ = ma_go pc' ls' st' σ') : ma_Go p l e s m args below meth c φ fv cA D A un μ d pc ls st σ pc' ls' st' σ' := by
  obtain ⟨hμ, hx, hb, hml, hr, hown, hts, hlocks, hK, hO, hun, hfv, hD⟩ := C
  unfold ma_pf at h
  split at h
  · rename_i g' k kind v g i1 j1 r hft
    split at h
    · rename_i hg
      have hg2 := Nat.eq_of_beq_eq_true hg
      subst hg2
      have P := ma_ft_ok hft
      have hv := okh (okt hS)
      have hkind : kind = 0 ∨ kind = 1 := by
        split at h
        · exact Or.inl rfl
        · exact Or.inr rfl
        · cases h
      have h41 : g ≠ 41 := by
        intro h41
        rcases P.2 h41 with ⟨-, e2, -⟩ | ⟨-, e2, -⟩ <;> simp only at e2 <;> rcases hkind with z | z <;> rw [z] at e2 <;> cases e2
      obtain ⟨q1, q2, q3, q4, q5, q6, q7⟩ := P.1 h41
      simp only at q1 q2 q3 q4 q5 q6 q7
      have hfin : (ma_tf (ma_cg g) (ma_ks g k)).2.2.2 = false := by
        simp only [ma_iok, hft, Bool.and_eq_true, Bool.not_eq_true'] at hok
        exact hok.2
      have hgn := ma_gc9 _ q1
      rw [q2] at hgn
      have hin : (g, i1, j1) ∈ un := by
        rcases hv with hv | hv
        · exact hv
        · rcases hv with hv | hv | hv | hv <;> simp [hgn] at hv
      obtain ⟨k0, hk0, hw0⟩ := ma_ws_at (φ := φ) (cA := cA) (σ := σ) hin
      have hobj : ∀ σ : ma_S, ma_ce φ cA σ (g, i1, j1) = .inr (ma_cg g, ma_fs φ σ (ma_cg g) g i1 j1) := fun σ => ma_ce_obj ⟨hgn.1, hgn.2.1, hgn.2.2.1, hgn.2.2.2.1, hgn.2.2.2.2.1⟩
      rw [hobj] at hw0
      have htv : ma_tv φ fv (.inr (.inr (g, i1, j1))) = .ref (φ g i1 j1) := ma_tvR hgn.2.2.2.2.2.2.2.2
      have hne2 : ma_kd (ma_cg g) (ma_ks g k) ≠ 2 := by rw [q5]; rcases hkind with z | z <;> rw [z] <;> decide
      have hset : (ma_ws φ cA σ un).set k0 (ma_ad φ (g, i1, j1), .inr (ma_cg g, (ma_fs φ σ (ma_cg g) g i1 j1).set (ma_ks g k) (.int v))) = ma_ws φ cA (ma_u σ g i1 j1 k v) un := by
        have e1 := ma_fs_set (φ := φ) (σ := σ) (g := g) (i := i1) (j := j1) (v := v) q3 hne2
        rw [q4] at e1
        rw [e1, ← hobj (ma_u σ g i1 j1 k v)]
        exact ma_ws_set (hD σ) hk0 (fun q' _ hq' => ma_ce_congr (ma_u_ne hq') (fun _ => rfl))
      have key : ∀ (ty : FieldType), ma_tyf (ma_cg g) (ma_ks g k) = ty → narrow ty (.int v) = .int v → fits ty (.int v) = true → ∀ (la : Array Slot) (H : Heap) (locs : List Loc) (Q : State → Prop), va_P D ma_cls (ma_ws φ cA σ un) H → va_S A s.heap H locs → (∀ (H1 : Heap) (locs1 : List Loc), va_P D ma_cls (ma_ws φ cA (ma_u σ g i1 j1 k v) un) H1 → va_S A s.heap H1 locs1 → W p l e (ma_room d) s m args below meth c H1 locs1 0 0 Q (F0 m (pc + 3) la (r.map (ma_tv φ fv)))) → W p l e (ma_room d) s m args below meth c H locs 0 0 Q (F0 m pc la (.int v :: .ref (φ g i1 j1) :: r.map (ma_tv φ fv))) := by
        intro ty hty hn hf la H locs Q h2 h3 K
        refine va_put (D := D) (C := ma_cn (ma_cg g)) (T := ma_tf (ma_cg g)) (N := ma_nf (ma_cg g)) hx hb hts (ma_in9 _ q1) (ma_tyf (ma_cg g)) (ma_ty9 _ q1) (ma_nm9 _ q1) hown hK h2 (hD σ) h3 k0 hw0 (ma_cls9 _ q1) (ma_ks g k) q3 (hts _ q6) (fun x hx => by rw [q7] at hx; exact hx) hfin (ma_ty9 _ q1 _ q3) (by rw [hty]; exact hn) (by rw [hty]; exact hf) (by simp [ma_fs, q3]) hdec (fun H1 locs1 hP1 hD1 hS1 => ?_)
        rw [hset] at hP1
        exact K H1 locs1 hP1 hS1
      split at h
      · cases h
        refine ⟨okt (okt hS), hL, fun Q K la H locs h1 h2 h3 h4 => ?_⟩
        rw [List.map_cons, List.map_cons, htv]
        exact key .int ((ma_kd9 _ q1 _ q3).1 q5) rfl rfl la H locs Q h2 h3 (fun H1 locs1 g1 g2 => K la H1 locs1 h1 g1 g2 g2.2.2)
      · split at h
        · rename_i hv01
          cases h
          refine ⟨okt (okt hS), hL, fun Q K la H locs h1 h2 h3 h4 => ?_⟩
          rw [List.map_cons, List.map_cons, htv]
          exact key .boolean ((ma_kd9 _ q1 _ q3).2.1 q5) (by rcases hv01 with z | z <;> rw [z] <;> rfl) (by rcases hv01 with z | z <;> rw [z] <;> rfl) la H locs Q h2 h3 (fun H1 locs1 g1 g2 => K la H1 locs1 h1 g1 g2 g2.2.2)
        · cases h
      · cases h
    · cases h
  · cases h
end SND
