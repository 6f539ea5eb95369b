/-! PART 09b (printed by wip/whole/gen/steps2.py): the step rows for the other instructions. -/
section SND2
variable {p : Program} {l : Launch} {e : Env} {s : State} {m : MethodId} {args : Array Value} {below : List Frame} {meth : Method} {c : Code} {φ : ma_F} {fv : Value} {cA : Nat → ClassId} {D : va_G} {A : Nat → Prop} {un : List ma_Q} {μ d pc len pc' : Nat} {ls ls' : ma_L} {st st' : List ma_V} {σ σ' : ma_S}
theorem ma_n1 {len : Nat} (h : Nat.beq len 1 = true) : len = 1 := Nat.eq_of_beq_eq_true h
theorem ma_n2 {len : Nat} (h : Nat.beq len 2 = true) : len = 2 := Nat.eq_of_beq_eq_true h
theorem ma_n3 {len : Nat} (h : Nat.beq len 3 = true) : len = 3 := Nat.eq_of_beq_eq_true h
theorem ma_tg_eq {pc : Nat} {off : Int} (h : 0 ≤ (pc : Int) + off) : (pc : Int) + off = (ma_tg pc off : Int) := by unfold ma_tg; omega
theorem ma_catS {φ : ma_F} {fv : Value} (hfv : fv = .null ∨ ∃ a, fv = .ref a) : ∀ (r : List ma_V), ((r.map (ma_tv φ fv)).map fun v => v.category).sum ≤ 2 * r.length
  | [] => by simp
  | v :: r => by
    have h := ma_catS (φ := φ) hfv r
    rcases lv_cat (ma_tv φ fv v) with z | z <;> simp only [List.map_cons, List.sum_cons, List.length_cons, z] <;> omega
theorem ma_idx {α : Type} {l : List α} {x : α} (h : x ∈ l) : ∃ k : Nat, l[k]? = some x := List.getElem?_of_mem h
theorem ma_okat {un : List ma_Q} {ls : ma_L} {i : Nat} {v : ma_V} (hL : ma_okL un ls) (h : ls[i]? = some (some v)) : ma_ok un v := hL v (List.mem_of_getElem? h)
theorem sg_iconst {k : Int} (C : ma_Ctx p s m args meth c φ fv cA D A un μ) (hdec : decode (ma_by μ) pc = .ok (.iconst k, len)) (hok : ma_iok μ pc (.iconst k) len = true) (hS : ma_okS un st) (hL : ma_okL un ls) (h : ma_st μ pc (.iconst k) (pc + len) ls st σ = ma_go pc' ls' st' σ') : ma_Go p l e s m args below meth c φ fv cA D A un μ d pc ls st σ pc' ls' st' σ' := by
  obtain ⟨hμ, hx, hb, hml, hr, hown, hts, hlocks, hK, hO, hun, hfv, hD⟩ := C
  have hl1 : len = 1 := ma_n1 hok
  subst hl1
  cases h
  exact ⟨okc okI hS, hL, fun Q K la H locs h1 h2 h3 h4 => lv_iconst hx hb hdec rfl (K la H locs h1 h2 h3 h4)⟩
theorem sg_bipush {k : Int} (C : ma_Ctx p s m args meth c φ fv cA D A un μ) (hdec : decode (ma_by μ) pc = .ok (.bipush k, len)) (hok : ma_iok μ pc (.bipush k) len = true) (hS : ma_okS un st) (hL : ma_okL un ls) (h : ma_st μ pc (.bipush k) (pc + len) ls st σ = ma_go pc' ls' st' σ') : ma_Go p l e s m args below meth c φ fv cA D A un μ d pc ls st σ pc' ls' st' σ' := by
  obtain ⟨hμ, hx, hb, hml, hr, hown, hts, hlocks, hK, hO, hun, hfv, hD⟩ := C
  have hl2 : len = 2 := ma_n2 hok
  subst hl2
  cases h
  exact ⟨okc okI hS, hL, fun Q K la H locs h1 h2 h3 h4 => lv_bipush hx hb hdec rfl (K la H locs h1 h2 h3 h4)⟩
theorem sg_sipush {k : Int} (C : ma_Ctx p s m args meth c φ fv cA D A un μ) (hdec : decode (ma_by μ) pc = .ok (.sipush k, len)) (hok : ma_iok μ pc (.sipush k) len = true) (hS : ma_okS un st) (hL : ma_okL un ls) (h : ma_st μ pc (.sipush k) (pc + len) ls st σ = ma_go pc' ls' st' σ') : ma_Go p l e s m args below meth c φ fv cA D A un μ d pc ls st σ pc' ls' st' σ' := by
  obtain ⟨hμ, hx, hb, hml, hr, hown, hts, hlocks, hK, hO, hun, hfv, hD⟩ := C
  have hl3 : len = 3 := ma_n3 hok
  subst hl3
  cases h
  exact ⟨okc okI hS, hL, fun Q K la H locs h1 h2 h3 h4 => lv_sipush hx hb hdec rfl (K la H locs h1 h2 h3 h4)⟩
theorem sg_lconst {k : Fin 2} (C : ma_Ctx p s m args meth c φ fv cA D A un μ) (hdec : decode (ma_by μ) pc = .ok (.lconst k, len)) (hok : ma_iok μ pc (.lconst k) len = true) (hS : ma_okS un st) (hL : ma_okL un ls) (h : ma_st μ pc (.lconst k) (pc + len) ls st σ = ma_go pc' ls' st' σ') : ma_Go p l e s m args below meth c φ fv cA D A un μ d pc ls st σ pc' ls' st' σ' := by
  obtain ⟨hμ, hx, hb, hml, hr, hown, hts, hlocks, hK, hO, hun, hfv, hD⟩ := C
  have hl1 : len = 1 := ma_n1 hok
  subst hl1
  cases h
  exact ⟨okc okJ hS, hL, fun Q K la H locs h1 h2 h3 h4 => lv_lconst hx hb hdec rfl (K la H locs h1 h2 h3 h4)⟩
theorem sg_ldc {i : Nat} (C : ma_Ctx p s m args meth c φ fv cA D A un μ) (hdec : decode (ma_by μ) pc = .ok (.ldc i, len)) (hok : ma_iok μ pc (.ldc i) len = true) (hS : ma_okS un st) (hL : ma_okL un ls) (h : ma_st μ pc (.ldc i) (pc + len) ls st σ = ma_go pc' ls' st' σ') : ma_Go p l e s m args below meth c φ fv cA D A un μ d pc ls st σ pc' ls' st' σ' := by
  obtain ⟨hμ, hx, hb, hml, hr, hown, hts, hlocks, hK, hO, hun, hfv, hD⟩ := C
  have hl2 : len = 2 := ma_n2 hok
  subst hl2
  simp only [ma_st] at h
  split at h
  · rename_i v hv
    have P := ma_lc_ok hv
    cases h
    match v, P with
    | .inl x, P => exact ⟨okc okI hS, hL, fun Q K la H locs h1 h2 h3 h4 => lv_ldc hx hb hown (hts _ P) hdec (K la H locs h1 h2 h3 h4)⟩
    | .inr (.inr (g, i1, j1)), P =>
      obtain ⟨e1, e2, e3, e4, e5⟩ := P
      simp only at e1 e2 e3 e4 e5
      subst e1; subst e3
      exact ⟨okc (Or.inr (Or.inr (Or.inl ⟨rfl, e2, rfl⟩))) hS, hL, fun Q K la H locs h1 h2 h3 h4 => va_ldcS hx hb (own := "OneSledgeForTwo$Reader") (by rw [← e4]; exact hown) (by rw [e5]; exact (hO.2.2.2.1 i1 e2).2.2.2.2) hdec (K la H locs h1 h2 h3 h4)⟩
  · cases h
theorem sg_ldc_w {i : Nat} (C : ma_Ctx p s m args meth c φ fv cA D A un μ) (hdec : decode (ma_by μ) pc = .ok (.ldc_w i, len)) (hok : ma_iok μ pc (.ldc_w i) len = true) (hS : ma_okS un st) (hL : ma_okL un ls) (hw : ma_cl μ = 8) (h : ma_st μ pc (.ldc_w i) (pc + len) ls st σ = ma_go pc' ls' st' σ') : ma_Go p l e s m args below meth c φ fv cA D A un μ d pc ls st σ pc' ls' st' σ' := by
  obtain ⟨hμ, hx, hb, hml, hr, hown, hts, hlocks, hK, hO, hun, hfv, hD⟩ := C
  have hl3 : len = 3 := ma_n3 hok
  subst hl3
  simp only [ma_st] at h
  split at h
  · rename_i v hv
    have P := ma_lc_ok hv
    cases h
    match v, P with
    | .inl x, P => exact ⟨okc okI hS, hL, fun Q K la H locs h1 h2 h3 h4 => lv_ldcw hx hb hown (hts _ P) hdec (K la H locs h1 h2 h3 h4)⟩
    | .inr (.inr (g, i1, j1)), P =>
      obtain ⟨e1, e2, e3, e4, e5⟩ := P
      simp only at e1 e2 e3 e4 e5
      subst e1; subst e3
      exfalso
      have z : ma_cl μ = 8 := hw
      rw [z] at e4
      exact absurd e4 (by decide)
  · cases h
theorem sg_iload {i : Nat} (C : ma_Ctx p s m args meth c φ fv cA D A un μ) (hdec : decode (ma_by μ) pc = .ok (.iload i, len)) (hok : ma_iok μ pc (.iload i) len = true) (hS : ma_okS un st) (hL : ma_okL un ls) (h : ma_st μ pc (.iload i) (pc + len) ls st σ = ma_go pc' ls' st' σ') : ma_Go p l e s m args below meth c φ fv cA D A un μ d pc ls st σ pc' ls' st' σ' := by
  obtain ⟨hμ, hx, hb, hml, hr, hown, hts, hlocks, hK, hO, hun, hfv, hD⟩ := C
  have hl2 : len = 2 := ma_n2 hok
  subst hl2
  obtain ⟨x, hx1, rfl, rfl, rfl, rfl⟩ := ma_ld_inv h
  exact ⟨okc (ma_okat hL hx1) hS, hL, fun Q K la H locs h1 h2 h3 h4 => lv_iload hx hb hdec (h1.2.2.2 _ _ hx1) (K la H locs h1 h2 h3 h4)⟩
theorem sg_iload_n {i : Fin 4} (C : ma_Ctx p s m args meth c φ fv cA D A un μ) (hdec : decode (ma_by μ) pc = .ok (.iload_n i, len)) (hok : ma_iok μ pc (.iload_n i) len = true) (hS : ma_okS un st) (hL : ma_okL un ls) (h : ma_st μ pc (.iload_n i) (pc + len) ls st σ = ma_go pc' ls' st' σ') : ma_Go p l e s m args below meth c φ fv cA D A un μ d pc ls st σ pc' ls' st' σ' := by
  obtain ⟨hμ, hx, hb, hml, hr, hown, hts, hlocks, hK, hO, hun, hfv, hD⟩ := C
  have hl1 : len = 1 := ma_n1 hok
  subst hl1
  obtain ⟨x, hx1, rfl, rfl, rfl, rfl⟩ := ma_ld_inv h
  exact ⟨okc (ma_okat hL hx1) hS, hL, fun Q K la H locs h1 h2 h3 h4 => lv_iload_n hx hb hdec rfl (h1.2.2.2 _ _ hx1) (K la H locs h1 h2 h3 h4)⟩
theorem sg_lload_n {i : Fin 4} (C : ma_Ctx p s m args meth c φ fv cA D A un μ) (hdec : decode (ma_by μ) pc = .ok (.lload_n i, len)) (hok : ma_iok μ pc (.lload_n i) len = true) (hS : ma_okS un st) (hL : ma_okL un ls) (h : ma_st μ pc (.lload_n i) (pc + len) ls st σ = ma_go pc' ls' st' σ') : ma_Go p l e s m args below meth c φ fv cA D A un μ d pc ls st σ pc' ls' st' σ' := by
  obtain ⟨hμ, hx, hb, hml, hr, hown, hts, hlocks, hK, hO, hun, hfv, hD⟩ := C
  have hl1 : len = 1 := ma_n1 hok
  subst hl1
  obtain ⟨x, hx1, rfl, rfl, rfl, rfl⟩ := ma_lL_inv h
  exact ⟨okc (ma_okat hL hx1) hS, hL, fun Q K la H locs h1 h2 h3 h4 => lv_lload_n hx hb hdec rfl (h1.2.2.2 _ _ hx1) (K la H locs h1 h2 h3 h4)⟩
theorem sg_aload {i : Nat} (C : ma_Ctx p s m args meth c φ fv cA D A un μ) (hdec : decode (ma_by μ) pc = .ok (.aload i, len)) (hok : ma_iok μ pc (.aload i) len = true) (hS : ma_okS un st) (hL : ma_okL un ls) (h : ma_st μ pc (.aload i) (pc + len) ls st σ = ma_go pc' ls' st' σ') : ma_Go p l e s m args below meth c φ fv cA D A un μ d pc ls st σ pc' ls' st' σ' := by
  obtain ⟨hμ, hx, hb, hml, hr, hown, hts, hlocks, hK, hO, hun, hfv, hD⟩ := C
  have hl2 : len = 2 := ma_n2 hok
  subst hl2
  obtain ⟨q, hx1, rfl, rfl, rfl, rfl⟩ := ma_lA_inv h
  refine ⟨okc (ma_okat hL hx1) hS, hL, fun Q K la H locs h1 h2 h3 h4 => ?_⟩
  have K2 := K la H locs h1 h2 h3 h4
  have hv := h1.2.2.2 _ _ hx1
  rw [List.map_cons] at K2
  have hcase : ma_tv φ fv (.inr (.inr q)) = .null ∨ ∃ a, ma_tv φ fv (.inr (.inr q)) = .ref a := by
    obtain ⟨g, i1, j1⟩ := q
    simp only [ma_tv]
    split
    · exact hfv
    · exact Or.inr ⟨_, rfl⟩
  rcases hcase with z | ⟨a, z⟩
  · rw [z] at hv K2
    exact lv_aloadN hx hb hdec hv K2
  · rw [z] at hv K2
    exact lv_aload hx hb hdec hv K2
theorem sg_aload_n {i : Fin 4} (C : ma_Ctx p s m args meth c φ fv cA D A un μ) (hdec : decode (ma_by μ) pc = .ok (.aload_n i, len)) (hok : ma_iok μ pc (.aload_n i) len = true) (hS : ma_okS un st) (hL : ma_okL un ls) (h : ma_st μ pc (.aload_n i) (pc + len) ls st σ = ma_go pc' ls' st' σ') : ma_Go p l e s m args below meth c φ fv cA D A un μ d pc ls st σ pc' ls' st' σ' := by
  obtain ⟨hμ, hx, hb, hml, hr, hown, hts, hlocks, hK, hO, hun, hfv, hD⟩ := C
  have hl1 : len = 1 := ma_n1 hok
  subst hl1
  obtain ⟨q, hx1, rfl, rfl, rfl, rfl⟩ := ma_lA_inv h
  refine ⟨okc (ma_okat hL hx1) hS, hL, fun Q K la H locs h1 h2 h3 h4 => ?_⟩
  have K2 := K la H locs h1 h2 h3 h4
  have hv := h1.2.2.2 _ _ hx1
  rw [List.map_cons] at K2
  have hcase : ma_tv φ fv (.inr (.inr q)) = .null ∨ ∃ a, ma_tv φ fv (.inr (.inr q)) = .ref a := by
    obtain ⟨g, i1, j1⟩ := q
    simp only [ma_tv]
    split
    · exact hfv
    · exact Or.inr ⟨_, rfl⟩
  rcases hcase with z | ⟨a, z⟩
  · rw [z] at hv K2
    exact lv_aload_nN hx hb hdec rfl hv K2
  · rw [z] at hv K2
    exact lv_aload_n hx hb hdec rfl hv K2
theorem sg_istore {i : Nat} (C : ma_Ctx p s m args meth c φ fv cA D A un μ) (hdec : decode (ma_by μ) pc = .ok (.istore i, len)) (hok : ma_iok μ pc (.istore i) len = true) (hS : ma_okS un st) (hL : ma_okL un ls) (h : ma_st μ pc (.istore i) (pc + len) ls st σ = ma_go pc' ls' st' σ') : ma_Go p l e s m args below meth c φ fv cA D A un μ d pc ls st σ pc' ls' st' σ' := by
  obtain ⟨hμ, hx, hb, hml, hr, hown, hts, hlocks, hK, hO, hun, hfv, hD⟩ := C
  have hl2 : len = 2 := ma_n2 hok
  subst hl2
  simp only [ma_st, ma_sI] at h
  split at h
  · rename_i x r
    obtain ⟨e1, e2, rfl, rfl, rfl, rfl⟩ := ma_sl_inv h
    refine ⟨okt hS, okset hL okI, fun Q K la H locs h1 h2 h3 h4 => ?_⟩
    exact lv_istore hx hb hdec h1.has (by rw [← h1.1]; exact e1) rfl (fun la' h' => K la' H locs (h1.set hfv e1 e2 h') h2 h3 h4)
  · cases h
theorem sg_istore_n {i : Fin 4} (C : ma_Ctx p s m args meth c φ fv cA D A un μ) (hdec : decode (ma_by μ) pc = .ok (.istore_n i, len)) (hok : ma_iok μ pc (.istore_n i) len = true) (hS : ma_okS un st) (hL : ma_okL un ls) (h : ma_st μ pc (.istore_n i) (pc + len) ls st σ = ma_go pc' ls' st' σ') : ma_Go p l e s m args below meth c φ fv cA D A un μ d pc ls st σ pc' ls' st' σ' := by
  obtain ⟨hμ, hx, hb, hml, hr, hown, hts, hlocks, hK, hO, hun, hfv, hD⟩ := C
  have hl1 : len = 1 := ma_n1 hok
  subst hl1
  simp only [ma_st, ma_sI] at h
  split at h
  · rename_i x r
    obtain ⟨e1, e2, rfl, rfl, rfl, rfl⟩ := ma_sl_inv h
    refine ⟨okt hS, okset hL okI, fun Q K la H locs h1 h2 h3 h4 => ?_⟩
    exact lv_istore_n hx hb hdec rfl h1.has (by rw [← h1.1]; exact e1) rfl (fun la' h' => K la' H locs (h1.set hfv e1 e2 h') h2 h3 h4)
  · cases h
theorem sg_astore {i : Nat} (C : ma_Ctx p s m args meth c φ fv cA D A un μ) (hdec : decode (ma_by μ) pc = .ok (.astore i, len)) (hok : ma_iok μ pc (.astore i) len = true) (hS : ma_okS un st) (hL : ma_okL un ls) (h : ma_st μ pc (.astore i) (pc + len) ls st σ = ma_go pc' ls' st' σ') : ma_Go p l e s m args below meth c φ fv cA D A un μ d pc ls st σ pc' ls' st' σ' := by
  obtain ⟨hμ, hx, hb, hml, hr, hown, hts, hlocks, hK, hO, hun, hfv, hD⟩ := C
  have hl2 : len = 2 := ma_n2 hok
  subst hl2
  simp only [ma_st, ma_sA] at h
  split at h
  · rename_i q r
    obtain ⟨e1, e2, rfl, rfl, rfl, rfl⟩ := ma_sl_inv h
    refine ⟨okt hS, okset hL (okh hS), fun Q K la H locs h1 h2 h3 h4 => ?_⟩
    rw [List.map_cons]
    have hcase : ma_tv φ fv (.inr (.inr q)) = .null ∨ ∃ a, ma_tv φ fv (.inr (.inr q)) = .ref a := by
      obtain ⟨g, i1, j1⟩ := q
      simp only [ma_tv]
      split
      · exact hfv
      · exact Or.inr ⟨_, rfl⟩
    rcases hcase with z | ⟨a, z⟩
    · rw [z]
      exact lv_astoreN hx hb hdec h1.has (by rw [← h1.1]; exact e1) rfl (fun la' h' => K la' H locs (h1.set hfv e1 e2 (by rw [z]; exact h')) h2 h3 h4)
    · rw [z]
      exact lv_astore hx hb hdec h1.has (by rw [← h1.1]; exact e1) rfl (fun la' h' => K la' H locs (h1.set hfv e1 e2 (by rw [z]; exact h')) h2 h3 h4)
  · cases h
theorem sg_astore_n {i : Fin 4} (C : ma_Ctx p s m args meth c φ fv cA D A un μ) (hdec : decode (ma_by μ) pc = .ok (.astore_n i, len)) (hok : ma_iok μ pc (.astore_n i) len = true) (hS : ma_okS un st) (hL : ma_okL un ls) (h : ma_st μ pc (.astore_n i) (pc + len) ls st σ = ma_go pc' ls' st' σ') : ma_Go p l e s m args below meth c φ fv cA D A un μ d pc ls st σ pc' ls' st' σ' := by
  obtain ⟨hμ, hx, hb, hml, hr, hown, hts, hlocks, hK, hO, hun, hfv, hD⟩ := C
  have hl1 : len = 1 := ma_n1 hok
  subst hl1
  simp only [ma_st, ma_sA] at h
  split at h
  · rename_i q r
    obtain ⟨e1, e2, rfl, rfl, rfl, rfl⟩ := ma_sl_inv h
    refine ⟨okt hS, okset hL (okh hS), fun Q K la H locs h1 h2 h3 h4 => ?_⟩
    rw [List.map_cons]
    have hcase : ma_tv φ fv (.inr (.inr q)) = .null ∨ ∃ a, ma_tv φ fv (.inr (.inr q)) = .ref a := by
      obtain ⟨g, i1, j1⟩ := q
      simp only [ma_tv]
      split
      · exact hfv
      · exact Or.inr ⟨_, rfl⟩
    rcases hcase with z | ⟨a, z⟩
    · rw [z]
      exact lv_astore_nN hx hb hdec rfl h1.has (by rw [← h1.1]; exact e1) rfl (fun la' h' => K la' H locs (h1.set hfv e1 e2 (by rw [z]; exact h')) h2 h3 h4)
    · rw [z]
      exact lv_astore_n hx hb hdec rfl h1.has (by rw [← h1.1]; exact e1) rfl (fun la' h' => K la' H locs (h1.set hfv e1 e2 (by rw [z]; exact h')) h2 h3 h4)
  · cases h
theorem sg_iinc {i : Nat} {k : Int} (C : ma_Ctx p s m args meth c φ fv cA D A un μ) (hdec : decode (ma_by μ) pc = .ok (.iinc i k, len)) (hok : ma_iok μ pc (.iinc i k) len = true) (hS : ma_okS un st) (hL : ma_okL un ls) (h : ma_st μ pc (.iinc i k) (pc + len) ls st σ = ma_go pc' ls' st' σ') : ma_Go p l e s m args below meth c φ fv cA D A un μ d pc ls st σ pc' ls' st' σ' := by
  obtain ⟨hμ, hx, hb, hml, hr, hown, hts, hlocks, hK, hO, hun, hfv, hD⟩ := C
  have hl3 : len = 3 := ma_n3 hok
  subst hl3
  simp only [ma_st] at h
  split at h
  · rename_i x hx1
    obtain ⟨e1, e2, rfl, rfl, rfl, rfl⟩ := ma_sl_inv h
    refine ⟨hS, okset hL okI, fun Q K la H locs h1 h2 h3 h4 => ?_⟩
    obtain ⟨k0, hk0⟩ := ma_idx (ma_prs_mem (φ := φ) (fv := fv).mpr ⟨_, hx1, rfl⟩)
    exact lv_iinc hx hb hdec h1.has hk0 rfl (by rw [← h1.1]; exact e1) rfl (fun la' h' => K la' H locs (h1.set hfv e1 e2 h') h2 h3 h4)
  · cases h
theorem sg_iadd  (C : ma_Ctx p s m args meth c φ fv cA D A un μ) (hdec : decode (ma_by μ) pc = .ok (.iadd, len)) (hok : ma_iok μ pc (.iadd) len = true) (hS : ma_okS un st) (hL : ma_okL un ls) (h : ma_st μ pc (.iadd) (pc + len) ls st σ = ma_go pc' ls' st' σ') : ma_Go p l e s m args below meth c φ fv cA D A un μ d pc ls st σ pc' ls' st' σ' := by
  obtain ⟨hμ, hx, hb, hml, hr, hown, hts, hlocks, hK, hO, hun, hfv, hD⟩ := C
  have hl1 : len = 1 := ma_n1 hok
  subst hl1
  simp only [ma_st] at h
  split at h
  · cases h
    exact ⟨okc okI (okt (okt hS)), hL, fun Q K la H locs h1 h2 h3 h4 => lv_iadd hx hb hdec (K la H locs h1 h2 h3 h4)⟩
  · cases h
theorem sg_isub  (C : ma_Ctx p s m args meth c φ fv cA D A un μ) (hdec : decode (ma_by μ) pc = .ok (.isub, len)) (hok : ma_iok μ pc (.isub) len = true) (hS : ma_okS un st) (hL : ma_okL un ls) (h : ma_st μ pc (.isub) (pc + len) ls st σ = ma_go pc' ls' st' σ') : ma_Go p l e s m args below meth c φ fv cA D A un μ d pc ls st σ pc' ls' st' σ' := by
  obtain ⟨hμ, hx, hb, hml, hr, hown, hts, hlocks, hK, hO, hun, hfv, hD⟩ := C
  have hl1 : len = 1 := ma_n1 hok
  subst hl1
  simp only [ma_st] at h
  split at h
  · cases h
    exact ⟨okc okI (okt (okt hS)), hL, fun Q K la H locs h1 h2 h3 h4 => lv_isub hx hb hdec (K la H locs h1 h2 h3 h4)⟩
  · cases h
theorem sg_imul  (C : ma_Ctx p s m args meth c φ fv cA D A un μ) (hdec : decode (ma_by μ) pc = .ok (.imul, len)) (hok : ma_iok μ pc (.imul) len = true) (hS : ma_okS un st) (hL : ma_okL un ls) (h : ma_st μ pc (.imul) (pc + len) ls st σ = ma_go pc' ls' st' σ') : ma_Go p l e s m args below meth c φ fv cA D A un μ d pc ls st σ pc' ls' st' σ' := by
  obtain ⟨hμ, hx, hb, hml, hr, hown, hts, hlocks, hK, hO, hun, hfv, hD⟩ := C
  have hl1 : len = 1 := ma_n1 hok
  subst hl1
  simp only [ma_st] at h
  split at h
  · cases h
    exact ⟨okc okI (okt (okt hS)), hL, fun Q K la H locs h1 h2 h3 h4 => lv_imul hx hb hdec (K la H locs h1 h2 h3 h4)⟩
  · cases h
theorem sg_ior  (C : ma_Ctx p s m args meth c φ fv cA D A un μ) (hdec : decode (ma_by μ) pc = .ok (.ior, len)) (hok : ma_iok μ pc (.ior) len = true) (hS : ma_okS un st) (hL : ma_okL un ls) (h : ma_st μ pc (.ior) (pc + len) ls st σ = ma_go pc' ls' st' σ') : ma_Go p l e s m args below meth c φ fv cA D A un μ d pc ls st σ pc' ls' st' σ' := by
  obtain ⟨hμ, hx, hb, hml, hr, hown, hts, hlocks, hK, hO, hun, hfv, hD⟩ := C
  have hl1 : len = 1 := ma_n1 hok
  subst hl1
  simp only [ma_st] at h
  split at h
  · cases h
    exact ⟨okc okI (okt (okt hS)), hL, fun Q K la H locs h1 h2 h3 h4 => lv_ior hx hb hdec (K la H locs h1 h2 h3 h4)⟩
  · cases h
theorem sg_ixor  (C : ma_Ctx p s m args meth c φ fv cA D A un μ) (hdec : decode (ma_by μ) pc = .ok (.ixor, len)) (hok : ma_iok μ pc (.ixor) len = true) (hS : ma_okS un st) (hL : ma_okL un ls) (h : ma_st μ pc (.ixor) (pc + len) ls st σ = ma_go pc' ls' st' σ') : ma_Go p l e s m args below meth c φ fv cA D A un μ d pc ls st σ pc' ls' st' σ' := by
  obtain ⟨hμ, hx, hb, hml, hr, hown, hts, hlocks, hK, hO, hun, hfv, hD⟩ := C
  have hl1 : len = 1 := ma_n1 hok
  subst hl1
  simp only [ma_st] at h
  split at h
  · cases h
    exact ⟨okc okI (okt (okt hS)), hL, fun Q K la H locs h1 h2 h3 h4 => lv_ixor hx hb hdec (K la H locs h1 h2 h3 h4)⟩
  · cases h
theorem sg_iand  (C : ma_Ctx p s m args meth c φ fv cA D A un μ) (hdec : decode (ma_by μ) pc = .ok (.iand, len)) (hok : ma_iok μ pc (.iand) len = true) (hS : ma_okS un st) (hL : ma_okL un ls) (h : ma_st μ pc (.iand) (pc + len) ls st σ = ma_go pc' ls' st' σ') : ma_Go p l e s m args below meth c φ fv cA D A un μ d pc ls st σ pc' ls' st' σ' := by
  obtain ⟨hμ, hx, hb, hml, hr, hown, hts, hlocks, hK, hO, hun, hfv, hD⟩ := C
  have hl1 : len = 1 := ma_n1 hok
  subst hl1
  simp only [ma_st] at h
  split at h
  · cases h
    exact ⟨okc okI (okt (okt hS)), hL, fun Q K la H locs h1 h2 h3 h4 => lv_iand hx hb hdec (K la H locs h1 h2 h3 h4)⟩
  · cases h
theorem sg_ishl  (C : ma_Ctx p s m args meth c φ fv cA D A un μ) (hdec : decode (ma_by μ) pc = .ok (.ishl, len)) (hok : ma_iok μ pc (.ishl) len = true) (hS : ma_okS un st) (hL : ma_okL un ls) (h : ma_st μ pc (.ishl) (pc + len) ls st σ = ma_go pc' ls' st' σ') : ma_Go p l e s m args below meth c φ fv cA D A un μ d pc ls st σ pc' ls' st' σ' := by
  obtain ⟨hμ, hx, hb, hml, hr, hown, hts, hlocks, hK, hO, hun, hfv, hD⟩ := C
  have hl1 : len = 1 := ma_n1 hok
  subst hl1
  simp only [ma_st] at h
  split at h
  · cases h
    exact ⟨okc okI (okt (okt hS)), hL, fun Q K la H locs h1 h2 h3 h4 => lv_ishl hx hb hdec (K la H locs h1 h2 h3 h4)⟩
  · cases h
theorem sg_ishr  (C : ma_Ctx p s m args meth c φ fv cA D A un μ) (hdec : decode (ma_by μ) pc = .ok (.ishr, len)) (hok : ma_iok μ pc (.ishr) len = true) (hS : ma_okS un st) (hL : ma_okL un ls) (h : ma_st μ pc (.ishr) (pc + len) ls st σ = ma_go pc' ls' st' σ') : ma_Go p l e s m args below meth c φ fv cA D A un μ d pc ls st σ pc' ls' st' σ' := by
  obtain ⟨hμ, hx, hb, hml, hr, hown, hts, hlocks, hK, hO, hun, hfv, hD⟩ := C
  have hl1 : len = 1 := ma_n1 hok
  subst hl1
  simp only [ma_st] at h
  split at h
  · cases h
    exact ⟨okc okI (okt (okt hS)), hL, fun Q K la H locs h1 h2 h3 h4 => lv_ishr hx hb hdec (K la H locs h1 h2 h3 h4)⟩
  · cases h
theorem sg_iushr  (C : ma_Ctx p s m args meth c φ fv cA D A un μ) (hdec : decode (ma_by μ) pc = .ok (.iushr, len)) (hok : ma_iok μ pc (.iushr) len = true) (hS : ma_okS un st) (hL : ma_okL un ls) (h : ma_st μ pc (.iushr) (pc + len) ls st σ = ma_go pc' ls' st' σ') : ma_Go p l e s m args below meth c φ fv cA D A un μ d pc ls st σ pc' ls' st' σ' := by
  obtain ⟨hμ, hx, hb, hml, hr, hown, hts, hlocks, hK, hO, hun, hfv, hD⟩ := C
  have hl1 : len = 1 := ma_n1 hok
  subst hl1
  simp only [ma_st] at h
  split at h
  · cases h
    exact ⟨okc okI (okt (okt hS)), hL, fun Q K la H locs h1 h2 h3 h4 => lv_iushr hx hb hdec rfl (K la H locs h1 h2 h3 h4)⟩
  · cases h
theorem sg_idiv  (C : ma_Ctx p s m args meth c φ fv cA D A un μ) (hdec : decode (ma_by μ) pc = .ok (.idiv, len)) (hok : ma_iok μ pc (.idiv) len = true) (hS : ma_okS un st) (hL : ma_okL un ls) (h : ma_st μ pc (.idiv) (pc + len) ls st σ = ma_go pc' ls' st' σ') : ma_Go p l e s m args below meth c φ fv cA D A un μ d pc ls st σ pc' ls' st' σ' := by
  obtain ⟨hμ, hx, hb, hml, hr, hown, hts, hlocks, hK, hO, hun, hfv, hD⟩ := C
  have hl1 : len = 1 := ma_n1 hok
  subst hl1
  simp only [ma_st] at h
  split at h
  · split at h
    · cases h
    · rename_i hy
      cases h
      exact ⟨okc okI (okt (okt hS)), hL, fun Q K la H locs h1 h2 h3 h4 => lv_idiv hx hb hdec hy (K la H locs h1 h2 h3 h4)⟩
  · cases h
theorem sg_irem  (C : ma_Ctx p s m args meth c φ fv cA D A un μ) (hdec : decode (ma_by μ) pc = .ok (.irem, len)) (hok : ma_iok μ pc (.irem) len = true) (hS : ma_okS un st) (hL : ma_okL un ls) (h : ma_st μ pc (.irem) (pc + len) ls st σ = ma_go pc' ls' st' σ') : ma_Go p l e s m args below meth c φ fv cA D A un μ d pc ls st σ pc' ls' st' σ' := by
  obtain ⟨hμ, hx, hb, hml, hr, hown, hts, hlocks, hK, hO, hun, hfv, hD⟩ := C
  have hl1 : len = 1 := ma_n1 hok
  subst hl1
  simp only [ma_st] at h
  split at h
  · split at h
    · cases h
    · rename_i hy
      cases h
      exact ⟨okc okI (okt (okt hS)), hL, fun Q K la H locs h1 h2 h3 h4 => lv_irem hx hb hdec hy (K la H locs h1 h2 h3 h4)⟩
  · cases h
theorem sg_ineg  (C : ma_Ctx p s m args meth c φ fv cA D A un μ) (hdec : decode (ma_by μ) pc = .ok (.ineg, len)) (hok : ma_iok μ pc (.ineg) len = true) (hS : ma_okS un st) (hL : ma_okL un ls) (h : ma_st μ pc (.ineg) (pc + len) ls st σ = ma_go pc' ls' st' σ') : ma_Go p l e s m args below meth c φ fv cA D A un μ d pc ls st σ pc' ls' st' σ' := by
  obtain ⟨hμ, hx, hb, hml, hr, hown, hts, hlocks, hK, hO, hun, hfv, hD⟩ := C
  have hl1 : len = 1 := ma_n1 hok
  subst hl1
  simp only [ma_st] at h
  split at h
  · cases h
    exact ⟨okc okI (okt hS), hL, fun Q K la H locs h1 h2 h3 h4 => lv_ineg hx hb hdec (K la H locs h1 h2 h3 h4)⟩
  · cases h
theorem sg_i2l  (C : ma_Ctx p s m args meth c φ fv cA D A un μ) (hdec : decode (ma_by μ) pc = .ok (.i2l, len)) (hok : ma_iok μ pc (.i2l) len = true) (hS : ma_okS un st) (hL : ma_okL un ls) (h : ma_st μ pc (.i2l) (pc + len) ls st σ = ma_go pc' ls' st' σ') : ma_Go p l e s m args below meth c φ fv cA D A un μ d pc ls st σ pc' ls' st' σ' := by
  obtain ⟨hμ, hx, hb, hml, hr, hown, hts, hlocks, hK, hO, hun, hfv, hD⟩ := C
  have hl1 : len = 1 := ma_n1 hok
  subst hl1
  simp only [ma_st] at h
  split at h
  · cases h
    exact ⟨okc okJ (okt hS), hL, fun Q K la H locs h1 h2 h3 h4 => lv_i2l hx hb hdec rfl (K la H locs h1 h2 h3 h4)⟩
  · cases h
theorem sg_l2i  (C : ma_Ctx p s m args meth c φ fv cA D A un μ) (hdec : decode (ma_by μ) pc = .ok (.l2i, len)) (hok : ma_iok μ pc (.l2i) len = true) (hS : ma_okS un st) (hL : ma_okL un ls) (h : ma_st μ pc (.l2i) (pc + len) ls st σ = ma_go pc' ls' st' σ') : ma_Go p l e s m args below meth c φ fv cA D A un μ d pc ls st σ pc' ls' st' σ' := by
  obtain ⟨hμ, hx, hb, hml, hr, hown, hts, hlocks, hK, hO, hun, hfv, hD⟩ := C
  have hl1 : len = 1 := ma_n1 hok
  subst hl1
  simp only [ma_st] at h
  split at h
  · cases h
    exact ⟨okc okI (okt hS), hL, fun Q K la H locs h1 h2 h3 h4 => lv_l2i hx hb hdec rfl (K la H locs h1 h2 h3 h4)⟩
  · cases h
theorem sg_i2b  (C : ma_Ctx p s m args meth c φ fv cA D A un μ) (hdec : decode (ma_by μ) pc = .ok (.i2b, len)) (hok : ma_iok μ pc (.i2b) len = true) (hS : ma_okS un st) (hL : ma_okL un ls) (h : ma_st μ pc (.i2b) (pc + len) ls st σ = ma_go pc' ls' st' σ') : ma_Go p l e s m args below meth c φ fv cA D A un μ d pc ls st σ pc' ls' st' σ' := by
  obtain ⟨hμ, hx, hb, hml, hr, hown, hts, hlocks, hK, hO, hun, hfv, hD⟩ := C
  have hl1 : len = 1 := ma_n1 hok
  subst hl1
  simp only [ma_st] at h
  split at h
  · cases h
    exact ⟨okc okI (okt hS), hL, fun Q K la H locs h1 h2 h3 h4 => lv_i2b hx hb hdec rfl (K la H locs h1 h2 h3 h4)⟩
  · cases h
theorem sg_i2s  (C : ma_Ctx p s m args meth c φ fv cA D A un μ) (hdec : decode (ma_by μ) pc = .ok (.i2s, len)) (hok : ma_iok μ pc (.i2s) len = true) (hS : ma_okS un st) (hL : ma_okL un ls) (h : ma_st μ pc (.i2s) (pc + len) ls st σ = ma_go pc' ls' st' σ') : ma_Go p l e s m args below meth c φ fv cA D A un μ d pc ls st σ pc' ls' st' σ' := by
  obtain ⟨hμ, hx, hb, hml, hr, hown, hts, hlocks, hK, hO, hun, hfv, hD⟩ := C
  have hl1 : len = 1 := ma_n1 hok
  subst hl1
  simp only [ma_st] at h
  split at h
  · cases h
    exact ⟨okc okI (okt hS), hL, fun Q K la H locs h1 h2 h3 h4 => lv_i2s hx hb hdec rfl (K la H locs h1 h2 h3 h4)⟩
  · cases h
theorem sg_i2c  (C : ma_Ctx p s m args meth c φ fv cA D A un μ) (hdec : decode (ma_by μ) pc = .ok (.i2c, len)) (hok : ma_iok μ pc (.i2c) len = true) (hS : ma_okS un st) (hL : ma_okL un ls) (h : ma_st μ pc (.i2c) (pc + len) ls st σ = ma_go pc' ls' st' σ') : ma_Go p l e s m args below meth c φ fv cA D A un μ d pc ls st σ pc' ls' st' σ' := by
  obtain ⟨hμ, hx, hb, hml, hr, hown, hts, hlocks, hK, hO, hun, hfv, hD⟩ := C
  have hl1 : len = 1 := ma_n1 hok
  subst hl1
  simp only [ma_st] at h
  split at h
  · cases h
    exact ⟨okc okI (okt hS), hL, fun Q K la H locs h1 h2 h3 h4 => lv_i2c hx hb hdec rfl (K la H locs h1 h2 h3 h4)⟩
  · cases h
theorem sg_dup  (C : ma_Ctx p s m args meth c φ fv cA D A un μ) (hdec : decode (ma_by μ) pc = .ok (.dup, len)) (hok : ma_iok μ pc (.dup) len = true) (hS : ma_okS un st) (hL : ma_okL un ls) (h : ma_st μ pc (.dup) (pc + len) ls st σ = ma_go pc' ls' st' σ') : ma_Go p l e s m args below meth c φ fv cA D A un μ d pc ls st σ pc' ls' st' σ' := by
  obtain ⟨hμ, hx, hb, hml, hr, hown, hts, hlocks, hK, hO, hun, hfv, hD⟩ := C
  have hl1 : len = 1 := ma_n1 hok
  subst hl1
  simp only [ma_st] at h
  split at h
  · cases h
    exact ⟨okc okI hS, hL, fun Q K la H locs h1 h2 h3 h4 => lv_dup hx hb hdec rfl (K la H locs h1 h2 h3 h4)⟩
  · cases h
    exact ⟨okc (okh hS) hS, hL, fun Q K la H locs h1 h2 h3 h4 => lv_dup hx hb hdec (ma_catR hfv _) (K la H locs h1 h2 h3 h4)⟩
  · cases h
theorem sg_dup2  (C : ma_Ctx p s m args meth c φ fv cA D A un μ) (hdec : decode (ma_by μ) pc = .ok (.dup2, len)) (hok : ma_iok μ pc (.dup2) len = true) (hS : ma_okS un st) (hL : ma_okL un ls) (h : ma_st μ pc (.dup2) (pc + len) ls st σ = ma_go pc' ls' st' σ') : ma_Go p l e s m args below meth c φ fv cA D A un μ d pc ls st σ pc' ls' st' σ' := by
  obtain ⟨hμ, hx, hb, hml, hr, hown, hts, hlocks, hK, hO, hun, hfv, hD⟩ := C
  have hl1 : len = 1 := ma_n1 hok
  subst hl1
  simp only [ma_st] at h
  split at h
  · cases h
    exact ⟨okc okI (okc (okh (okt hS)) hS), hL, fun Q K la H locs h1 h2 h3 h4 => lv_dup2_11 hx hb hdec rfl (ma_catR hfv _) (K la H locs h1 h2 h3 h4)⟩
  · cases h
theorem sg_dup_x1  (C : ma_Ctx p s m args meth c φ fv cA D A un μ) (hdec : decode (ma_by μ) pc = .ok (.dup_x1, len)) (hok : ma_iok μ pc (.dup_x1) len = true) (hS : ma_okS un st) (hL : ma_okL un ls) (h : ma_st μ pc (.dup_x1) (pc + len) ls st σ = ma_go pc' ls' st' σ') : ma_Go p l e s m args below meth c φ fv cA D A un μ d pc ls st σ pc' ls' st' σ' := by
  obtain ⟨hμ, hx, hb, hml, hr, hown, hts, hlocks, hK, hO, hun, hfv, hD⟩ := C
  have hl1 : len = 1 := ma_n1 hok
  subst hl1
  simp only [ma_st] at h
  split at h
  · cases h
    exact ⟨okc okI (okc (okh (okt hS)) (okc okI (okt (okt hS)))), hL, fun Q K la H locs h1 h2 h3 h4 => lv_dup_x1 hx hb hdec rfl (ma_catR hfv _) (K la H locs h1 h2 h3 h4)⟩
  · cases h
theorem sg_pop  (C : ma_Ctx p s m args meth c φ fv cA D A un μ) (hdec : decode (ma_by μ) pc = .ok (.pop, len)) (hok : ma_iok μ pc (.pop) len = true) (hS : ma_okS un st) (hL : ma_okL un ls) (h : ma_st μ pc (.pop) (pc + len) ls st σ = ma_go pc' ls' st' σ') : ma_Go p l e s m args below meth c φ fv cA D A un μ d pc ls st σ pc' ls' st' σ' := by
  obtain ⟨hμ, hx, hb, hml, hr, hown, hts, hlocks, hK, hO, hun, hfv, hD⟩ := C
  have hl1 : len = 1 := ma_n1 hok
  subst hl1
  simp only [ma_st] at h
  split at h
  · cases h
    exact ⟨okt hS, hL, fun Q K la H locs h1 h2 h3 h4 => lv_pop hx hb hdec rfl (K la H locs h1 h2 h3 h4)⟩
  · cases h
theorem sg_goto {off : Int} (C : ma_Ctx p s m args meth c φ fv cA D A un μ) (hdec : decode (ma_by μ) pc = .ok (.goto off, len)) (hok : ma_iok μ pc (.goto off) len = true) (hS : ma_okS un st) (hL : ma_okL un ls) (h : ma_st μ pc (.goto off) (pc + len) ls st σ = ma_go pc' ls' st' σ') : ma_Go p l e s m args below meth c φ fv cA D A un μ d pc ls st σ pc' ls' st' σ' := by
  obtain ⟨hμ, hx, hb, hml, hr, hown, hts, hlocks, hK, hO, hun, hfv, hD⟩ := C
  simp only [ma_iok, Bool.and_eq_true, decide_eq_true_eq] at hok
  obtain ⟨hl, ho⟩ := hok
  have hl3 : len = 3 := ma_n3 hl
  subst hl3
  cases h
  exact ⟨hS, hL, fun Q K la H locs h1 h2 h3 h4 => lv_goto hx hb hdec (ma_tg_eq ho) (K la H locs h1 h2 h3 h4)⟩
theorem sg_if_eq {off : Int} (C : ma_Ctx p s m args meth c φ fv cA D A un μ) (hdec : decode (ma_by μ) pc = .ok (.ifCond .eq off, len)) (hok : ma_iok μ pc (.ifCond .eq off) len = true) (hS : ma_okS un st) (hL : ma_okL un ls) (h : ma_st μ pc (.ifCond .eq off) (pc + len) ls st σ = ma_go pc' ls' st' σ') : ma_Go p l e s m args below meth c φ fv cA D A un μ d pc ls st σ pc' ls' st' σ' := by
  obtain ⟨hμ, hx, hb, hml, hr, hown, hts, hlocks, hK, hO, hun, hfv, hD⟩ := C
  simp only [ma_iok, Bool.and_eq_true, decide_eq_true_eq] at hok
  obtain ⟨hl, ho⟩ := hok
  have hl3 : len = 3 := ma_n3 hl
  subst hl3
  simp only [ma_st] at h
  split at h
  · cases h
    refine ⟨okt hS, hL, fun Q K la H locs h1 h2 h3 h4 => ?_⟩
    have K2 := K la H locs h1 h2 h3 h4
    simp only [ma_c0] at K2
    exact lv_if_eq hx hb hdec (ma_tg_eq ho) (fun z => by have K3 := K2; rw [if_pos z] at K3; exact K3) (fun z => by have K3 := K2; rw [if_neg z] at K3; exact K3)
  · cases h
theorem sg_if_ne {off : Int} (C : ma_Ctx p s m args meth c φ fv cA D A un μ) (hdec : decode (ma_by μ) pc = .ok (.ifCond .ne off, len)) (hok : ma_iok μ pc (.ifCond .ne off) len = true) (hS : ma_okS un st) (hL : ma_okL un ls) (h : ma_st μ pc (.ifCond .ne off) (pc + len) ls st σ = ma_go pc' ls' st' σ') : ma_Go p l e s m args below meth c φ fv cA D A un μ d pc ls st σ pc' ls' st' σ' := by
  obtain ⟨hμ, hx, hb, hml, hr, hown, hts, hlocks, hK, hO, hun, hfv, hD⟩ := C
  simp only [ma_iok, Bool.and_eq_true, decide_eq_true_eq] at hok
  obtain ⟨hl, ho⟩ := hok
  have hl3 : len = 3 := ma_n3 hl
  subst hl3
  simp only [ma_st] at h
  split at h
  · cases h
    refine ⟨okt hS, hL, fun Q K la H locs h1 h2 h3 h4 => ?_⟩
    have K2 := K la H locs h1 h2 h3 h4
    simp only [ma_c0] at K2
    exact lv_if_ne hx hb hdec (ma_tg_eq ho) (fun z => by have K3 := K2; rw [if_neg z] at K3; exact K3) (fun z => by have K3 := K2; rw [if_pos z] at K3; exact K3)
  · cases h
theorem sg_if_lt {off : Int} (C : ma_Ctx p s m args meth c φ fv cA D A un μ) (hdec : decode (ma_by μ) pc = .ok (.ifCond .lt off, len)) (hok : ma_iok μ pc (.ifCond .lt off) len = true) (hS : ma_okS un st) (hL : ma_okL un ls) (h : ma_st μ pc (.ifCond .lt off) (pc + len) ls st σ = ma_go pc' ls' st' σ') : ma_Go p l e s m args below meth c φ fv cA D A un μ d pc ls st σ pc' ls' st' σ' := by
  obtain ⟨hμ, hx, hb, hml, hr, hown, hts, hlocks, hK, hO, hun, hfv, hD⟩ := C
  simp only [ma_iok, Bool.and_eq_true, decide_eq_true_eq] at hok
  obtain ⟨hl, ho⟩ := hok
  have hl3 : len = 3 := ma_n3 hl
  subst hl3
  simp only [ma_st] at h
  split at h
  · cases h
    refine ⟨okt hS, hL, fun Q K la H locs h1 h2 h3 h4 => ?_⟩
    have K2 := K la H locs h1 h2 h3 h4
    simp only [ma_c0] at K2
    exact lv_if_lt hx hb hdec (ma_tg_eq ho) (fun z => by have K3 := K2; rw [if_pos z] at K3; exact K3) (fun z => by have K3 := K2; rw [if_neg z] at K3; exact K3)
  · cases h
theorem sg_if_ge {off : Int} (C : ma_Ctx p s m args meth c φ fv cA D A un μ) (hdec : decode (ma_by μ) pc = .ok (.ifCond .ge off, len)) (hok : ma_iok μ pc (.ifCond .ge off) len = true) (hS : ma_okS un st) (hL : ma_okL un ls) (h : ma_st μ pc (.ifCond .ge off) (pc + len) ls st σ = ma_go pc' ls' st' σ') : ma_Go p l e s m args below meth c φ fv cA D A un μ d pc ls st σ pc' ls' st' σ' := by
  obtain ⟨hμ, hx, hb, hml, hr, hown, hts, hlocks, hK, hO, hun, hfv, hD⟩ := C
  simp only [ma_iok, Bool.and_eq_true, decide_eq_true_eq] at hok
  obtain ⟨hl, ho⟩ := hok
  have hl3 : len = 3 := ma_n3 hl
  subst hl3
  simp only [ma_st] at h
  split at h
  · cases h
    refine ⟨okt hS, hL, fun Q K la H locs h1 h2 h3 h4 => ?_⟩
    have K2 := K la H locs h1 h2 h3 h4
    simp only [ma_c0] at K2
    exact lv_if_ge hx hb hdec (ma_tg_eq ho) (fun z => by have K3 := K2; rw [if_pos z] at K3; exact K3) (fun z => by have K3 := K2; rw [if_neg z] at K3; exact K3)
  · cases h
theorem sg_if_gt {off : Int} (C : ma_Ctx p s m args meth c φ fv cA D A un μ) (hdec : decode (ma_by μ) pc = .ok (.ifCond .gt off, len)) (hok : ma_iok μ pc (.ifCond .gt off) len = true) (hS : ma_okS un st) (hL : ma_okL un ls) (h : ma_st μ pc (.ifCond .gt off) (pc + len) ls st σ = ma_go pc' ls' st' σ') : ma_Go p l e s m args below meth c φ fv cA D A un μ d pc ls st σ pc' ls' st' σ' := by
  obtain ⟨hμ, hx, hb, hml, hr, hown, hts, hlocks, hK, hO, hun, hfv, hD⟩ := C
  simp only [ma_iok, Bool.and_eq_true, decide_eq_true_eq] at hok
  obtain ⟨hl, ho⟩ := hok
  have hl3 : len = 3 := ma_n3 hl
  subst hl3
  simp only [ma_st] at h
  split at h
  · cases h
    refine ⟨okt hS, hL, fun Q K la H locs h1 h2 h3 h4 => ?_⟩
    have K2 := K la H locs h1 h2 h3 h4
    simp only [ma_c0] at K2
    exact lv_if_gt hx hb hdec (ma_tg_eq ho) (fun z => by have K3 := K2; rw [if_pos z] at K3; exact K3) (fun z => by have K3 := K2; rw [if_neg z] at K3; exact K3)
  · cases h
theorem sg_if_le {off : Int} (C : ma_Ctx p s m args meth c φ fv cA D A un μ) (hdec : decode (ma_by μ) pc = .ok (.ifCond .le off, len)) (hok : ma_iok μ pc (.ifCond .le off) len = true) (hS : ma_okS un st) (hL : ma_okL un ls) (h : ma_st μ pc (.ifCond .le off) (pc + len) ls st σ = ma_go pc' ls' st' σ') : ma_Go p l e s m args below meth c φ fv cA D A un μ d pc ls st σ pc' ls' st' σ' := by
  obtain ⟨hμ, hx, hb, hml, hr, hown, hts, hlocks, hK, hO, hun, hfv, hD⟩ := C
  simp only [ma_iok, Bool.and_eq_true, decide_eq_true_eq] at hok
  obtain ⟨hl, ho⟩ := hok
  have hl3 : len = 3 := ma_n3 hl
  subst hl3
  simp only [ma_st] at h
  split at h
  · cases h
    refine ⟨okt hS, hL, fun Q K la H locs h1 h2 h3 h4 => ?_⟩
    have K2 := K la H locs h1 h2 h3 h4
    simp only [ma_c0] at K2
    exact lv_if_le hx hb hdec (ma_tg_eq ho) (fun z => by have K3 := K2; rw [if_pos z] at K3; exact K3) (fun z => by have K3 := K2; rw [if_neg z] at K3; exact K3)
  · cases h
theorem sg_ic_eq {off : Int} (C : ma_Ctx p s m args meth c φ fv cA D A un μ) (hdec : decode (ma_by μ) pc = .ok (.if_icmp .eq off, len)) (hok : ma_iok μ pc (.if_icmp .eq off) len = true) (hS : ma_okS un st) (hL : ma_okL un ls) (h : ma_st μ pc (.if_icmp .eq off) (pc + len) ls st σ = ma_go pc' ls' st' σ') : ma_Go p l e s m args below meth c φ fv cA D A un μ d pc ls st σ pc' ls' st' σ' := by
  obtain ⟨hμ, hx, hb, hml, hr, hown, hts, hlocks, hK, hO, hun, hfv, hD⟩ := C
  simp only [ma_iok, Bool.and_eq_true, decide_eq_true_eq] at hok
  obtain ⟨hl, ho⟩ := hok
  have hl3 : len = 3 := ma_n3 hl
  subst hl3
  simp only [ma_st] at h
  split at h
  · cases h
    refine ⟨okt (okt hS), hL, fun Q K la H locs h1 h2 h3 h4 => ?_⟩
    have K2 := K la H locs h1 h2 h3 h4
    simp only [ma_c2] at K2
    exact lv_icmp_eq hx hb hdec (ma_tg_eq ho) (fun z => by have K3 := K2; rw [if_pos z] at K3; exact K3) (fun z => by have K3 := K2; rw [if_neg z] at K3; exact K3)
  · cases h
theorem sg_ic_ne {off : Int} (C : ma_Ctx p s m args meth c φ fv cA D A un μ) (hdec : decode (ma_by μ) pc = .ok (.if_icmp .ne off, len)) (hok : ma_iok μ pc (.if_icmp .ne off) len = true) (hS : ma_okS un st) (hL : ma_okL un ls) (h : ma_st μ pc (.if_icmp .ne off) (pc + len) ls st σ = ma_go pc' ls' st' σ') : ma_Go p l e s m args below meth c φ fv cA D A un μ d pc ls st σ pc' ls' st' σ' := by
  obtain ⟨hμ, hx, hb, hml, hr, hown, hts, hlocks, hK, hO, hun, hfv, hD⟩ := C
  simp only [ma_iok, Bool.and_eq_true, decide_eq_true_eq] at hok
  obtain ⟨hl, ho⟩ := hok
  have hl3 : len = 3 := ma_n3 hl
  subst hl3
  simp only [ma_st] at h
  split at h
  · cases h
    refine ⟨okt (okt hS), hL, fun Q K la H locs h1 h2 h3 h4 => ?_⟩
    have K2 := K la H locs h1 h2 h3 h4
    simp only [ma_c2] at K2
    exact lv_icmp_ne hx hb hdec (ma_tg_eq ho) (fun z => by have K3 := K2; rw [if_neg z] at K3; exact K3) (fun z => by have K3 := K2; rw [if_pos z] at K3; exact K3)
  · cases h
theorem sg_ic_lt {off : Int} (C : ma_Ctx p s m args meth c φ fv cA D A un μ) (hdec : decode (ma_by μ) pc = .ok (.if_icmp .lt off, len)) (hok : ma_iok μ pc (.if_icmp .lt off) len = true) (hS : ma_okS un st) (hL : ma_okL un ls) (h : ma_st μ pc (.if_icmp .lt off) (pc + len) ls st σ = ma_go pc' ls' st' σ') : ma_Go p l e s m args below meth c φ fv cA D A un μ d pc ls st σ pc' ls' st' σ' := by
  obtain ⟨hμ, hx, hb, hml, hr, hown, hts, hlocks, hK, hO, hun, hfv, hD⟩ := C
  simp only [ma_iok, Bool.and_eq_true, decide_eq_true_eq] at hok
  obtain ⟨hl, ho⟩ := hok
  have hl3 : len = 3 := ma_n3 hl
  subst hl3
  simp only [ma_st] at h
  split at h
  · cases h
    refine ⟨okt (okt hS), hL, fun Q K la H locs h1 h2 h3 h4 => ?_⟩
    have K2 := K la H locs h1 h2 h3 h4
    simp only [ma_c2] at K2
    exact lv_icmp_lt hx hb hdec (ma_tg_eq ho) (fun z => by have K3 := K2; rw [if_pos z] at K3; exact K3) (fun z => by have K3 := K2; rw [if_neg z] at K3; exact K3)
  · cases h
theorem sg_ic_ge {off : Int} (C : ma_Ctx p s m args meth c φ fv cA D A un μ) (hdec : decode (ma_by μ) pc = .ok (.if_icmp .ge off, len)) (hok : ma_iok μ pc (.if_icmp .ge off) len = true) (hS : ma_okS un st) (hL : ma_okL un ls) (h : ma_st μ pc (.if_icmp .ge off) (pc + len) ls st σ = ma_go pc' ls' st' σ') : ma_Go p l e s m args below meth c φ fv cA D A un μ d pc ls st σ pc' ls' st' σ' := by
  obtain ⟨hμ, hx, hb, hml, hr, hown, hts, hlocks, hK, hO, hun, hfv, hD⟩ := C
  simp only [ma_iok, Bool.and_eq_true, decide_eq_true_eq] at hok
  obtain ⟨hl, ho⟩ := hok
  have hl3 : len = 3 := ma_n3 hl
  subst hl3
  simp only [ma_st] at h
  split at h
  · cases h
    refine ⟨okt (okt hS), hL, fun Q K la H locs h1 h2 h3 h4 => ?_⟩
    have K2 := K la H locs h1 h2 h3 h4
    simp only [ma_c2] at K2
    exact lv_icmp_ge hx hb hdec (ma_tg_eq ho) (fun z => by have K3 := K2; rw [if_pos z] at K3; exact K3) (fun z => by have K3 := K2; rw [if_neg z] at K3; exact K3)
  · cases h
theorem sg_ic_gt {off : Int} (C : ma_Ctx p s m args meth c φ fv cA D A un μ) (hdec : decode (ma_by μ) pc = .ok (.if_icmp .gt off, len)) (hok : ma_iok μ pc (.if_icmp .gt off) len = true) (hS : ma_okS un st) (hL : ma_okL un ls) (h : ma_st μ pc (.if_icmp .gt off) (pc + len) ls st σ = ma_go pc' ls' st' σ') : ma_Go p l e s m args below meth c φ fv cA D A un μ d pc ls st σ pc' ls' st' σ' := by
  obtain ⟨hμ, hx, hb, hml, hr, hown, hts, hlocks, hK, hO, hun, hfv, hD⟩ := C
  simp only [ma_iok, Bool.and_eq_true, decide_eq_true_eq] at hok
  obtain ⟨hl, ho⟩ := hok
  have hl3 : len = 3 := ma_n3 hl
  subst hl3
  simp only [ma_st] at h
  split at h
  · cases h
    refine ⟨okt (okt hS), hL, fun Q K la H locs h1 h2 h3 h4 => ?_⟩
    have K2 := K la H locs h1 h2 h3 h4
    simp only [ma_c2] at K2
    exact lv_icmp_gt hx hb hdec (ma_tg_eq ho) (fun z => by have K3 := K2; rw [if_pos z] at K3; exact K3) (fun z => by have K3 := K2; rw [if_neg z] at K3; exact K3)
  · cases h
theorem sg_ic_le {off : Int} (C : ma_Ctx p s m args meth c φ fv cA D A un μ) (hdec : decode (ma_by μ) pc = .ok (.if_icmp .le off, len)) (hok : ma_iok μ pc (.if_icmp .le off) len = true) (hS : ma_okS un st) (hL : ma_okL un ls) (h : ma_st μ pc (.if_icmp .le off) (pc + len) ls st σ = ma_go pc' ls' st' σ') : ma_Go p l e s m args below meth c φ fv cA D A un μ d pc ls st σ pc' ls' st' σ' := by
  obtain ⟨hμ, hx, hb, hml, hr, hown, hts, hlocks, hK, hO, hun, hfv, hD⟩ := C
  simp only [ma_iok, Bool.and_eq_true, decide_eq_true_eq] at hok
  obtain ⟨hl, ho⟩ := hok
  have hl3 : len = 3 := ma_n3 hl
  subst hl3
  simp only [ma_st] at h
  split at h
  · cases h
    refine ⟨okt (okt hS), hL, fun Q K la H locs h1 h2 h3 h4 => ?_⟩
    have K2 := K la H locs h1 h2 h3 h4
    simp only [ma_c2] at K2
    exact lv_icmp_le hx hb hdec (ma_tg_eq ho) (fun z => by have K3 := K2; rw [if_pos z] at K3; exact K3) (fun z => by have K3 := K2; rw [if_neg z] at K3; exact K3)
  · cases h
theorem sg_tsw {dd lo hi : Int} {offs : Array Int} (C : ma_Ctx p s m args meth c φ fv cA D A un μ) (hdec : decode (ma_by μ) pc = .ok (.tableswitch dd lo hi offs, len)) (hok : ma_iok μ pc (.tableswitch dd lo hi offs) len = true) (hS : ma_okS un st) (hL : ma_okL un ls) (h : ma_st μ pc (.tableswitch dd lo hi offs) (pc + len) ls st σ = ma_go pc' ls' st' σ') : ma_Go p l e s m args below meth c φ fv cA D A un μ d pc ls st σ pc' ls' st' σ' := by
  obtain ⟨hμ, hx, hb, hml, hr, hown, hts, hlocks, hK, hO, hun, hfv, hD⟩ := C
  simp only [ma_iok, Bool.and_eq_true, decide_eq_true_eq, List.all_eq_true] at hok
  obtain ⟨ho, ho2⟩ := hok
  simp only [ma_st] at h
  split at h
  · rename_i x r
    split at h
    · rename_i hout
      cases h
      exact ⟨okt hS, hL, fun Q K la H locs h1 h2 h3 h4 => lv_tableOut hx hb hdec hout (ma_tg_eq ho) (K la H locs h1 h2 h3 h4)⟩
    · rename_i hout
      split at h
      · rename_i off hoff
        cases h
        exact ⟨okt hS, hL, fun Q K la H locs h1 h2 h3 h4 => lv_tableIn hx hb hdec (fun z => hout (Or.inl z)) (fun z => hout (Or.inr z)) hoff (ma_tg_eq (ho2 off (by rw [← Array.getElem?_toList] at hoff; exact List.mem_of_getElem? hoff))) (K la H locs h1 h2 h3 h4)⟩
      · cases h
  · cases h
theorem ma_off_mem {dd x : Int} : ∀ (ps : List (Int × Int)), Op.lookupswitch.offset ps dd x = dd ∨ ∃ q ∈ ps, Op.lookupswitch.offset ps dd x = q.2
  | [] => Or.inl rfl
  | (a, o) :: r => by
    rw [Op.lookupswitch.offset_cons]
    split
    · exact Or.inr ⟨_, List.mem_cons_self, rfl⟩
    · rcases ma_off_mem r with z | ⟨q, h1, h2⟩
      · exact Or.inl z
      · exact Or.inr ⟨q, List.mem_cons_of_mem _ h1, h2⟩
theorem sg_lsw {dd : Int} {ps : Array (Int × Int)} (C : ma_Ctx p s m args meth c φ fv cA D A un μ) (hdec : decode (ma_by μ) pc = .ok (.lookupswitch dd ps, len)) (hok : ma_iok μ pc (.lookupswitch dd ps) len = true) (hS : ma_okS un st) (hL : ma_okL un ls) (h : ma_st μ pc (.lookupswitch dd ps) (pc + len) ls st σ = ma_go pc' ls' st' σ') : ma_Go p l e s m args below meth c φ fv cA D A un μ d pc ls st σ pc' ls' st' σ' := by
  obtain ⟨hμ, hx, hb, hml, hr, hown, hts, hlocks, hK, hO, hun, hfv, hD⟩ := C
  simp only [ma_iok, Bool.and_eq_true, decide_eq_true_eq] at hok
  obtain ⟨hs, ho, ho2⟩ := hok
  rw [List.all_eq_true] at ho2
  simp only [decide_eq_true_eq] at ho2
  simp only [ma_st] at h
  split at h
  · rename_i x r
    cases h
    refine ⟨okt hS, hL, fun Q K la H locs h1 h2 h3 h4 => lv_lookup hx hb hdec hs rfl (ma_tg_eq ?_) (K la H locs h1 h2 h3 h4)⟩
    rcases ma_off_mem (dd := dd) (x := x.toInt) ps.toList with z | ⟨q, g1, g2⟩
    · rw [z]; exact ho
    · rw [g2]; exact ho2 q g1
  · cases h
theorem sg_getfield {i : Nat} (C : ma_Ctx p s m args meth c φ fv cA D A un μ) (hdec : decode (ma_by μ) pc = .ok (.getfield i, len)) (hok : ma_iok μ pc (.getfield i) len = true) (hS : ma_okS un st) (hL : ma_okL un ls) (h : ma_st μ pc (.getfield i) (pc + len) ls st σ = ma_go pc' ls' st' σ') : ma_Go p l e s m args below meth c φ fv cA D A un μ d pc ls st σ pc' ls' st' σ' := by
  obtain ⟨hμ, hx, hb, hml, hr, hown, hts, hlocks, hK, hO, hun, hfv, hD⟩ := C
  have hl3 : len = 3 := ma_n3 hok
  subst hl3
  exact ma_gf_go ⟨hμ, hx, hb, hml, hr, hown, hts, hlocks, hK, hO, hun, hfv, hD⟩ hdec hS hL h
theorem sg_putfield {i : Nat} (C : ma_Ctx p s m args meth c φ fv cA D A un μ) (hdec : decode (ma_by μ) pc = .ok (.putfield i, len)) (hok : ma_iok μ pc (.putfield i) len = true) (hS : ma_okS un st) (hL : ma_okL un ls) (h : ma_st μ pc (.putfield i) (pc + len) ls st σ = ma_go pc' ls' st' σ') : ma_Go p l e s m args below meth c φ fv cA D A un μ d pc ls st σ pc' ls' st' σ' := by
  obtain ⟨hμ, hx, hb, hml, hr, hown, hts, hlocks, hK, hO, hun, hfv, hD⟩ := C
  have hl3 : len = 3 := by
    simp only [ma_iok, Bool.and_eq_true] at hok
    exact ma_n3 hok.1
  subst hl3
  exact ma_pf_go ⟨hμ, hx, hb, hml, hr, hown, hts, hlocks, hK, hO, hun, hfv, hD⟩ hdec hok hS hL h
theorem sg_getstatic {i : Nat} (C : ma_Ctx p s m args meth c φ fv cA D A un μ) (hdec : decode (ma_by μ) pc = .ok (.getstatic i, len)) (hok : ma_iok μ pc (.getstatic i) len = true) (hS : ma_okS un st) (hL : ma_okL un ls) (h : ma_st μ pc (.getstatic i) (pc + len) ls st σ = ma_go pc' ls' st' σ') : ma_Go p l e s m args below meth c φ fv cA D A un μ d pc ls st σ pc' ls' st' σ' := by
  obtain ⟨hμ, hx, hb, hml, hr, hown, hts, hlocks, hK, hO, hun, hfv, hD⟩ := C
  have hl3 : len = 3 := ma_n3 hok
  subst hl3
  simp only [ma_st] at h
  split at h
  · rename_i v hv
    have P := ma_gs_ok hv
    cases h
    match v, P with
    | .inl x, P =>
      obtain ⟨rfl, hw⟩ := P
      exact ⟨okc okI hS, hL, fun Q K la H locs h1 h2 h3 h4 => va_gets hx hb hO.2.1 h3 hown (hts _ hw) (fun _ h => h) hdec (K la H locs h1 h2 h3 h4)⟩
    | .inr (.inr (g, i1, j1)), P =>
      rcases P with ⟨e1, e2, e3, hw⟩ | ⟨e1, e2, e3, hw⟩
      · simp only at e1 e2 e3 hw
        subst e1; subst e3
        refine ⟨okc (Or.inr (Or.inl ⟨rfl, e2, rfl⟩)) hS, hL, fun Q K la H locs h1 h2 h3 h4 => ?_⟩
        rcases hw with hw | ⟨w1, w2, w3⟩
        · exact va_gets hx hb (hO.1 i1 e2).1 h3 hown (hts _ hw) (fun _ h => h) hdec (K la H locs h1 h2 h3 h4)
        · subst w2; subst w3
          have hown3 : s.vm.findClass "OneSledgeForTwo$Rider" = some m.cls := by rw [w1] at hown; exact hown
          exact va_getsN hx hb (hO.1 0 e2).1 h3 hown3 (va_Nw.use rfl hO.2.2.2.2.2) (fun _ h => h) hdec (K la H locs h1 h2 h3 h4)
      · simp only at e1 e2 e3 hw
        subst e1; subst e2; subst e3
        exact ⟨okc (Or.inr (Or.inr (Or.inr (Or.inr rfl)))) hS, hL, fun Q K la H locs h1 h2 h3 h4 => va_gets hx hb hO.2.2.1 h3 hown (hts _ hw) (fun _ h => h) hdec (K la H locs h1 h2 h3 h4)⟩
  · cases h
theorem sg_iaload  (C : ma_Ctx p s m args meth c φ fv cA D A un μ) (hdec : decode (ma_by μ) pc = .ok (.iaload, len)) (hok : ma_iok μ pc (.iaload) len = true) (hS : ma_okS un st) (hL : ma_okL un ls) (h : ma_st μ pc (.iaload) (pc + len) ls st σ = ma_go pc' ls' st' σ') : ma_Go p l e s m args below meth c φ fv cA D A un μ d pc ls st σ pc' ls' st' σ' := by
  obtain ⟨hμ, hx, hb, hml, hr, hown, hts, hlocks, hK, hO, hun, hfv, hD⟩ := C
  have hl1 : len = 1 := ma_n1 hok
  subst hl1
  simp only [ma_st] at h
  split at h
  · rename_i x g i1 j1 r
    have hv := okh (okt hS)
    split at h
    · obtain ⟨hin, h⟩ := ma_if_inv h
      cases h
      have hu : (50, i1, j1) ∈ un := by
        rcases hv with hv | hv
        · exact hv
        · rcases hv with hv | hv | hv | hv <;> simp at hv
      obtain ⟨k0, hk0, hw0⟩ := ma_ws_at (φ := φ) (cA := cA) (σ := σ) hu
      exact ⟨okc okI (okt (okt hS)), hL, fun Q K la H locs h1 h2 h3 h4 => va_iald hx hb hK h2 k0 0 hw0 rfl (ma_in_vp hin) hdec (K la H locs h1 h2 h3 h4)⟩
    · obtain ⟨hin, h⟩ := ma_if_inv h
      cases h
      have hu : i1 < 4 ∧ j1 = 0 := by
        rcases hv with hv | hv
        · exact absurd rfl (hun _ hv).2.2.2.2.2.1
        · rcases hv with hv | hv | hv | hv <;> simp at hv
          exact hv
      obtain ⟨hi4, rfl⟩ := hu
      refine ⟨okc okI (okt (okt hS)), hL, fun Q K la H locs h1 h2 h3 h4 => va_ti hx hb (hO.1 i1 hi4).2 h3 ?_ rfl hdec (K la H locs h1 h2 h3 h4)⟩
      have e7 : ma_ls i1 = 7 := by
        have : ∀ i, i < 4 → ma_ls i = 7 := by decide
        exact this i1 hi4
      rw [e7] at hin
      exact ma_in_vp hin
    · cases h
  · cases h
theorem sg_baload  (C : ma_Ctx p s m args meth c φ fv cA D A un μ) (hdec : decode (ma_by μ) pc = .ok (.baload, len)) (hok : ma_iok μ pc (.baload) len = true) (hS : ma_okS un st) (hL : ma_okL un ls) (h : ma_st μ pc (.baload) (pc + len) ls st σ = ma_go pc' ls' st' σ') : ma_Go p l e s m args below meth c φ fv cA D A un μ d pc ls st σ pc' ls' st' σ' := by
  obtain ⟨hμ, hx, hb, hml, hr, hown, hts, hlocks, hK, hO, hun, hfv, hD⟩ := C
  have hl1 : len = 1 := ma_n1 hok
  subst hl1
  simp only [ma_st] at h
  split at h
  · rename_i x g i1 j1 r
    have hv := okh (okt hS)
    split at h
    · obtain ⟨hin, h⟩ := ma_if_inv h
      cases h
      have hu : i1 < 8 ∧ j1 = 0 := by
        rcases hv with hv | hv
        · exact absurd rfl (hun _ hv).2.2.2.2.2.2.2.1
        · rcases hv with hv | hv | hv | hv <;> simp at hv
          exact hv
      obtain ⟨hi8, rfl⟩ := hu
      exact ⟨okc okI (okt (okt hS)), hL, fun Q K la H locs h1 h2 h3 h4 => va_tb hx hb (hO.2.2.2.1 i1 hi8).2.2.2.1 h3 (ma_in_vp hin) rfl hdec (K la H locs h1 h2 h3 h4)⟩
    · cases h
  · cases h
theorem sg_laload  (C : ma_Ctx p s m args meth c φ fv cA D A un μ) (hdec : decode (ma_by μ) pc = .ok (.laload, len)) (hok : ma_iok μ pc (.laload) len = true) (hS : ma_okS un st) (hL : ma_okL un ls) (h : ma_st μ pc (.laload) (pc + len) ls st σ = ma_go pc' ls' st' σ') : ma_Go p l e s m args below meth c φ fv cA D A un μ d pc ls st σ pc' ls' st' σ' := by
  obtain ⟨hμ, hx, hb, hml, hr, hown, hts, hlocks, hK, hO, hun, hfv, hD⟩ := C
  have hl1 : len = 1 := ma_n1 hok
  subst hl1
  simp only [ma_st] at h
  split at h
  · rename_i x g i1 j1 r
    have hv := okh (okt hS)
    split at h
    · obtain ⟨hin, h⟩ := ma_if_inv h
      cases h
      have hu : (60, i1, j1) ∈ un := by
        rcases hv with hv | hv
        · exact hv
        · rcases hv with hv | hv | hv | hv <;> simp at hv
      obtain ⟨k0, hk0, hw0⟩ := ma_ws_at (φ := φ) (cA := cA) (σ := σ) hu
      exact ⟨okc okJ (okt (okt hS)), hL, fun Q K la H locs h1 h2 h3 h4 => va_lald hx hb hK h2 k0 1 hw0 rfl (ma_in_vp hin) hdec (K la H locs h1 h2 h3 h4)⟩
    · cases h
  · cases h
theorem sg_aaload  (C : ma_Ctx p s m args meth c φ fv cA D A un μ) (hdec : decode (ma_by μ) pc = .ok (.aaload, len)) (hok : ma_iok μ pc (.aaload) len = true) (hS : ma_okS un st) (hL : ma_okL un ls) (h : ma_st μ pc (.aaload) (pc + len) ls st σ = ma_go pc' ls' st' σ') : ma_Go p l e s m args below meth c φ fv cA D A un μ d pc ls st σ pc' ls' st' σ' := by
  obtain ⟨hμ, hx, hb, hml, hr, hown, hts, hlocks, hK, hO, hun, hfv, hD⟩ := C
  have hl1 : len = 1 := ma_n1 hok
  subst hl1
  simp only [ma_st] at h
  split at h
  · rename_i x g i1 j1 r
    have hv := okh (okt hS)
    split at h
    · obtain ⟨hin, h⟩ := ma_if_inv h
      cases h
      have hu : (3, i1, j1) ∈ un := by
        rcases hv with hv | hv
        · exact hv
        · rcases hv with hv | hv | hv | hv <;> simp at hv
      obtain ⟨k0, hk0, hw0⟩ := ma_ws_at (φ := φ) (cA := cA) (σ := σ) hu
      have hlt : x.toNatClampNeg < 4 := by
        have z := ma_in_vp hin
        exact Nat.not_le.mp fun q => z (Or.inr q)
      have hr : ma_re 3 i1 x.toNatClampNeg ∈ un := (hun _ hu).2.1 rfl _ hlt
      refine ⟨okc (Or.inl hr) (okt (okt hS)), hL, fun Q K la H locs h1 h2 h3 h4 => ?_⟩
      exact va_aldq hx hb hK h2 k0 2 hw0 rfl (ma_in_vp hin) hdec (K la H locs h1 h2 h3 h4)
    · obtain ⟨hin, h⟩ := ma_if_inv h
      cases h
      have hu : (10, i1, j1) ∈ un := by
        rcases hv with hv | hv
        · exact hv
        · rcases hv with hv | hv | hv | hv <;> simp at hv
      obtain ⟨k0, hk0, hw0⟩ := ma_ws_at (φ := φ) (cA := cA) (σ := σ) hu
      have hlt : x.toNatClampNeg < 3 := by
        have z := ma_in_vp hin
        exact Nat.not_le.mp fun q => z (Or.inr q)
      have hr : ma_re 10 i1 x.toNatClampNeg ∈ un := (hun _ hu).2.2.1 rfl _ hlt
      refine ⟨okc (Or.inl hr) (okt (okt hS)), hL, fun Q K la H locs h1 h2 h3 h4 => ?_⟩
      exact va_aldq hx hb hK h2 k0 3 hw0 rfl (ma_in_vp hin) hdec (K la H locs h1 h2 h3 h4)
    · obtain ⟨hin, h⟩ := ma_if_inv h
      cases h
      have hu : (15, i1, j1) ∈ un := by
        rcases hv with hv | hv
        · exact hv
        · rcases hv with hv | hv | hv | hv <;> simp at hv
      obtain ⟨k0, hk0, hw0⟩ := ma_ws_at (φ := φ) (cA := cA) (σ := σ) hu
      have hlt : x.toNatClampNeg < 8 := by
        have z := ma_in_vp hin
        exact Nat.not_le.mp fun q => z (Or.inr q)
      have hr : ma_re 15 i1 x.toNatClampNeg ∈ un := (hun _ hu).2.2.2.1 rfl _ hlt
      refine ⟨okc (Or.inl hr) (okt (okt hS)), hL, fun Q K la H locs h1 h2 h3 h4 => ?_⟩
      exact va_aldq hx hb hK h2 k0 4 hw0 rfl (ma_in_vp hin) hdec (K la H locs h1 h2 h3 h4)
    · cases h
  · cases h
theorem sg_iastore  (C : ma_Ctx p s m args meth c φ fv cA D A un μ) (hdec : decode (ma_by μ) pc = .ok (.iastore, len)) (hok : ma_iok μ pc (.iastore) len = true) (hS : ma_okS un st) (hL : ma_okL un ls) (h : ma_st μ pc (.iastore) (pc + len) ls st σ = ma_go pc' ls' st' σ') : ma_Go p l e s m args below meth c φ fv cA D A un μ d pc ls st σ pc' ls' st' σ' := by
  obtain ⟨hμ, hx, hb, hml, hr, hown, hts, hlocks, hK, hO, hun, hfv, hD⟩ := C
  have hl1 : len = 1 := ma_n1 hok
  subst hl1
  simp only [ma_st] at h
  split at h
  · rename_i v x g i1 j1 r
    have hv := okh (okt (okt hS))
    split at h
    · obtain ⟨hin, h⟩ := ma_if_inv h
      cases h
      have hu : (50, i1, j1) ∈ un := by
        rcases hv with hv | hv
        · exact hv
        · rcases hv with hv | hv | hv | hv <;> simp at hv
      obtain ⟨k0, hk0, hw0⟩ := ma_ws_at (φ := φ) (cA := cA) (σ := σ) hu
      refine ⟨okt (okt (okt hS)), hL, fun Q K la H locs h1 h2 h3 h4 => va_iast hx hb hK h2 (hD σ) h3 k0 0 hw0 rfl (ma_in_vp hin) hdec (fun H1 locs1 g1 _ g3 => K la H1 locs1 h1 ?_ g3 g3.2.2)⟩
      have e1 : (Sum.inl (cA 0, ma_la i1, Sum.inl (upd (σ.1 50 i1 j1) x.toNatClampNeg v)) : va_E) = ma_ce φ cA (ma_u σ 50 i1 j1 x.toNatClampNeg v) (50, i1, j1) := by
        simp only [ma_ce, ma_u_at]
      have g1' : va_P D ma_cls ((ma_ws φ cA σ un).set k0 (ma_ad φ (50, i1, j1), ma_ce φ cA (ma_u σ 50 i1 j1 x.toNatClampNeg v) (50, i1, j1))) H1 := by rw [← e1]; exact g1
      rw [ma_ws_set (hD σ) hk0 (fun q' _ hq' => ma_ce_congr (ma_u_ne hq') (fun _ => rfl))] at g1'
      exact g1'
    · cases h
  · cases h
theorem sg_lastore  (C : ma_Ctx p s m args meth c φ fv cA D A un μ) (hdec : decode (ma_by μ) pc = .ok (.lastore, len)) (hok : ma_iok μ pc (.lastore) len = true) (hS : ma_okS un st) (hL : ma_okL un ls) (h : ma_st μ pc (.lastore) (pc + len) ls st σ = ma_go pc' ls' st' σ') : ma_Go p l e s m args below meth c φ fv cA D A un μ d pc ls st σ pc' ls' st' σ' := by
  obtain ⟨hμ, hx, hb, hml, hr, hown, hts, hlocks, hK, hO, hun, hfv, hD⟩ := C
  have hl1 : len = 1 := ma_n1 hok
  subst hl1
  simp only [ma_st] at h
  split at h
  · rename_i v x g i1 j1 r
    have hv := okh (okt (okt hS))
    split at h
    · obtain ⟨hin, h⟩ := ma_if_inv h
      cases h
      have hu : (60, i1, j1) ∈ un := by
        rcases hv with hv | hv
        · exact hv
        · rcases hv with hv | hv | hv | hv <;> simp at hv
      have hj : j1 = 0 := (hun _ hu).1 (Or.inl rfl)
      obtain ⟨k0, hk0, hw0⟩ := ma_ws_at (φ := φ) (cA := cA) (σ := σ) hu
      refine ⟨okt (okt (okt hS)), hL, fun Q K la H locs h1 h2 h3 h4 => va_last hx hb hK h2 (hD σ) h3 k0 1 hw0 rfl (ma_in_vp hin) hdec (fun H1 locs1 g1 _ g3 => K la H1 locs1 h1 ?_ g3 g3.2.2)⟩
      have e1 : (Sum.inl (cA 1, ma_lj i1, Sum.inr (Sum.inl (vp_updL (σ.2 i1) x.toNatClampNeg v))) : va_E) = ma_ce φ cA (ma_uJ σ i1 x.toNatClampNeg v) (60, i1, j1) := by
        simp only [ma_ce, ma_uJ_at]
      have g1' : va_P D ma_cls ((ma_ws φ cA σ un).set k0 (ma_ad φ (60, i1, j1), ma_ce φ cA (ma_uJ σ i1 x.toNatClampNeg v) (60, i1, j1))) H1 := by rw [← e1]; exact g1
      rw [ma_ws_set (hD σ) hk0 (fun q' hm hq' => ma_ce_congr (σ := σ) (σ' := ma_uJ σ i1 x.toNatClampNeg v) rfl (fun h60 => ma_uJ_ne (fun z => hq' (by
        have z3 := (hun _ hm).1 (Or.inl h60)
        obtain ⟨a, b, c⟩ := q'
        simp only at h60 z z3
        rw [h60, z, z3, hj]))))] at g1'
      exact g1'
    · cases h
  · cases h
theorem sg_arraylength  (C : ma_Ctx p s m args meth c φ fv cA D A un μ) (hdec : decode (ma_by μ) pc = .ok (.arraylength, len)) (hok : ma_iok μ pc (.arraylength) len = true) (hS : ma_okS un st) (hL : ma_okL un ls) (h : ma_st μ pc (.arraylength) (pc + len) ls st σ = ma_go pc' ls' st' σ') : ma_Go p l e s m args below meth c φ fv cA D A un μ d pc ls st σ pc' ls' st' σ' := by
  obtain ⟨hμ, hx, hb, hml, hr, hown, hts, hlocks, hK, hO, hun, hfv, hD⟩ := C
  have hl1 : len = 1 := ma_n1 hok
  subst hl1
  simp only [ma_st] at h
  split at h
  · rename_i g i1 j1 r
    have hv := okh hS
    split at h
    · cases h
      have hu : i1 < 8 ∧ j1 = 0 := by
        rcases hv with hv | hv
        · exact absurd rfl (hun _ hv).2.2.2.2.2.2.2.1
        · rcases hv with hv | hv | hv | hv <;> simp at hv
          exact hv
      obtain ⟨hi8, rfl⟩ := hu
      exact ⟨okc okI (okt hS), hL, fun Q K la H locs h1 h2 h3 h4 => va_tlen hx hb (hO.2.2.2.1 i1 hi8).2.2.2.1 h3 rfl hdec (K la H locs h1 h2 h3 h4)⟩
    · cases h
  · cases h
theorem sg_invokevirtual {i : Nat} (C : ma_Ctx p s m args meth c φ fv cA D A un μ) (hdec : decode (ma_by μ) pc = .ok (.invokevirtual i, len)) (hok : ma_iok μ pc (.invokevirtual i) len = true) (hS : ma_okS un st) (hL : ma_okL un ls) (h : ma_st μ pc (.invokevirtual i) (pc + len) ls st σ = ma_go pc' ls' st' σ') : ma_Go p l e s m args below meth c φ fv cA D A un μ d pc ls st σ pc' ls' st' σ' := by
  obtain ⟨hμ, hx, hb, hml, hr, hown, hts, hlocks, hK, hO, hun, hfv, hD⟩ := C
  have hl3 : len = 3 := ma_n3 hok
  subst hl3
  simp only [ma_st] at h
  split at h
  · obtain ⟨-, -, -, z, -⟩ := ma_call_inv h
    cases z
  · cases h
theorem sg_invokestatic {i : Nat} (C : ma_Ctx p s m args meth c φ fv cA D A un μ) (hdec : decode (ma_by μ) pc = .ok (.invokestatic i, len)) (hok : ma_iok μ pc (.invokestatic i) len = true) (hS : ma_okS un st) (hL : ma_okL un ls) (h : ma_st μ pc (.invokestatic i) (pc + len) ls st σ = ma_go pc' ls' st' σ') : ma_Go p l e s m args below meth c φ fv cA D A un μ d pc ls st σ pc' ls' st' σ' := by
  obtain ⟨hμ, hx, hb, hml, hr, hown, hts, hlocks, hK, hO, hun, hfv, hD⟩ := C
  have hl3 : len = 3 := ma_n3 hok
  subst hl3
  simp only [ma_st] at h
  split at h
  · obtain ⟨-, -, -, z, -⟩ := ma_call_inv h
    cases z
  · rename_i a1 a2 hmt
    have P := ma_mt_ok hmt
    simp only [ma_lP] at P
    split at h
    · rename_i y x r
      split at h
      · rename_i hs
        have hs2 := Nat.le_of_ble_eq_true hs
        cases h
        refine ⟨okc okI (okt (okt hS)), hL, fun Q K la H locs h1 h2 h3 h4 => ?_⟩
        have hcat := ma_catS (φ := φ) hfv r
        exact va_mmax hx hb (by rw [hml, h1.2.1]) hown (hts _ P) (hts _ ma_wMax) (hts _ ma_wMath) (hts _ ma_cMax) (by simp [ma_room]) (by simp only [ma_room]; omega) (Nat.le_refl _) (Nat.le_refl _) hdec (K la H locs h1 h2 h3 h4)
      · cases h
    · cases h
  · rename_i a1 a2 hmt
    have P := ma_mt_ok hmt
    simp only [ma_lP] at P
    split at h
    · rename_i y x r
      split at h
      · rename_i hs
        have hs2 := Nat.le_of_ble_eq_true hs
        cases h
        refine ⟨okc okI (okt (okt hS)), hL, fun Q K la H locs h1 h2 h3 h4 => ?_⟩
        have hcat := ma_catS (φ := φ) hfv r
        exact va_mmin hx hb (by rw [hml, h1.2.1]) hown (hts _ P) (hts _ ma_wMin) (hts _ ma_wMath) (hts _ ma_cMin) (by simp [ma_room]) (by simp only [ma_room]; omega) (Nat.le_refl _) (Nat.le_refl _) hdec (K la H locs h1 h2 h3 h4)
      · cases h
    · cases h
  · rename_i a1 a2 hmt
    have P := ma_mt_ok hmt
    simp only [ma_lP] at P
    split at h
    · rename_i l0 dp g1 i1 j1 sp g0 i0 j0 r
      split at h
      · rename_i hs
        have hs2 := Nat.le_of_ble_eq_true hs
        split at h
        · cases h
        · rename_i hn
          cases h
          have hv1 := okh (okt (okt hS))
          have hv0 := okh (okt (okt (okt (okt hS))))
          have hu1 : (50, i1, j1) ∈ un := by
            rcases hv1 with hv | hv
            · exact hv
            · rcases hv with hv | hv | hv | hv <;> simp at hv
          have hu0 : (50, i0, j0) ∈ un := by
            rcases hv0 with hv | hv
            · exact hv
            · rcases hv with hv | hv | hv | hv <;> simp at hv
          have hj1 : j1 = 0 := (hun _ hu1).1 (by simp)
          have hj0 : j0 = 0 := (hun _ hu0).1 (by simp)
          subst hj1; subst hj0
          obtain ⟨k1, hk1, hw1⟩ := ma_ws_at (φ := φ) (cA := cA) (σ := σ) hu1
          obtain ⟨k0, hk0, hw0⟩ := ma_ws_at (φ := φ) (cA := cA) (σ := σ) hu0
          have hcat := ma_catS (φ := φ) hfv st'
          have hnf : nativeFrameWords "java/lang/System" "arraycopy" 5 + 11 ≤ 40 := by decide +kernel
          refine ⟨okt (okt (okt (okt (okt hS)))), hL, fun Q K la H locs h1 h2 h3 h4 => va_copyi hx hb (by rw [hml, h1.2.1]) hown (hts _ P) (hts _ ma_wCpN) (hts _ ma_wCpS) (hts _ ma_wSys) hK h2 (hD σ) h3 k0 k1 0 0 hw0 hw1 rfl rfl rfl (fun z => hn (Or.inl z)) (fun z => hn (Or.inr (Or.inl z))) (fun z => hn (Or.inr (Or.inr (Or.inl z)))) (Nat.not_lt.mp fun z => hn (Or.inr (Or.inr (Or.inr (Or.inl z))))) (Nat.not_lt.mp fun z => hn (Or.inr (Or.inr (Or.inr (Or.inr z))))) (fun _ _ => rfl) (by simp [ma_room]) (by simp only [ma_room]; omega) hdec (fun H1 locs1 g1 _ g3 => K la H1 locs1 h1 ?_ g3 g3.2.2)⟩
          refine Eq.mp (congrArg (fun w => va_P D ma_cls w H1) ?_) g1
          refine Eq.trans (congrArg (fun z => (ma_ws φ cA σ un).set k1 z) ?_) (ma_ws_set (σ' := ma_cI σ i0 sp.toNatClampNeg i1 dp.toNatClampNeg l0.toNatClampNeg) (hD σ) hk1 ?_)
          · simp only [ma_ce, ma_ad, ma_cI]
            simp
          · intro q' hm hq'
            refine ma_ce_congr ?_ (fun _ => rfl)
            funext k'
            simp only [ma_cI]
            rw [if_neg]
            rintro ⟨z1, z2, z3⟩
            apply hq'
            obtain ⟨a, b, c⟩ := q'
            simp only at z1 z2 z3
            rw [z1, z2, z3]
      · rename_i hs
        have hs2 := Nat.le_of_ble_eq_true hs
        split at h
        · cases h
        · rename_i hn
          cases h
          have hv1 := okh (okt (okt hS))
          have hv0 := okh (okt (okt (okt (okt hS))))
          have hu1 : (60, i1, j1) ∈ un := by
            rcases hv1 with hv | hv
            · exact hv
            · rcases hv with hv | hv | hv | hv <;> simp at hv
          have hu0 : (60, i0, j0) ∈ un := by
            rcases hv0 with hv | hv
            · exact hv
            · rcases hv with hv | hv | hv | hv <;> simp at hv
          have hj1 : j1 = 0 := (hun _ hu1).1 (by simp)
          have hj0 : j0 = 0 := (hun _ hu0).1 (by simp)
          subst hj1; subst hj0
          obtain ⟨k1, hk1, hw1⟩ := ma_ws_at (φ := φ) (cA := cA) (σ := σ) hu1
          obtain ⟨k0, hk0, hw0⟩ := ma_ws_at (φ := φ) (cA := cA) (σ := σ) hu0
          have hcat := ma_catS (φ := φ) hfv st'
          have hnf : nativeFrameWords "java/lang/System" "arraycopy" 5 + 11 ≤ 40 := by decide +kernel
          refine ⟨okt (okt (okt (okt (okt hS)))), hL, fun Q K la H locs h1 h2 h3 h4 => va_copyl hx hb (by rw [hml, h1.2.1]) hown (hts _ P) (hts _ ma_wCpN) (hts _ ma_wCpS) (hts _ ma_wSys) hK h2 (hD σ) h3 k0 k1 1 1 hw0 hw1 rfl rfl rfl (fun z => hn (Or.inl z)) (fun z => hn (Or.inr (Or.inl z))) (fun z => hn (Or.inr (Or.inr (Or.inl z)))) (Nat.not_lt.mp fun z => hn (Or.inr (Or.inr (Or.inr (Or.inl z))))) (Nat.not_lt.mp fun z => hn (Or.inr (Or.inr (Or.inr (Or.inr z))))) (fun _ _ => rfl) (by simp [ma_room]) (by simp only [ma_room]; omega) hdec (fun H1 locs1 g1 _ g3 => K la H1 locs1 h1 ?_ g3 g3.2.2)⟩
          refine Eq.mp (congrArg (fun w => va_P D ma_cls w H1) ?_) g1
          refine Eq.trans (congrArg (fun z => (ma_ws φ cA σ un).set k1 z) ?_) (ma_ws_set (σ' := ma_cJ σ i0 sp.toNatClampNeg i1 dp.toNatClampNeg l0.toNatClampNeg) (hD σ) hk1 ?_)
          · simp only [ma_ce, ma_ad, ma_cJ]
            simp
          · intro q' hm hq'
            refine ma_ce_congr rfl (fun h60 => ?_)
            funext k'
            simp only [ma_cJ]
            rw [if_neg]
            intro z
            apply hq'
            have z3 := (hun _ hm).1 (Or.inl h60)
            obtain ⟨a, b, c⟩ := q'
            simp only at h60 z z3
            rw [h60, z, z3]
      · cases h
    · cases h
  · cases h
theorem sg_ireturn  (C : ma_Ctx p s m args meth c φ fv cA D A un μ) (hdec : decode (ma_by μ) pc = .ok (.ireturn, len)) (hok : ma_iok μ pc (.ireturn) len = true) (hS : ma_okS un st) (hL : ma_okL un ls) (h : ma_st μ pc (.ireturn) (pc + len) ls st σ = ma_go pc' ls' st' σ') : ma_Go p l e s m args below meth c φ fv cA D A un μ d pc ls st σ pc' ls' st' σ' := by
  obtain ⟨hμ, hx, hb, hml, hr, hown, hts, hlocks, hK, hO, hun, hfv, hD⟩ := C
  simp only [ma_st] at h
  exfalso
  revert h
  (repeat' split) <;> intro h <;> cases h
theorem sg_lreturn  (C : ma_Ctx p s m args meth c φ fv cA D A un μ) (hdec : decode (ma_by μ) pc = .ok (.lreturn, len)) (hok : ma_iok μ pc (.lreturn) len = true) (hS : ma_okS un st) (hL : ma_okL un ls) (h : ma_st μ pc (.lreturn) (pc + len) ls st σ = ma_go pc' ls' st' σ') : ma_Go p l e s m args below meth c φ fv cA D A un μ d pc ls st σ pc' ls' st' σ' := by
  obtain ⟨hμ, hx, hb, hml, hr, hown, hts, hlocks, hK, hO, hun, hfv, hD⟩ := C
  simp only [ma_st] at h
  exfalso
  revert h
  (repeat' split) <;> intro h <;> cases h
theorem sg_areturn  (C : ma_Ctx p s m args meth c φ fv cA D A un μ) (hdec : decode (ma_by μ) pc = .ok (.areturn, len)) (hok : ma_iok μ pc (.areturn) len = true) (hS : ma_okS un st) (hL : ma_okL un ls) (h : ma_st μ pc (.areturn) (pc + len) ls st σ = ma_go pc' ls' st' σ') : ma_Go p l e s m args below meth c φ fv cA D A un μ d pc ls st σ pc' ls' st' σ' := by
  obtain ⟨hμ, hx, hb, hml, hr, hown, hts, hlocks, hK, hO, hun, hfv, hD⟩ := C
  simp only [ma_st] at h
  exfalso
  revert h
  (repeat' split) <;> intro h <;> cases h
theorem sg_return_  (C : ma_Ctx p s m args meth c φ fv cA D A un μ) (hdec : decode (ma_by μ) pc = .ok (.return_, len)) (hok : ma_iok μ pc (.return_) len = true) (hS : ma_okS un st) (hL : ma_okL un ls) (h : ma_st μ pc (.return_) (pc + len) ls st σ = ma_go pc' ls' st' σ') : ma_Go p l e s m args below meth c φ fv cA D A un μ d pc ls st σ pc' ls' st' σ' := by
  obtain ⟨hμ, hx, hb, hml, hr, hown, hts, hlocks, hK, hO, hun, hfv, hD⟩ := C
  simp only [ma_st] at h
  exfalso
  revert h
  (repeat' split) <;> intro h <;> cases h
theorem ma_st_go {ins : Instr} (C : ma_Ctx p s m args meth c φ fv cA D A un μ) (hdec : decode (ma_by μ) pc = .ok (ins, len)) (hok : ma_iok μ pc ins len = true) (hS : ma_okS un st) (hL : ma_okL un ls) (hw : ∀ i, ins = .ldc_w i → ma_cl μ = 8) (h : ma_st μ pc ins (pc + len) ls st σ = ma_go pc' ls' st' σ') : ma_Go p l e s m args below meth c φ fv cA D A un μ d pc ls st σ pc' ls' st' σ' := by
  cases ins
  case iconst k => exact sg_iconst C hdec hok hS hL h
  case bipush k => exact sg_bipush C hdec hok hS hL h
  case sipush k => exact sg_sipush C hdec hok hS hL h
  case lconst k => exact sg_lconst C hdec hok hS hL h
  case ldc i => exact sg_ldc C hdec hok hS hL h
  case iload i => exact sg_iload C hdec hok hS hL h
  case iload_n i => exact sg_iload_n C hdec hok hS hL h
  case lload_n i => exact sg_lload_n C hdec hok hS hL h
  case aload i => exact sg_aload C hdec hok hS hL h
  case aload_n i => exact sg_aload_n C hdec hok hS hL h
  case istore i => exact sg_istore C hdec hok hS hL h
  case istore_n i => exact sg_istore_n C hdec hok hS hL h
  case astore i => exact sg_astore C hdec hok hS hL h
  case astore_n i => exact sg_astore_n C hdec hok hS hL h
  case iinc i k => exact sg_iinc C hdec hok hS hL h
  case iadd => exact sg_iadd C hdec hok hS hL h
  case isub => exact sg_isub C hdec hok hS hL h
  case imul => exact sg_imul C hdec hok hS hL h
  case ior => exact sg_ior C hdec hok hS hL h
  case ixor => exact sg_ixor C hdec hok hS hL h
  case iand => exact sg_iand C hdec hok hS hL h
  case ishl => exact sg_ishl C hdec hok hS hL h
  case ishr => exact sg_ishr C hdec hok hS hL h
  case iushr => exact sg_iushr C hdec hok hS hL h
  case idiv => exact sg_idiv C hdec hok hS hL h
  case irem => exact sg_irem C hdec hok hS hL h
  case ineg => exact sg_ineg C hdec hok hS hL h
  case i2l => exact sg_i2l C hdec hok hS hL h
  case l2i => exact sg_l2i C hdec hok hS hL h
  case i2b => exact sg_i2b C hdec hok hS hL h
  case i2s => exact sg_i2s C hdec hok hS hL h
  case i2c => exact sg_i2c C hdec hok hS hL h
  case dup => exact sg_dup C hdec hok hS hL h
  case dup2 => exact sg_dup2 C hdec hok hS hL h
  case dup_x1 => exact sg_dup_x1 C hdec hok hS hL h
  case pop => exact sg_pop C hdec hok hS hL h
  case goto off => exact sg_goto C hdec hok hS hL h
  case getfield i => exact sg_getfield C hdec hok hS hL h
  case putfield i => exact sg_putfield C hdec hok hS hL h
  case getstatic i => exact sg_getstatic C hdec hok hS hL h
  case iaload => exact sg_iaload C hdec hok hS hL h
  case baload => exact sg_baload C hdec hok hS hL h
  case laload => exact sg_laload C hdec hok hS hL h
  case aaload => exact sg_aaload C hdec hok hS hL h
  case iastore => exact sg_iastore C hdec hok hS hL h
  case lastore => exact sg_lastore C hdec hok hS hL h
  case arraylength => exact sg_arraylength C hdec hok hS hL h
  case invokevirtual i => exact sg_invokevirtual C hdec hok hS hL h
  case invokestatic i => exact sg_invokestatic C hdec hok hS hL h
  case ireturn => exact sg_ireturn C hdec hok hS hL h
  case lreturn => exact sg_lreturn C hdec hok hS hL h
  case areturn => exact sg_areturn C hdec hok hS hL h
  case return_ => exact sg_return_ C hdec hok hS hL h
  case ldc_w i => exact sg_ldc_w C hdec hok hS hL (hw i rfl) h
  case ifCond c0 off =>
    cases c0
    case eq => exact sg_if_eq C hdec hok hS hL h
    case ne => exact sg_if_ne C hdec hok hS hL h
    case lt => exact sg_if_lt C hdec hok hS hL h
    case ge => exact sg_if_ge C hdec hok hS hL h
    case gt => exact sg_if_gt C hdec hok hS hL h
    case le => exact sg_if_le C hdec hok hS hL h
  case if_icmp c0 off =>
    cases c0
    case eq => exact sg_ic_eq C hdec hok hS hL h
    case ne => exact sg_ic_ne C hdec hok hS hL h
    case lt => exact sg_ic_lt C hdec hok hS hL h
    case ge => exact sg_ic_ge C hdec hok hS hL h
    case gt => exact sg_ic_gt C hdec hok hS hL h
    case le => exact sg_ic_le C hdec hok hS hL h
  case tableswitch dd lo hi offs => exact sg_tsw C hdec hok hS hL h
  case lookupswitch dd ps => exact sg_lsw C hdec hok hS hL h
  all_goals cases h
end SND2
