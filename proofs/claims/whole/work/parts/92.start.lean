/-! PART 92 (printed by wip/whole/gen/start.py): the law from its entry. -/
theorem na_appl {D : va_G} {cl : List vw_C} {H : Heap} {a b : va_W} (h : va_P D cl (a ++ b) H) : va_P D cl a H := fun k q hk => h k q (by rw [List.getElem?_append_left (List.getElem?_eq_some_iff.mp hk).1]; exact hk)
theorem na_appr {D : va_G} {cl : List vw_C} {H : Heap} {a b : va_W} (h : va_P D cl (a ++ b) H) : va_P D cl b H := fun k q hk => h (k + a.length) q (by rw [List.getElem?_append_right (by omega), Nat.add_sub_cancel]; exact hk)
theorem na_Dl {A : Nat → Prop} {a b : va_W} (h : va_D A (a ++ b)) : va_D A a := ⟨fun i j p q hi hj hpq => h.1 i j p q (by rw [List.getElem?_append_left (List.getElem?_eq_some_iff.mp hi).1]; exact hi) (by rw [List.getElem?_append_left (List.getElem?_eq_some_iff.mp hj).1]; exact hj) hpq, fun k q hk => h.2 k q (by rw [List.getElem?_append_left (List.getElem?_eq_some_iff.mp hk).1]; exact hk)⟩
theorem na_Dr {A : Nat → Prop} {a b : va_W} (h : va_D A (a ++ b)) : va_D A b := ⟨fun i j p q hi hj hpq => by
    have := h.1 (i + a.length) (j + a.length) p q (by rw [List.getElem?_append_right (by omega), Nat.add_sub_cancel]; exact hi) (by rw [List.getElem?_append_right (by omega), Nat.add_sub_cancel]; exact hj) hpq
    omega, fun k q hk => h.2 (k + a.length) q (by rw [List.getElem?_append_right (by omega), Nat.add_sub_cancel]; exact hk)⟩
theorem na_A_ws {φ : ma_F} {cA : Nat → ClassId} {σ : ma_S} {un : List ma_Q} {a : Nat} (h : na_A φ un a) : ∃ (k : Nat) (ee : va_E), (ma_ws φ cA σ un)[k]? = some (a, ee) := by
  obtain ⟨q, hq, rfl⟩ := h
  obtain ⟨k, -, hk⟩ := ma_ws_at (φ := φ) (cA := cA) (σ := σ) hq
  exact ⟨k, _, hk⟩
theorem na_DA {A : Nat → Prop} {φ : ma_F} {cA : Nat → ClassId} {σ : ma_S} {un : List ma_Q} (h : va_D A (ma_ws φ cA σ un)) : (∀ σ', va_D (na_A φ un) (ma_ws φ cA σ' un)) ∧ ∀ a, na_A φ un a → A a := by
  refine ⟨fun σ' => ma_D_any (h.weaken (fun k q hk _ => na_ws_in hk)), fun a ha => ?_⟩
  obtain ⟨k, ee, hk⟩ := na_A_ws (cA := cA) (σ := σ) ha
  exact h.2 k _ hk
theorem na_apart {A : Nat → Prop} {φ : ma_F} {cA : Nat → ClassId} {σ σ' : ma_S} {un un' : List ma_Q} (h : va_D A (ma_ws φ cA σ un ++ ma_ws φ cA σ' un')) (a : Nat) (h1 : na_A φ un a) : ¬ na_A φ un' a := fun h2 => by
  obtain ⟨k, ee, hk⟩ := na_A_ws (cA := cA) (σ := σ) h1
  obtain ⟨j, ef, hj⟩ := na_A_ws (cA := cA) (σ := σ') h2
  have hl := (List.getElem?_eq_some_iff.mp hk).1
  have := h.1 k (j + (ma_ws φ cA σ un).length) (a, ee) (a, ef) (by rw [List.getElem?_append_left hl]; exact hk) (by rw [List.getElem?_append_right (by omega), Nat.add_sub_cancel]; exact hj) rfl
  omega
set_option maxHeartbeats 4000000 in
set_option maxRecDepth 100000 in
/-- THE LAW, from its entry -/
theorem whole_start {p : Program} {e : Env} {s : State} {m : MethodId} {below : List Frame} {meth : Method} {c : Code} (l : Launch) (hflags : l.flags = flags0) {b L : Nat} {xs : Nat → Int32} (hL : L ≤ 3072) (C0 : lw_At p s m meth c b L xs) : W p l e room_1 s m #[Value.ref b] below meth c s.heap [] 0 0 (lw_Z below #[Value.ref b] s) (entryFrame m ([Value.ref b] : List Value).toArray 4) := by
  obtain ⟨hx, hb, hr, hml, hown, hts, hX, hbl, hlocks, hgv⟩ := id C0
  have ht2 : ∀ w ∈ ma_tb, w.before #[Value.ref b] s = true := fun w h => hts w (ma_tb_of h).1
  obtain ⟨c0, i0, k0⟩ := u_known (C := "OneSledgeForTwo$Hill") (T := tf_0) (N := 10) (n := 10) ht2 in_0 (ht2 (Jvm.Cond.instantiable "OneSledgeForTwo$Hill" (10 : Nat)) (wi_1 _ (List.mem_of_getElem? (i := 25) rfl) rfl))
  obtain ⟨c1, i1, k1⟩ := u_known (C := "OneSledgeForTwo$Lookahead") (T := tf_1) (N := 6) (n := 6) ht2 in_1 (ht2 (Jvm.Cond.instantiable "OneSledgeForTwo$Lookahead" (6 : Nat)) (wi_1 _ (List.mem_of_getElem? (i := 175) rfl) rfl))
  obtain ⟨c2, i2, k2⟩ := u_known (C := "OneSledgeForTwo$Reader") (T := tf_2) (N := 6) (n := 6) ht2 in_2 (ht2 (Jvm.Cond.instantiable "OneSledgeForTwo$Reader" (6 : Nat)) (wi_1 _ (List.mem_of_getElem? (i := 146) rfl) rfl))
  obtain ⟨c3, i3, k3⟩ := u_known (C := "OneSledgeForTwo$Rider") (T := tf_3) (N := 7) (n := 7) ht2 in_3 (ht2 (Jvm.Cond.instantiable "OneSledgeForTwo$Rider" (7 : Nat)) (wi_1 _ (List.mem_of_getElem? (i := 32) rfl) rfl))
  obtain ⟨c4, i4, k4⟩ := u_known (C := "OneSledgeForTwo$Sharing") (T := tf_4) (N := 3) (n := 3) ht2 in_4 (ht2 (Jvm.Cond.instantiable "OneSledgeForTwo$Sharing" (3 : Nat)) (wi_1 _ (List.mem_of_getElem? (i := 127) rfl) rfl))
  obtain ⟨c5, i5, k5⟩ := u_known (C := "OneSledgeForTwo$Shelf") (T := tf_5) (N := 3) (n := 3) ht2 in_5 (ht2 (Jvm.Cond.instantiable "OneSledgeForTwo$Shelf" (3 : Nat)) (wi_1 _ (List.mem_of_getElem? (i := 221) rfl) rfl))
  obtain ⟨c6, i6, k6⟩ := u_known (C := "OneSledgeForTwo$Trace") (T := tf_6) (N := 2) (n := 2) ht2 in_6 (ht2 (Jvm.Cond.instantiable "OneSledgeForTwo$Trace" (2 : Nat)) (wi_1 _ (List.mem_of_getElem? (i := 206) rfl) rfl))
  obtain ⟨c7, i7, k7⟩ := u_known (C := "OneSledgeForTwo") (T := tf_7) (N := 11) (n := 11) ht2 in_7 (ht2 (Jvm.Cond.instantiable "OneSledgeForTwo" (11 : Nat)) (wi_1 _ (List.mem_of_getElem? (i := 17) rfl) rfl))
  obtain ⟨c8, i8, k8⟩ := u_known (C := "OneSledgeForTwoModel") (T := tf_8) (N := 46) (n := 46) ht2 in_8 (ht2 (Jvm.Cond.instantiable "OneSledgeForTwoModel" (46 : Nat)) (wi_4 _ (List.mem_of_getElem? (i := 102) rfl) rfl))
  obtain ⟨dC, dI, hKc⟩ : ∃ (dC : Nat → ClassId) (dI : Nat → Nat → Nat), ∀ (k : Nat) (q : vw_C), ma_cls[k]? = some q → u_Kn s q.1 q.2.1 q.2.2 (dC k) (dI k) := by
    refine ⟨fun k => match k with | 0 => c0 | 1 => c1 | 2 => c2 | 3 => c3 | 4 => c4 | 5 => c5 | 6 => c6 | 7 => c7 | _ => c8, fun k => match k with | 0 => i0 | 1 => i1 | 2 => i2 | 3 => i3 | 4 => i4 | 5 => i5 | 6 => i6 | 7 => i7 | _ => i8, ?_⟩
    intro k q hq
    match k, hq with
    | 0, hq => cases hq; exact k0
    | 1, hq => cases hq; exact k1
    | 2, hq => cases hq; exact k2
    | 3, hq => cases hq; exact k3
    | 4, hq => cases hq; exact k4
    | 5, hq => cases hq; exact k5
    | 6, hq => cases hq; exact k6
    | 7, hq => cases hq; exact k7
    | 8, hq => cases hq; exact k8
    | k + 9, hq => simp [ma_cls] at hq
  obtain ⟨a0, kA0, co0, x0, y0, z0⟩ := Cond.arrayClass_spec (ht2 (Jvm.Cond.arrayClass Jvm.ClassFile.FieldType.int) (wi_1 _ (List.mem_of_getElem? (i := 71) rfl) rfl))
  obtain ⟨a1, kA1, co1, x1, y1, z1⟩ := Cond.arrayClass_spec (ht2 (Jvm.Cond.arrayClass Jvm.ClassFile.FieldType.long) (wi_2 _ (List.mem_of_getElem? (i := 0) rfl) rfl))
  obtain ⟨co2, a2, kA2, u2, -, y2, z2, x2⟩ := Cond.arrayOver_spec (hts (Jvm.Cond.arrayOver (Jvm.ClassFile.FieldType.object "OneSledgeForTwo$Rider")) (lt_1 _ (List.mem_of_getElem? (i := 31) rfl)))
  obtain ⟨co3, a3, kA3, u3, -, y3, z3, x3⟩ := Cond.arrayOver_spec (hts (Jvm.Cond.arrayOver (Jvm.ClassFile.FieldType.object "OneSledgeForTwo$Hill")) (lt_1 _ (List.mem_of_getElem? (i := 181) rfl)))
  obtain ⟨co4, a4, kA4, u4, -, y4, z4, x4⟩ := Cond.arrayOver_spec (hts (Jvm.Cond.arrayOver (Jvm.ClassFile.FieldType.object "OneSledgeForTwo$Shelf")) (lt_1 _ (List.mem_of_getElem? (i := 220) rfl)))
  obtain ⟨cA, hT⟩ : ∃ cA : Nat → ClassId, ∀ (k : Nat) (q : ClassId × FieldType), (ma_ty cA)[k]? = some q → ArrOfT s q.1 q.2 ∧ va_RA s q.1 q.2 := by
    refine ⟨fun k => match k with | 0 => a0 | 1 => a1 | 2 => a2 | 3 => a3 | _ => a4, fun k q hq => ?_⟩
    match k, hq with
    | 0, hq => cases hq; exact ⟨fun N z => ⟨(fun k h => by cases h), kA0, y0, co0, z0⟩, x0⟩
    | 1, hq => cases hq; exact ⟨fun N z => ⟨(fun k h => by cases h), kA1, y1, co1, z1⟩, x1⟩
    | 2, hq => cases hq; exact ⟨fun N z => ⟨(fun k h => by cases h), kA2, y2, co2, z2⟩, kA2, co2, y2, z2, u2, x2⟩
    | 3, hq => cases hq; exact ⟨fun N z => ⟨(fun k h => by cases h), kA3, y3, co3, z3⟩, kA3, co3, y3, z3, u3, x3⟩
    | 4, hq => cases hq; exact ⟨fun N z => ⟨(fun k h => by cases h), kA4, y4, co4, z4⟩, kA4, co4, y4, z4, u4, x4⟩
    | k + 5, hq => simp [ma_ty] at hq
  have hK : va_K (dC, dI) ma_cls (ma_ty cA) s := ⟨hKc, hT⟩
  have hO := na_ao hts
  have hA : ∀ q : Nat, s.heap.size ≤ q → (fun q : Nat => s.heap.size ≤ q) q := fun _ h => h
  have hS : va_S (fun q : Nat => s.heap.size ≤ q) s.heap s.heap [] := va_S.rf
  have hP : va_P (dC, dI) ma_cls [] s.heap := fun k q h => by simp at h
  have hD : va_D (fun q : Nat => s.heap.size ≤ q) [] := ⟨fun i j p q h => by simp at h, fun k q h => by simp at h⟩
  have hl := lv_entry ([.ref b]) (n := 4) (Nat.le_of_ble_eq_true rfl)
  rw [lg_entry_eq]
  generalize (lg_sl ([.ref b]) ++ List.replicate (4 - (lg_sl ([.ref b])).length) Slot.unset).toArray = ls at hl ⊢
  have hl : lv_has ls 4 [(0, .ref b)] := hl
  refine va_new (ci := 7) (fs := [.null, .null, .null, .int 0, .null, .null, .null, .null, .null, .null, .int 0]) (C := "OneSledgeForTwo") (T := tf_7) (N := 11) hx hb ht2 in_7 ty_7 tyo_7 hown (ht2 (Jvm.Cond.classLink "OneSledgeForTwoLaw" (7 : Nat) "OneSledgeForTwo") (wi_1 _ (List.mem_of_getElem? (i := 16) rfl) rfl)) (ht2 (Jvm.Cond.instantiable "OneSledgeForTwo" (11 : Nat)) (wi_1 _ (List.mem_of_getElem? (i := 17) rfl) rfl)) (ht2 (Jvm.Cond.initialized "OneSledgeForTwo") (wi_1 _ (List.mem_of_getElem? (i := 1) rfl) rfl)) hK hP hD hS hA rfl (fun j hj => match j, hj with
    | 0, _ => rfl
    | 1, _ => rfl
    | 2, _ => rfl
    | 3, _ => rfl
    | 4, _ => rfl
    | 5, _ => rfl
    | 6, _ => rfl
    | 7, _ => rfl
    | 8, _ => rfl
    | 9, _ => rfl
    | 10, _ => rfl
    | j + 11, hj => absurd hj (by omega)) (Nat.le_of_ble_eq_true rfl) (Nat.le_of_ble_eq_true rfl) lf_0 (fun qX H hP hD hS => ?_)
  refine W.widen (k := 1) (n := 11) (Nat.le_of_ble_eq_true rfl) (Nat.le_of_ble_eq_true rfl) ?_
  refine lv_dup hx hb lf_3 rfl ?_
  refine na_init (ws := []) (As := []) (q := qX) (cc := code) (own := R_law) (nc_X l cA (dC, dI)) ⟨hx, hb, hml, hown, ht2⟩ rfl ng_7 (wi_1 _ (List.mem_of_getElem? (i := 1) rfl) rfl) (Or.inl (wi_1 _ (List.mem_of_getElem? (i := 18) rfl) rfl)) (wi_1 _ (List.mem_of_getElem? (i := 19) rfl) rfl) ⟨rfl, by decide, by decide, by decide +kernel⟩ ⟨Nat.le_of_ble_eq_true rfl, Nat.le_of_ble_eq_true rfl⟩ hK hO hP hD hS hA hl.1 (Nat.le_of_ble_eq_true rfl) lf_4 ⟨Nat.le_of_ble_eq_true rfl, Nat.le_of_ble_eq_true rfl⟩ (fun uX H locs hWuX hP hD hS => ?_)
  refine W.widen (k := 84) (n := 2192) (Nat.le_of_ble_eq_true rfl) (Nat.le_of_ble_eq_true rfl) ?_
  have hP : va_P (dC, dI) ma_cls (na_X cA qX uX) H := hP
  have hD : va_D (fun q : Nat => s.heap.size ≤ q) (na_X cA qX uX) := hD
  refine lv_astore_n (lv' := [(1, .ref qX), (0, .ref b)]) hx hb lf_7 rfl hl (by decide) rfl (fun ls hl => ?_)
  refine va_new (ci := 8) (fs := [.int 0, .int 0, .int 0, .int 0, .int 0, .int 0, .int 0, .int 0, .int 0, .null, .null, .null, .null, .null, .null, .null, .null, .null, .null, .null, .null, .null, .null, .null, .null, .int 0, .int 0, .int 0, .int 0, .int 0, .null, .null, .null, .null, .null, .null, .int 0, .int 0, .int 0, .int 0, .int 0, .int 0, .int 0, .null, .int 0, .int 0]) (C := "OneSledgeForTwoModel") (T := tf_8) (N := 46) hx hb ht2 in_8 ty_8 tyo_8 hown (ht2 (Jvm.Cond.classLink "OneSledgeForTwoLaw" (10 : Nat) "OneSledgeForTwoModel") (wi_4 _ (List.mem_of_getElem? (i := 101) rfl) rfl)) (ht2 (Jvm.Cond.instantiable "OneSledgeForTwoModel" (46 : Nat)) (wi_4 _ (List.mem_of_getElem? (i := 102) rfl) rfl)) (ht2 (Jvm.Cond.initialized "OneSledgeForTwoModel") (wi_1 _ (List.mem_of_getElem? (i := 9) rfl) rfl)) hK hP hD hS hA rfl (fun j hj => match j, hj with
    | 0, _ => rfl
    | 1, _ => rfl
    | 2, _ => rfl
    | 3, _ => rfl
    | 4, _ => rfl
    | 5, _ => rfl
    | 6, _ => rfl
    | 7, _ => rfl
    | 8, _ => rfl
    | 9, _ => rfl
    | 10, _ => rfl
    | 11, _ => rfl
    | 12, _ => rfl
    | 13, _ => rfl
    | 14, _ => rfl
    | 15, _ => rfl
    | 16, _ => rfl
    | 17, _ => rfl
    | 18, _ => rfl
    | 19, _ => rfl
    | 20, _ => rfl
    | 21, _ => rfl
    | 22, _ => rfl
    | 23, _ => rfl
    | 24, _ => rfl
    | 25, _ => rfl
    | 26, _ => rfl
    | 27, _ => rfl
    | 28, _ => rfl
    | 29, _ => rfl
    | 30, _ => rfl
    | 31, _ => rfl
    | 32, _ => rfl
    | 33, _ => rfl
    | 34, _ => rfl
    | 35, _ => rfl
    | 36, _ => rfl
    | 37, _ => rfl
    | 38, _ => rfl
    | 39, _ => rfl
    | 40, _ => rfl
    | 41, _ => rfl
    | 42, _ => rfl
    | 43, _ => rfl
    | 44, _ => rfl
    | 45, _ => rfl
    | j + 46, hj => absurd hj (by omega)) (Nat.le_of_ble_eq_true rfl) (Nat.le_of_ble_eq_true rfl) lf_8 (fun qM H hP hD hS => ?_)
  refine W.widen (k := 85) (n := 2238) (Nat.le_of_ble_eq_true rfl) (Nat.le_of_ble_eq_true rfl) ?_
  refine lv_dup hx hb lf_11 rfl ?_
  refine na_init (ws := (na_X cA qX uX)) (As := []) (q := qM) (cc := code) (own := R_law) (nc_M l cA (dC, dI)) ⟨hx, hb, hml, hown, ht2⟩ rfl ng_8 (wi_1 _ (List.mem_of_getElem? (i := 9) rfl) rfl) (Or.inl (wi_4 _ (List.mem_of_getElem? (i := 103) rfl) rfl)) (wi_4 _ (List.mem_of_getElem? (i := 104) rfl) rfl) ⟨rfl, by decide, by decide, by decide +kernel⟩ ⟨Nat.le_of_ble_eq_true rfl, Nat.le_of_ble_eq_true rfl⟩ hK hO hP hD hS hA hl.1 (Nat.le_of_ble_eq_true rfl) lf_12 ⟨Nat.le_of_ble_eq_true rfl, Nat.le_of_ble_eq_true rfl⟩ (fun uM H locs hWuM hP hD hS => ?_)
  refine W.widen (k := 108) (n := 4115) (Nat.le_of_ble_eq_true rfl) (Nat.le_of_ble_eq_true rfl) ?_
  refine lv_astore_n (lv' := [(2, .ref qM), (1, .ref qX), (0, .ref b)]) hx hb lf_15 rfl hl (by decide) rfl (fun ls hl => ?_)
  refine lv_iconst (v := 0) hx hb lf_16 (by decide) ?_
  refine lv_istore_n (lv' := [(3, .int 0), (2, .ref qM), (1, .ref qX), (0, .ref b)]) hx hb lf_17 rfl hl (by decide) rfl (fun ls hl => ?_)
  obtain ⟨st, fv, hfv, hOld⟩ := na_old hts hgv
  have eX : na_X cA qX uX = ma_ws (na_φ st qX qM uX uM.1) cA (na_σ uM.2.1 uM.2.2) na_unX := na_XW
  have eM : na_model cA qM uM = ma_ws (na_φ st qX qM uX uM.1) cA (na_σ uM.2.1 uM.2.2) na_unM := na_modelW
  rw [eX, eM] at hP hD
  have hOl := hOld (na_φ st qX qM uX uM.1) (fun _ => rfl) (fun _ => rfl) (fun _ => rfl)
  have q1 : na_φ st qX qM uX uM.1 1 0 0 = qX := rfl
  have q2 : na_φ st qX qM uX uM.1 20 0 0 = qM := rfl
  generalize na_φ st qX qM uX uM.1 = φ at hP hD hOl q1 q2
  have dX := na_DA (na_Dl hD)
  have dM := na_DA (na_Dr hD)
  have C : la_Ctx p s m meth c b L xs φ fv cA (dC, dI) qX qM := ⟨hx, hb, hml, hown, ht2, hK, hX, hbl, hL, hfv, dX.1, dM.1, dX.2, dM.2, na_apart hD, q1, q2, hOl⟩
  refine la_loop C ⟨Nat.le_of_ble_eq_true rfl, Nat.le_of_ble_eq_true rfl⟩ (fun H locs ls hS => ?_) (L + 6) 0 0 _ _ H locs ls (by omega) rfl (Nat.zero_le _) (na_Iv hWuM) ⟨na_appl hP, na_appr hP⟩ hS (lv_sub hl [3, 2, 1, 0] rfl)
  refine lv_iconst (v := 1) hx hb lf_1381 (by decide) ?_
  refine va_forget (fun q hq => hS.2.2 q hq) ?_
  refine W.widen (k := 600000) (n := 7302250) (Nat.le_of_ble_eq_true rfl) (Nat.le_of_ble_eq_true rfl) ?_
  exact lw_ret hx hb hr hlocks lf_1382
