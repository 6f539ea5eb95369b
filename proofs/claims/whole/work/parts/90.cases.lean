/-! PART 90 (printed by wip/whole/gen/cases.py): the cases of the law. -/
section LC
variable {p : Program} {l : Launch} {e : Env} {s : State} {m : MethodId} {below : List Frame} {meth : Method} {c : Code} {b L : Nat} {xs : Nat → Int32} {φ : ma_F} {fv : Value} {cA : Nat → ClassId} {D : va_G} {qX qM : Nat} {H : Heap} {locs : List Loc} {cells slots : Nat} {Q : State → Prop} {ls : Array Slot}
theorem la_cmp {x : Int64} : lg_cmp x x = 0 := by
  unfold lg_cmp
  simp
set_option maxHeartbeats 1000000 in
theorem lwc_0 (C : la_Ctx p s m meth c b L xs φ fv cA D qX qM) (hf : cells ≤ room_1.cells ∧ slots ≤ room_1.slots) {n t : Nat} {x y : ma_S} (hn : n + 6 ≤ L) (ht : t < 1000) (hI : ma_Iv t x y) (hW : la_Wd φ cA D x y H) (hS : va_S (fun q : Nat => s.heap.size ≤ q) s.heap H locs) (hl : lv_has ls 4 [(0, .ref b), (1, .ref qX), (2, .ref qM), (3, .int (nI n))]) (K : ∀ (x' y' : ma_S) (H1 : Heap) (locs1 : List Loc), ma_Iv (t + 1) x' y' → la_Wd φ cA D x' y' H1 → va_S (fun q : Nat => s.heap.size ≤ q) s.heap H1 locs1 → W p l e room_1 s m #[Value.ref b] below meth c H1 locs1 cells slots Q (F0 m 1375 ls [])) : W p l e room_1 s m #[Value.ref b] below meth c H locs cells slots Q (F0 m 200 ls []) := by
  obtain ⟨v, x', y', e1, e2, hI'⟩ := op_row 12 t x y (xs (n + 1)) (xs (n + 2)) (xs (n + 3)) hI
  obtain ⟨r, rfl⟩ := la_i (d := 13) e1 rfl
  refine lv_aload_n C.hx C.hb le_200 rfl (lv_at hl 1 rfl) ?_
  refine la_arg (k := 1) (n := n) (xs := xs) C.hx C.hb C.hX C.hbl hS hl (by omega) C.hL (by decide) ld_201 ?_
  refine la_arg (k := 2) (n := n) (xs := xs) C.hx C.hb C.hX C.hbl hS hl (by omega) C.hL (by decide) ld_206 ?_
  refine la_arg (k := 3) (n := n) (xs := xs) C.hx C.hb C.hX C.hbl hS hl (by omega) C.hL (by decide) ld_211 ?_
  refine la_X (i := 13) (k := 3) (d := 13) (as0 := [vI (xs (n + 1)), vI (xs (n + 2)), vI (xs (n + 3))]) (μ := 60) C e1 (by decide) ⟨by decide, rfl⟩ (ma_okI (by simp)) (Nat.le_of_ble_eq_true rfl) rfl (wi_2 _ (List.mem_of_getElem? (i := 35) rfl) rfl) (wi_2 _ (List.mem_of_getElem? (i := 36) rfl) rfl) (wi_2 _ (List.mem_of_getElem? (i := 37) rfl) rfl) (by decide +kernel) hW hS hl.1 (Nat.le_of_ble_eq_true rfl) le_216 hf (fun H locs hW hS => ?_)
  refine lv_aload_n C.hx C.hb le_219 rfl (lv_at hl 2 rfl) ?_
  refine la_arg (k := 1) (n := n) (xs := xs) C.hx C.hb C.hX C.hbl hS hl (by omega) C.hL (by decide) ld_220 ?_
  refine la_arg (k := 2) (n := n) (xs := xs) C.hx C.hb C.hX C.hbl hS hl (by omega) C.hL (by decide) ld_225 ?_
  refine la_arg (k := 3) (n := n) (xs := xs) C.hx C.hb C.hX C.hbl hS hl (by omega) C.hL (by decide) ld_230 ?_
  refine la_M (i := 17) (k := 3) (d := 13) (as0 := [vI (xs (n + 1)), vI (xs (n + 2)), vI (xs (n + 3))]) (μ := 117) C e2 (by decide) ⟨by decide, rfl⟩ (ma_okI (by simp)) (Nat.le_of_ble_eq_true rfl) rfl (wi_5 _ (List.mem_of_getElem? (i := 6) rfl) rfl) (wi_5 _ (List.mem_of_getElem? (i := 7) rfl) rfl) (wi_5 _ (List.mem_of_getElem? (i := 8) rfl) rfl) (by decide +kernel) hW hS hl.1 (Nat.le_of_ble_eq_true rfl) le_235 hf (fun H locs hW hS => ?_)
  refine lv_icmp_eq (tgt := 1375) C.hx C.hb le_238 (by decide) (fun _ => ?_) (fun z => absurd rfl z)
  exact K x' y' H locs hI' hW hS
set_option maxHeartbeats 1000000 in
theorem lwc_1 (C : la_Ctx p s m meth c b L xs φ fv cA D qX qM) (hf : cells ≤ room_1.cells ∧ slots ≤ room_1.slots) {n t : Nat} {x y : ma_S} (hn : n + 6 ≤ L) (ht : t < 1000) (hI : ma_Iv t x y) (hW : la_Wd φ cA D x y H) (hS : va_S (fun q : Nat => s.heap.size ≤ q) s.heap H locs) (hl : lv_has ls 4 [(0, .ref b), (1, .ref qX), (2, .ref qM), (3, .int (nI n))]) (K : ∀ (x' y' : ma_S) (H1 : Heap) (locs1 : List Loc), ma_Iv (t + 1) x' y' → la_Wd φ cA D x' y' H1 → va_S (fun q : Nat => s.heap.size ≤ q) s.heap H1 locs1 → W p l e room_1 s m #[Value.ref b] below meth c H1 locs1 cells slots Q (F0 m 1375 ls [])) : W p l e room_1 s m #[Value.ref b] below meth c H locs cells slots Q (F0 m 243 ls []) := by
  obtain ⟨v0, hv0⟩ : ∃ v0 : Int64, v0 = ((xs (n + 3)).toInt64 <<< ((32 : Int32).toInt64 &&& 63)) ||| ((xs (n + 4)).toInt64 &&& 4294967295) := ⟨_, rfl⟩
  obtain ⟨v, x', y', e1, e2, hI'⟩ := op_set 11 t x y (xs (n + 1)) (xs (n + 2)) v0 hI
  obtain ⟨r, rfl⟩ := la_i (d := 13) e1 rfl
  refine lv_aload_n C.hx C.hb le_243 rfl (lv_at hl 1 rfl) ?_
  refine la_arg (k := 1) (n := n) (xs := xs) C.hx C.hb C.hX C.hbl hS hl (by omega) C.hL (by decide) ld_244 ?_
  refine la_arg (k := 2) (n := n) (xs := xs) C.hx C.hb C.hX C.hbl hS hl (by omega) C.hL (by decide) ld_249 ?_
  refine la_arg (k := 3) (n := n) (xs := xs) C.hx C.hb C.hX C.hbl hS hl (by omega) C.hL (by decide) ld_254 ?_
  refine lv_i2l C.hx C.hb le_259 rfl ?_
  refine lv_bipush (v := 32) C.hx C.hb le_260 (by decide) ?_
  refine lv_lshl C.hx C.hb le_262 rfl ?_
  refine la_arg (k := 4) (n := n) (xs := xs) C.hx C.hb C.hX C.hbl hS hl (by omega) C.hL (by decide) ld_263 ?_
  refine lv_i2l C.hx C.hb le_268 rfl ?_
  refine lv_ldc2 C.hx C.hb C.hown (C.hts (Jvm.Cond.constantLong "OneSledgeForTwoLaw" (18 : Nat) (4294967295 : Int64)) (wi_6 _ (List.mem_of_getElem? (i := 128) rfl) rfl)) le_269 ?_
  refine lv_land C.hx C.hb le_272 ?_
  refine lv_lor C.hx C.hb le_273 ?_
  rw [← hv0]
  refine la_X (i := 20) (k := 3) (d := 13) (as0 := [vI (xs (n + 1)), vI (xs (n + 2)), vL v0]) (μ := 61) C e1 (by decide) ⟨by decide, rfl⟩ (fun v hv => by simp only [List.mem_cons, List.not_mem_nil, or_false] at hv; rcases hv with rfl | rfl | rfl <;> trivial) (Nat.le_of_ble_eq_true rfl) rfl (wi_2 _ (List.mem_of_getElem? (i := 50) rfl) rfl) (wi_2 _ (List.mem_of_getElem? (i := 51) rfl) rfl) (wi_2 _ (List.mem_of_getElem? (i := 52) rfl) rfl) (by decide +kernel) hW hS hl.1 (Nat.le_of_ble_eq_true rfl) le_274 hf (fun H locs hW hS => ?_)
  refine lv_aload_n C.hx C.hb le_277 rfl (lv_at hl 2 rfl) ?_
  refine la_arg (k := 1) (n := n) (xs := xs) C.hx C.hb C.hX C.hbl hS hl (by omega) C.hL (by decide) ld_278 ?_
  refine la_arg (k := 2) (n := n) (xs := xs) C.hx C.hb C.hX C.hbl hS hl (by omega) C.hL (by decide) ld_283 ?_
  refine la_arg (k := 3) (n := n) (xs := xs) C.hx C.hb C.hX C.hbl hS hl (by omega) C.hL (by decide) ld_288 ?_
  refine lv_i2l C.hx C.hb le_293 rfl ?_
  refine lv_bipush (v := 32) C.hx C.hb le_294 (by decide) ?_
  refine lv_lshl C.hx C.hb le_296 rfl ?_
  refine la_arg (k := 4) (n := n) (xs := xs) C.hx C.hb C.hX C.hbl hS hl (by omega) C.hL (by decide) ld_297 ?_
  refine lv_i2l C.hx C.hb le_302 rfl ?_
  refine lv_ldc2 C.hx C.hb C.hown (C.hts (Jvm.Cond.constantLong "OneSledgeForTwoLaw" (18 : Nat) (4294967295 : Int64)) (wi_6 _ (List.mem_of_getElem? (i := 128) rfl) rfl)) le_303 ?_
  refine lv_land C.hx C.hb le_306 ?_
  refine lv_lor C.hx C.hb le_307 ?_
  rw [← hv0]
  refine la_M (i := 24) (k := 3) (d := 13) (as0 := [vI (xs (n + 1)), vI (xs (n + 2)), vL v0]) (μ := 118) C e2 (by decide) ⟨by decide, rfl⟩ (fun v hv => by simp only [List.mem_cons, List.not_mem_nil, or_false] at hv; rcases hv with rfl | rfl | rfl <;> trivial) (Nat.le_of_ble_eq_true rfl) rfl (wi_5 _ (List.mem_of_getElem? (i := 18) rfl) rfl) (wi_5 _ (List.mem_of_getElem? (i := 19) rfl) rfl) (wi_5 _ (List.mem_of_getElem? (i := 20) rfl) rfl) (by decide +kernel) hW hS hl.1 (Nat.le_of_ble_eq_true rfl) le_308 hf (fun H locs hW hS => ?_)
  refine lv_icmp_eq (tgt := 1375) C.hx C.hb le_311 (by decide) (fun _ => ?_) (fun z => absurd rfl z)
  exact K x' y' H locs hI' hW hS
set_option maxHeartbeats 1000000 in
theorem lwc_2 (C : la_Ctx p s m meth c b L xs φ fv cA D qX qM) (hf : cells ≤ room_1.cells ∧ slots ≤ room_1.slots) {n t : Nat} {x y : ma_S} (hn : n + 6 ≤ L) (ht : t < 1000) (hI : ma_Iv t x y) (hW : la_Wd φ cA D x y H) (hS : va_S (fun q : Nat => s.heap.size ≤ q) s.heap H locs) (hl : lv_has ls 4 [(0, .ref b), (1, .ref qX), (2, .ref qM), (3, .int (nI n))]) (K : ∀ (x' y' : ma_S) (H1 : Heap) (locs1 : List Loc), ma_Iv (t + 1) x' y' → la_Wd φ cA D x' y' H1 → va_S (fun q : Nat => s.heap.size ≤ q) s.heap H1 locs1 → W p l e room_1 s m #[Value.ref b] below meth c H1 locs1 cells slots Q (F0 m 1375 ls [])) : W p l e room_1 s m #[Value.ref b] below meth c H locs cells slots Q (F0 m 316 ls []) := by
  obtain ⟨v, x', y', e1, e2, hI'⟩ := op_copy 11 t x y (xs (n + 1)) (xs (n + 2)) (xs (n + 3)) (xs (n + 4)) (xs (n + 5)) hI
  obtain ⟨r, rfl⟩ := la_i (d := 13) e1 rfl
  refine lv_aload_n C.hx C.hb le_316 rfl (lv_at hl 1 rfl) ?_
  refine la_arg (k := 1) (n := n) (xs := xs) C.hx C.hb C.hX C.hbl hS hl (by omega) C.hL (by decide) ld_317 ?_
  refine la_arg (k := 2) (n := n) (xs := xs) C.hx C.hb C.hX C.hbl hS hl (by omega) C.hL (by decide) ld_322 ?_
  refine la_arg (k := 3) (n := n) (xs := xs) C.hx C.hb C.hX C.hbl hS hl (by omega) C.hL (by decide) ld_327 ?_
  refine la_arg (k := 4) (n := n) (xs := xs) C.hx C.hb C.hX C.hbl hS hl (by omega) C.hL (by decide) ld_332 ?_
  refine la_arg (k := 5) (n := n) (xs := xs) C.hx C.hb C.hX C.hbl hS hl (by omega) C.hL (by decide) ld_337 ?_
  refine la_X (i := 25) (k := 5) (d := 13) (as0 := [vI (xs (n + 1)), vI (xs (n + 2)), vI (xs (n + 3)), vI (xs (n + 4)), vI (xs (n + 5))]) (μ := 62) C e1 (by decide) ⟨by decide, rfl⟩ (ma_okI (by simp)) (Nat.le_of_ble_eq_true rfl) rfl (wi_2 _ (List.mem_of_getElem? (i := 75) rfl) rfl) (wi_2 _ (List.mem_of_getElem? (i := 76) rfl) rfl) (wi_2 _ (List.mem_of_getElem? (i := 77) rfl) rfl) (by decide +kernel) hW hS hl.1 (Nat.le_of_ble_eq_true rfl) le_342 hf (fun H locs hW hS => ?_)
  refine lv_aload_n C.hx C.hb le_345 rfl (lv_at hl 2 rfl) ?_
  refine la_arg (k := 1) (n := n) (xs := xs) C.hx C.hb C.hX C.hbl hS hl (by omega) C.hL (by decide) ld_346 ?_
  refine la_arg (k := 2) (n := n) (xs := xs) C.hx C.hb C.hX C.hbl hS hl (by omega) C.hL (by decide) ld_351 ?_
  refine la_arg (k := 3) (n := n) (xs := xs) C.hx C.hb C.hX C.hbl hS hl (by omega) C.hL (by decide) ld_356 ?_
  refine la_arg (k := 4) (n := n) (xs := xs) C.hx C.hb C.hX C.hbl hS hl (by omega) C.hL (by decide) ld_361 ?_
  refine la_arg (k := 5) (n := n) (xs := xs) C.hx C.hb C.hX C.hbl hS hl (by omega) C.hL (by decide) ld_366 ?_
  refine la_M (i := 29) (k := 5) (d := 13) (as0 := [vI (xs (n + 1)), vI (xs (n + 2)), vI (xs (n + 3)), vI (xs (n + 4)), vI (xs (n + 5))]) (μ := 119) C e2 (by decide) ⟨by decide, rfl⟩ (ma_okI (by simp)) (Nat.le_of_ble_eq_true rfl) rfl (wi_5 _ (List.mem_of_getElem? (i := 22) rfl) rfl) (wi_5 _ (List.mem_of_getElem? (i := 23) rfl) rfl) (wi_5 _ (List.mem_of_getElem? (i := 24) rfl) rfl) (by decide +kernel) hW hS hl.1 (Nat.le_of_ble_eq_true rfl) le_371 hf (fun H locs hW hS => ?_)
  refine lv_icmp_eq (tgt := 1375) C.hx C.hb le_374 (by decide) (fun _ => ?_) (fun z => absurd rfl z)
  exact K x' y' H locs hI' hW hS
set_option maxHeartbeats 1000000 in
theorem lwc_3 (C : la_Ctx p s m meth c b L xs φ fv cA D qX qM) (hf : cells ≤ room_1.cells ∧ slots ≤ room_1.slots) {n t : Nat} {x y : ma_S} (hn : n + 6 ≤ L) (ht : t < 1000) (hI : ma_Iv t x y) (hW : la_Wd φ cA D x y H) (hS : va_S (fun q : Nat => s.heap.size ≤ q) s.heap H locs) (hl : lv_has ls 4 [(0, .ref b), (1, .ref qX), (2, .ref qM), (3, .int (nI n))]) (K : ∀ (x' y' : ma_S) (H1 : Heap) (locs1 : List Loc), ma_Iv (t + 1) x' y' → la_Wd φ cA D x' y' H1 → va_S (fun q : Nat => s.heap.size ≤ q) s.heap H1 locs1 → W p l e room_1 s m #[Value.ref b] below meth c H1 locs1 cells slots Q (F0 m 1375 ls [])) : W p l e room_1 s m #[Value.ref b] below meth c H locs cells slots Q (F0 m 379 ls []) := by
  obtain ⟨v, x', y', e1, e2, hI'⟩ := op_element 12 t x y (xs (n + 1)) (xs (n + 2)) hI
  obtain ⟨r, rfl⟩ := la_l (d := 13) e1 rfl
  refine lv_aload_n C.hx C.hb le_379 rfl (lv_at hl 1 rfl) ?_
  refine la_arg (k := 1) (n := n) (xs := xs) C.hx C.hb C.hX C.hbl hS hl (by omega) C.hL (by decide) ld_380 ?_
  refine la_arg (k := 2) (n := n) (xs := xs) C.hx C.hb C.hX C.hbl hS hl (by omega) C.hL (by decide) ld_385 ?_
  refine la_X (i := 30) (k := 2) (d := 13) (as0 := [vI (xs (n + 1)), vI (xs (n + 2))]) (μ := 63) C e1 (by decide) ⟨by decide, rfl⟩ (ma_okI (by simp)) (Nat.le_of_ble_eq_true rfl) rfl (wi_2 _ (List.mem_of_getElem? (i := 86) rfl) rfl) (wi_2 _ (List.mem_of_getElem? (i := 87) rfl) rfl) (wi_2 _ (List.mem_of_getElem? (i := 88) rfl) rfl) (by decide +kernel) hW hS hl.1 (Nat.le_of_ble_eq_true rfl) le_390 hf (fun H locs hW hS => ?_)
  refine lv_aload_n C.hx C.hb le_393 rfl (lv_at hl 2 rfl) ?_
  refine la_arg (k := 1) (n := n) (xs := xs) C.hx C.hb C.hX C.hbl hS hl (by omega) C.hL (by decide) ld_394 ?_
  refine la_arg (k := 2) (n := n) (xs := xs) C.hx C.hb C.hX C.hbl hS hl (by omega) C.hL (by decide) ld_399 ?_
  refine la_M (i := 34) (k := 2) (d := 13) (as0 := [vI (xs (n + 1)), vI (xs (n + 2))]) (μ := 120) C e2 (by decide) ⟨by decide, rfl⟩ (ma_okI (by simp)) (Nat.le_of_ble_eq_true rfl) rfl (wi_5 _ (List.mem_of_getElem? (i := 26) rfl) rfl) (wi_5 _ (List.mem_of_getElem? (i := 27) rfl) rfl) (wi_5 _ (List.mem_of_getElem? (i := 28) rfl) rfl) (by decide +kernel) hW hS hl.1 (Nat.le_of_ble_eq_true rfl) le_404 hf (fun H locs hW hS => ?_)
  refine W.lcmp C.hx C.hb le_407 ?_
  refine lv_if_eq (tgt := 1375) C.hx C.hb le_408 (by decide) (fun _ => ?_) (fun z => absurd la_cmp z)
  exact K x' y' H locs hI' hW hS
set_option maxHeartbeats 1000000 in
theorem lwc_4 (C : la_Ctx p s m meth c b L xs φ fv cA D qX qM) (hf : cells ≤ room_1.cells ∧ slots ≤ room_1.slots) {n t : Nat} {x y : ma_S} (hn : n + 6 ≤ L) (ht : t < 1000) (hI : ma_Iv t x y) (hW : la_Wd φ cA D x y H) (hS : va_S (fun q : Nat => s.heap.size ≤ q) s.heap H locs) (hl : lv_has ls 4 [(0, .ref b), (1, .ref qX), (2, .ref qM), (3, .int (nI n))]) (K : ∀ (x' y' : ma_S) (H1 : Heap) (locs1 : List Loc), ma_Iv (t + 1) x' y' → la_Wd φ cA D x' y' H1 → va_S (fun q : Nat => s.heap.size ≤ q) s.heap H1 locs1 → W p l e room_1 s m #[Value.ref b] below meth c H1 locs1 cells slots Q (F0 m 1375 ls [])) : W p l e room_1 s m #[Value.ref b] below meth c H locs cells slots Q (F0 m 413 ls []) := by
  obtain ⟨v, x', y', e1, e2, hI'⟩ := op_show 12 t x y (xs (n + 1)) (xs (n + 2)) hI
  obtain ⟨r, rfl⟩ := la_i (d := 13) e1 rfl
  refine lv_aload_n C.hx C.hb le_413 rfl (lv_at hl 1 rfl) ?_
  refine la_arg (k := 1) (n := n) (xs := xs) C.hx C.hb C.hX C.hbl hS hl (by omega) C.hL (by decide) ld_414 ?_
  refine la_arg (k := 2) (n := n) (xs := xs) C.hx C.hb C.hX C.hbl hS hl (by omega) C.hL (by decide) ld_419 ?_
  refine la_X (i := 35) (k := 2) (d := 13) (as0 := [vI (xs (n + 1)), vI (xs (n + 2))]) (μ := 64) C e1 (by decide) ⟨by decide, rfl⟩ (ma_okI (by simp)) (Nat.le_of_ble_eq_true rfl) rfl (wi_2 _ (List.mem_of_getElem? (i := 90) rfl) rfl) (wi_2 _ (List.mem_of_getElem? (i := 91) rfl) rfl) (wi_2 _ (List.mem_of_getElem? (i := 92) rfl) rfl) (by decide +kernel) hW hS hl.1 (Nat.le_of_ble_eq_true rfl) le_424 hf (fun H locs hW hS => ?_)
  refine lv_aload_n C.hx C.hb le_427 rfl (lv_at hl 2 rfl) ?_
  refine la_arg (k := 1) (n := n) (xs := xs) C.hx C.hb C.hX C.hbl hS hl (by omega) C.hL (by decide) ld_428 ?_
  refine la_arg (k := 2) (n := n) (xs := xs) C.hx C.hb C.hX C.hbl hS hl (by omega) C.hL (by decide) ld_433 ?_
  refine la_M (i := 39) (k := 2) (d := 13) (as0 := [vI (xs (n + 1)), vI (xs (n + 2))]) (μ := 121) C e2 (by decide) ⟨by decide, rfl⟩ (ma_okI (by simp)) (Nat.le_of_ble_eq_true rfl) rfl (wi_5 _ (List.mem_of_getElem? (i := 30) rfl) rfl) (wi_5 _ (List.mem_of_getElem? (i := 31) rfl) rfl) (wi_5 _ (List.mem_of_getElem? (i := 32) rfl) rfl) (by decide +kernel) hW hS hl.1 (Nat.le_of_ble_eq_true rfl) le_438 hf (fun H locs hW hS => ?_)
  refine lv_icmp_eq (tgt := 1375) C.hx C.hb le_441 (by decide) (fun _ => ?_) (fun z => absurd rfl z)
  exact K x' y' H locs hI' hW hS
set_option maxHeartbeats 1000000 in
theorem lwc_5 (C : la_Ctx p s m meth c b L xs φ fv cA D qX qM) (hf : cells ≤ room_1.cells ∧ slots ≤ room_1.slots) {n t : Nat} {x y : ma_S} (hn : n + 6 ≤ L) (ht : t < 1000) (hI : ma_Iv t x y) (hW : la_Wd φ cA D x y H) (hS : va_S (fun q : Nat => s.heap.size ≤ q) s.heap H locs) (hl : lv_has ls 4 [(0, .ref b), (1, .ref qX), (2, .ref qM), (3, .int (nI n))]) (K : ∀ (x' y' : ma_S) (H1 : Heap) (locs1 : List Loc), ma_Iv (t + 1) x' y' → la_Wd φ cA D x' y' H1 → va_S (fun q : Nat => s.heap.size ≤ q) s.heap H1 locs1 → W p l e room_1 s m #[Value.ref b] below meth c H1 locs1 cells slots Q (F0 m 1375 ls [])) : W p l e room_1 s m #[Value.ref b] below meth c H locs cells slots Q (F0 m 446 ls []) := by
  obtain ⟨v, x', y', e1, e2, hI'⟩ := op_holds 12 t x y (xs (n + 1)) hI
  obtain ⟨r, rfl⟩ := la_i (d := 13) e1 rfl
  refine lv_aload_n C.hx C.hb le_446 rfl (lv_at hl 1 rfl) ?_
  refine la_arg (k := 1) (n := n) (xs := xs) C.hx C.hb C.hX C.hbl hS hl (by omega) C.hL (by decide) ld_447 ?_
  refine la_X (i := 40) (k := 1) (d := 13) (as0 := [vI (xs (n + 1))]) (μ := 65) C e1 (by decide) ⟨by decide, rfl⟩ (ma_okI (by simp)) (Nat.le_of_ble_eq_true rfl) rfl (wi_2 _ (List.mem_of_getElem? (i := 102) rfl) rfl) (wi_2 _ (List.mem_of_getElem? (i := 103) rfl) rfl) (wi_2 _ (List.mem_of_getElem? (i := 104) rfl) rfl) (by decide +kernel) hW hS hl.1 (Nat.le_of_ble_eq_true rfl) le_452 hf (fun H locs hW hS => ?_)
  refine lv_aload_n C.hx C.hb le_455 rfl (lv_at hl 2 rfl) ?_
  refine la_arg (k := 1) (n := n) (xs := xs) C.hx C.hb C.hX C.hbl hS hl (by omega) C.hL (by decide) ld_456 ?_
  refine la_M (i := 44) (k := 1) (d := 13) (as0 := [vI (xs (n + 1))]) (μ := 122) C e2 (by decide) ⟨by decide, rfl⟩ (ma_okI (by simp)) (Nat.le_of_ble_eq_true rfl) rfl (wi_5 _ (List.mem_of_getElem? (i := 38) rfl) rfl) (wi_5 _ (List.mem_of_getElem? (i := 39) rfl) rfl) (wi_5 _ (List.mem_of_getElem? (i := 40) rfl) rfl) (by decide +kernel) hW hS hl.1 (Nat.le_of_ble_eq_true rfl) le_461 hf (fun H locs hW hS => ?_)
  refine lv_icmp_eq (tgt := 1375) C.hx C.hb le_464 (by decide) (fun _ => ?_) (fun z => absurd rfl z)
  exact K x' y' H locs hI' hW hS
set_option maxHeartbeats 1000000 in
theorem lwc_6 (C : la_Ctx p s m meth c b L xs φ fv cA D qX qM) (hf : cells ≤ room_1.cells ∧ slots ≤ room_1.slots) {n t : Nat} {x y : ma_S} (hn : n + 6 ≤ L) (ht : t < 1000) (hI : ma_Iv t x y) (hW : la_Wd φ cA D x y H) (hS : va_S (fun q : Nat => s.heap.size ≤ q) s.heap H locs) (hl : lv_has ls 4 [(0, .ref b), (1, .ref qX), (2, .ref qM), (3, .int (nI n))]) (K : ∀ (x' y' : ma_S) (H1 : Heap) (locs1 : List Loc), ma_Iv (t + 1) x' y' → la_Wd φ cA D x' y' H1 → va_S (fun q : Nat => s.heap.size ≤ q) s.heap H1 locs1 → W p l e room_1 s m #[Value.ref b] below meth c H1 locs1 cells slots Q (F0 m 1375 ls [])) : W p l e room_1 s m #[Value.ref b] below meth c H locs cells slots Q (F0 m 469 ls []) := by
  obtain ⟨v, x', y', e1, e2, hI'⟩ := op_says 11 t x y (xs (n + 1)) (xs (n + 2)) hI
  obtain ⟨r, rfl⟩ := la_i (d := 13) e1 rfl
  refine lv_aload_n C.hx C.hb le_469 rfl (lv_at hl 1 rfl) ?_
  refine la_arg (k := 1) (n := n) (xs := xs) C.hx C.hb C.hX C.hbl hS hl (by omega) C.hL (by decide) ld_470 ?_
  refine la_arg (k := 2) (n := n) (xs := xs) C.hx C.hb C.hX C.hbl hS hl (by omega) C.hL (by decide) ld_475 ?_
  refine la_X (i := 45) (k := 2) (d := 13) (as0 := [vI (xs (n + 1)), vI (xs (n + 2))]) (μ := 66) C e1 (by decide) ⟨by decide, rfl⟩ (ma_okI (by simp)) (Nat.le_of_ble_eq_true rfl) rfl (wi_2 _ (List.mem_of_getElem? (i := 106) rfl) rfl) (wi_2 _ (List.mem_of_getElem? (i := 107) rfl) rfl) (wi_2 _ (List.mem_of_getElem? (i := 108) rfl) rfl) (by decide +kernel) hW hS hl.1 (Nat.le_of_ble_eq_true rfl) le_480 hf (fun H locs hW hS => ?_)
  refine lv_aload_n C.hx C.hb le_483 rfl (lv_at hl 2 rfl) ?_
  refine la_arg (k := 1) (n := n) (xs := xs) C.hx C.hb C.hX C.hbl hS hl (by omega) C.hL (by decide) ld_484 ?_
  refine la_arg (k := 2) (n := n) (xs := xs) C.hx C.hb C.hX C.hbl hS hl (by omega) C.hL (by decide) ld_489 ?_
  refine la_M (i := 48) (k := 2) (d := 13) (as0 := [vI (xs (n + 1)), vI (xs (n + 2))]) (μ := 123) C e2 (by decide) ⟨by decide, rfl⟩ (ma_okI (by simp)) (Nat.le_of_ble_eq_true rfl) rfl (wi_5 _ (List.mem_of_getElem? (i := 42) rfl) rfl) (wi_5 _ (List.mem_of_getElem? (i := 43) rfl) rfl) (wi_5 _ (List.mem_of_getElem? (i := 44) rfl) rfl) (by decide +kernel) hW hS hl.1 (Nat.le_of_ble_eq_true rfl) le_494 hf (fun H locs hW hS => ?_)
  refine lv_icmp_eq (tgt := 1375) C.hx C.hb le_497 (by decide) (fun _ => ?_) (fun z => absurd rfl z)
  exact K x' y' H locs hI' hW hS
set_option maxHeartbeats 1000000 in
theorem lwc_7 (C : la_Ctx p s m meth c b L xs φ fv cA D qX qM) (hf : cells ≤ room_1.cells ∧ slots ≤ room_1.slots) {n t : Nat} {x y : ma_S} (hn : n + 6 ≤ L) (ht : t < 1000) (hI : ma_Iv t x y) (hW : la_Wd φ cA D x y H) (hS : va_S (fun q : Nat => s.heap.size ≤ q) s.heap H locs) (hl : lv_has ls 4 [(0, .ref b), (1, .ref qX), (2, .ref qM), (3, .int (nI n))]) (K : ∀ (x' y' : ma_S) (H1 : Heap) (locs1 : List Loc), ma_Iv (t + 1) x' y' → la_Wd φ cA D x' y' H1 → va_S (fun q : Nat => s.heap.size ≤ q) s.heap H1 locs1 → W p l e room_1 s m #[Value.ref b] below meth c H1 locs1 cells slots Q (F0 m 1375 ls [])) : W p l e room_1 s m #[Value.ref b] below meth c H locs cells slots Q (F0 m 502 ls []) := by
  obtain ⟨v, x', y', e1, e2, hI'⟩ := op_rider 10 t x y (xs (n + 1)) (xs (n + 2)) hI
  obtain ⟨r, rfl⟩ := la_i (d := 13) e1 rfl
  refine lv_aload_n C.hx C.hb le_502 rfl (lv_at hl 1 rfl) ?_
  refine la_arg (k := 1) (n := n) (xs := xs) C.hx C.hb C.hX C.hbl hS hl (by omega) C.hL (by decide) ld_503 ?_
  refine la_arg (k := 2) (n := n) (xs := xs) C.hx C.hb C.hX C.hbl hS hl (by omega) C.hL (by decide) ld_508 ?_
  refine la_X (i := 49) (k := 2) (d := 13) (as0 := [vI (xs (n + 1)), vI (xs (n + 2))]) (μ := 67) C e1 (by decide) ⟨by decide, rfl⟩ (ma_okI (by simp)) (Nat.le_of_ble_eq_true rfl) rfl (wi_2 _ (List.mem_of_getElem? (i := 136) rfl) rfl) (wi_2 _ (List.mem_of_getElem? (i := 137) rfl) rfl) (wi_2 _ (List.mem_of_getElem? (i := 138) rfl) rfl) (by decide +kernel) hW hS hl.1 (Nat.le_of_ble_eq_true rfl) le_513 hf (fun H locs hW hS => ?_)
  refine lv_aload_n C.hx C.hb le_516 rfl (lv_at hl 2 rfl) ?_
  refine la_arg (k := 1) (n := n) (xs := xs) C.hx C.hb C.hX C.hbl hS hl (by omega) C.hL (by decide) ld_517 ?_
  refine la_arg (k := 2) (n := n) (xs := xs) C.hx C.hb C.hX C.hbl hS hl (by omega) C.hL (by decide) ld_522 ?_
  refine la_M (i := 52) (k := 2) (d := 13) (as0 := [vI (xs (n + 1)), vI (xs (n + 2))]) (μ := 128) C e2 (by decide) ⟨by decide, rfl⟩ (ma_okI (by simp)) (Nat.le_of_ble_eq_true rfl) rfl (wi_5 _ (List.mem_of_getElem? (i := 62) rfl) rfl) (wi_5 _ (List.mem_of_getElem? (i := 63) rfl) rfl) (wi_5 _ (List.mem_of_getElem? (i := 64) rfl) rfl) (by decide +kernel) hW hS hl.1 (Nat.le_of_ble_eq_true rfl) le_527 hf (fun H locs hW hS => ?_)
  refine lv_icmp_eq (tgt := 1375) C.hx C.hb le_530 (by decide) (fun _ => ?_) (fun z => absurd rfl z)
  exact K x' y' H locs hI' hW hS
set_option maxHeartbeats 1000000 in
theorem lwc_8 (C : la_Ctx p s m meth c b L xs φ fv cA D qX qM) (hf : cells ≤ room_1.cells ∧ slots ≤ room_1.slots) {n t : Nat} {x y : ma_S} (hn : n + 6 ≤ L) (ht : t < 1000) (hI : ma_Iv t x y) (hW : la_Wd φ cA D x y H) (hS : va_S (fun q : Nat => s.heap.size ≤ q) s.heap H locs) (hl : lv_has ls 4 [(0, .ref b), (1, .ref qX), (2, .ref qM), (3, .int (nI n))]) (K : ∀ (x' y' : ma_S) (H1 : Heap) (locs1 : List Loc), ma_Iv (t + 1) x' y' → la_Wd φ cA D x' y' H1 → va_S (fun q : Nat => s.heap.size ≤ q) s.heap H1 locs1 → W p l e room_1 s m #[Value.ref b] below meth c H1 locs1 cells slots Q (F0 m 1375 ls [])) : W p l e room_1 s m #[Value.ref b] below meth c H locs cells slots Q (F0 m 535 ls []) := by
  obtain ⟨v, x', y', e1, e2, hI'⟩ := op_riderOf 12 t x y (xs (n + 1)) (xs (n + 2)) hI
  obtain ⟨r, rfl⟩ := la_i (d := 13) e1 rfl
  refine lv_aload_n C.hx C.hb le_535 rfl (lv_at hl 1 rfl) ?_
  refine la_arg (k := 1) (n := n) (xs := xs) C.hx C.hb C.hX C.hbl hS hl (by omega) C.hL (by decide) ld_536 ?_
  refine la_arg (k := 2) (n := n) (xs := xs) C.hx C.hb C.hX C.hbl hS hl (by omega) C.hL (by decide) ld_541 ?_
  refine la_X (i := 53) (k := 2) (d := 13) (as0 := [vI (xs (n + 1)), vI (xs (n + 2))]) (μ := 68) C e1 (by decide) ⟨by decide, rfl⟩ (ma_okI (by simp)) (Nat.le_of_ble_eq_true rfl) rfl (wi_2 _ (List.mem_of_getElem? (i := 160) rfl) rfl) (wi_2 _ (List.mem_of_getElem? (i := 161) rfl) rfl) (wi_2 _ (List.mem_of_getElem? (i := 162) rfl) rfl) (by decide +kernel) hW hS hl.1 (Nat.le_of_ble_eq_true rfl) le_546 hf (fun H locs hW hS => ?_)
  refine lv_aload_n C.hx C.hb le_549 rfl (lv_at hl 2 rfl) ?_
  refine la_arg (k := 1) (n := n) (xs := xs) C.hx C.hb C.hX C.hbl hS hl (by omega) C.hL (by decide) ld_550 ?_
  refine la_arg (k := 2) (n := n) (xs := xs) C.hx C.hb C.hX C.hbl hS hl (by omega) C.hL (by decide) ld_555 ?_
  refine la_M (i := 56) (k := 2) (d := 13) (as0 := [vI (xs (n + 1)), vI (xs (n + 2))]) (μ := 129) C e2 (by decide) ⟨by decide, rfl⟩ (ma_okI (by simp)) (Nat.le_of_ble_eq_true rfl) rfl (wi_5 _ (List.mem_of_getElem? (i := 70) rfl) rfl) (wi_5 _ (List.mem_of_getElem? (i := 71) rfl) rfl) (wi_5 _ (List.mem_of_getElem? (i := 72) rfl) rfl) (by decide +kernel) hW hS hl.1 (Nat.le_of_ble_eq_true rfl) le_560 hf (fun H locs hW hS => ?_)
  refine lv_icmp_eq (tgt := 1375) C.hx C.hb le_563 (by decide) (fun _ => ?_) (fun z => absurd rfl z)
  exact K x' y' H locs hI' hW hS
set_option maxHeartbeats 1000000 in
theorem lwc_9 (C : la_Ctx p s m meth c b L xs φ fv cA D qX qM) (hf : cells ≤ room_1.cells ∧ slots ≤ room_1.slots) {n t : Nat} {x y : ma_S} (hn : n + 6 ≤ L) (ht : t < 1000) (hI : ma_Iv t x y) (hW : la_Wd φ cA D x y H) (hS : va_S (fun q : Nat => s.heap.size ≤ q) s.heap H locs) (hl : lv_has ls 4 [(0, .ref b), (1, .ref qX), (2, .ref qM), (3, .int (nI n))]) (K : ∀ (x' y' : ma_S) (H1 : Heap) (locs1 : List Loc), ma_Iv (t + 1) x' y' → la_Wd φ cA D x' y' H1 → va_S (fun q : Nat => s.heap.size ≤ q) s.heap H1 locs1 → W p l e room_1 s m #[Value.ref b] below meth c H1 locs1 cells slots Q (F0 m 1375 ls [])) : W p l e room_1 s m #[Value.ref b] below meth c H locs cells slots Q (F0 m 568 ls []) := by
  obtain ⟨v, x', y', e1, e2, hI'⟩ := op_tell 12 t x y (xs (n + 1)) (xs (n + 2)) (xs (n + 3)) hI
  obtain ⟨r, rfl⟩ := la_i (d := 13) e1 rfl
  refine lv_aload_n C.hx C.hb le_568 rfl (lv_at hl 1 rfl) ?_
  refine la_arg (k := 1) (n := n) (xs := xs) C.hx C.hb C.hX C.hbl hS hl (by omega) C.hL (by decide) ld_569 ?_
  refine la_arg (k := 2) (n := n) (xs := xs) C.hx C.hb C.hX C.hbl hS hl (by omega) C.hL (by decide) ld_574 ?_
  refine la_arg (k := 3) (n := n) (xs := xs) C.hx C.hb C.hX C.hbl hS hl (by omega) C.hL (by decide) ld_579 ?_
  refine la_X (i := 57) (k := 3) (d := 13) (as0 := [vI (xs (n + 1)), vI (xs (n + 2)), vI (xs (n + 3))]) (μ := 69) C e1 (by decide) ⟨by decide, rfl⟩ (ma_okI (by simp)) (Nat.le_of_ble_eq_true rfl) rfl (wi_2 _ (List.mem_of_getElem? (i := 164) rfl) rfl) (wi_2 _ (List.mem_of_getElem? (i := 165) rfl) rfl) (wi_2 _ (List.mem_of_getElem? (i := 166) rfl) rfl) (by decide +kernel) hW hS hl.1 (Nat.le_of_ble_eq_true rfl) le_584 hf (fun H locs hW hS => ?_)
  refine lv_aload_n C.hx C.hb le_587 rfl (lv_at hl 2 rfl) ?_
  refine la_arg (k := 1) (n := n) (xs := xs) C.hx C.hb C.hX C.hbl hS hl (by omega) C.hL (by decide) ld_588 ?_
  refine la_arg (k := 2) (n := n) (xs := xs) C.hx C.hb C.hX C.hbl hS hl (by omega) C.hL (by decide) ld_593 ?_
  refine la_arg (k := 3) (n := n) (xs := xs) C.hx C.hb C.hX C.hbl hS hl (by omega) C.hL (by decide) ld_598 ?_
  refine la_M (i := 60) (k := 3) (d := 13) (as0 := [vI (xs (n + 1)), vI (xs (n + 2)), vI (xs (n + 3))]) (μ := 130) C e2 (by decide) ⟨by decide, rfl⟩ (ma_okI (by simp)) (Nat.le_of_ble_eq_true rfl) rfl (wi_5 _ (List.mem_of_getElem? (i := 74) rfl) rfl) (wi_5 _ (List.mem_of_getElem? (i := 75) rfl) rfl) (wi_5 _ (List.mem_of_getElem? (i := 76) rfl) rfl) (by decide +kernel) hW hS hl.1 (Nat.le_of_ble_eq_true rfl) le_603 hf (fun H locs hW hS => ?_)
  refine lv_icmp_eq (tgt := 1375) C.hx C.hb le_606 (by decide) (fun _ => ?_) (fun z => absurd rfl z)
  exact K x' y' H locs hI' hW hS
set_option maxHeartbeats 1000000 in
theorem lwc_10 (C : la_Ctx p s m meth c b L xs φ fv cA D qX qM) (hf : cells ≤ room_1.cells ∧ slots ≤ room_1.slots) {n t : Nat} {x y : ma_S} (hn : n + 6 ≤ L) (ht : t < 1000) (hI : ma_Iv t x y) (hW : la_Wd φ cA D x y H) (hS : va_S (fun q : Nat => s.heap.size ≤ q) s.heap H locs) (hl : lv_has ls 4 [(0, .ref b), (1, .ref qX), (2, .ref qM), (3, .int (nI n))]) (K : ∀ (x' y' : ma_S) (H1 : Heap) (locs1 : List Loc), ma_Iv (t + 1) x' y' → la_Wd φ cA D x' y' H1 → va_S (fun q : Nat => s.heap.size ≤ q) s.heap H1 locs1 → W p l e room_1 s m #[Value.ref b] below meth c H1 locs1 cells slots Q (F0 m 1375 ls [])) : W p l e room_1 s m #[Value.ref b] below meth c H locs cells slots Q (F0 m 611 ls []) := by
  obtain ⟨v, x', y', e1, e2, hI'⟩ := op_sledges 12 t x y (xs (n + 1)) (xs (n + 2)) hI
  obtain ⟨r, rfl⟩ := la_i (d := 13) e1 rfl
  refine lv_aload_n C.hx C.hb le_611 rfl (lv_at hl 1 rfl) ?_
  refine la_arg (k := 1) (n := n) (xs := xs) C.hx C.hb C.hX C.hbl hS hl (by omega) C.hL (by decide) ld_612 ?_
  refine la_arg (k := 2) (n := n) (xs := xs) C.hx C.hb C.hX C.hbl hS hl (by omega) C.hL (by decide) ld_617 ?_
  refine la_X (i := 61) (k := 2) (d := 13) (as0 := [vI (xs (n + 1)), vI (xs (n + 2))]) (μ := 70) C e1 (by decide) ⟨by decide, rfl⟩ (ma_okI (by simp)) (Nat.le_of_ble_eq_true rfl) rfl (wi_2 _ (List.mem_of_getElem? (i := 168) rfl) rfl) (wi_2 _ (List.mem_of_getElem? (i := 169) rfl) rfl) (wi_2 _ (List.mem_of_getElem? (i := 170) rfl) rfl) (by decide +kernel) hW hS hl.1 (Nat.le_of_ble_eq_true rfl) le_622 hf (fun H locs hW hS => ?_)
  refine lv_aload_n C.hx C.hb le_625 rfl (lv_at hl 2 rfl) ?_
  refine la_arg (k := 1) (n := n) (xs := xs) C.hx C.hb C.hX C.hbl hS hl (by omega) C.hL (by decide) ld_626 ?_
  refine la_arg (k := 2) (n := n) (xs := xs) C.hx C.hb C.hX C.hbl hS hl (by omega) C.hL (by decide) ld_631 ?_
  refine la_M (i := 64) (k := 2) (d := 13) (as0 := [vI (xs (n + 1)), vI (xs (n + 2))]) (μ := 132) C e2 (by decide) ⟨by decide, rfl⟩ (ma_okI (by simp)) (Nat.le_of_ble_eq_true rfl) rfl (wi_5 _ (List.mem_of_getElem? (i := 78) rfl) rfl) (wi_5 _ (List.mem_of_getElem? (i := 79) rfl) rfl) (wi_5 _ (List.mem_of_getElem? (i := 80) rfl) rfl) (by decide +kernel) hW hS hl.1 (Nat.le_of_ble_eq_true rfl) le_636 hf (fun H locs hW hS => ?_)
  refine lv_icmp_eq (tgt := 1375) C.hx C.hb le_639 (by decide) (fun _ => ?_) (fun z => absurd rfl z)
  exact K x' y' H locs hI' hW hS
set_option maxHeartbeats 1000000 in
theorem lwc_11 (C : la_Ctx p s m meth c b L xs φ fv cA D qX qM) (hf : cells ≤ room_1.cells ∧ slots ≤ room_1.slots) {n t : Nat} {x y : ma_S} (hn : n + 6 ≤ L) (ht : t < 1000) (hI : ma_Iv t x y) (hW : la_Wd φ cA D x y H) (hS : va_S (fun q : Nat => s.heap.size ≤ q) s.heap H locs) (hl : lv_has ls 4 [(0, .ref b), (1, .ref qX), (2, .ref qM), (3, .int (nI n))]) (K : ∀ (x' y' : ma_S) (H1 : Heap) (locs1 : List Loc), ma_Iv (t + 1) x' y' → la_Wd φ cA D x' y' H1 → va_S (fun q : Nat => s.heap.size ≤ q) s.heap H1 locs1 → W p l e room_1 s m #[Value.ref b] below meth c H1 locs1 cells slots Q (F0 m 1375 ls [])) : W p l e room_1 s m #[Value.ref b] below meth c H locs cells slots Q (F0 m 644 ls []) := by
  obtain ⟨v, x', y', e1, e2, hI'⟩ := op_ask 12 t x y (xs (n + 1)) (xs (n + 2)) hI
  obtain ⟨r, rfl⟩ := la_i (d := 13) e1 rfl
  refine lv_aload_n C.hx C.hb le_644 rfl (lv_at hl 1 rfl) ?_
  refine la_arg (k := 1) (n := n) (xs := xs) C.hx C.hb C.hX C.hbl hS hl (by omega) C.hL (by decide) ld_645 ?_
  refine la_arg (k := 2) (n := n) (xs := xs) C.hx C.hb C.hX C.hbl hS hl (by omega) C.hL (by decide) ld_650 ?_
  refine la_X (i := 65) (k := 2) (d := 13) (as0 := [vI (xs (n + 1)), vI (xs (n + 2))]) (μ := 71) C e1 (by decide) ⟨by decide, rfl⟩ (ma_okI (by simp)) (Nat.le_of_ble_eq_true rfl) rfl (wi_2 _ (List.mem_of_getElem? (i := 172) rfl) rfl) (wi_2 _ (List.mem_of_getElem? (i := 173) rfl) rfl) (wi_2 _ (List.mem_of_getElem? (i := 174) rfl) rfl) (by decide +kernel) hW hS hl.1 (Nat.le_of_ble_eq_true rfl) le_655 hf (fun H locs hW hS => ?_)
  refine lv_aload_n C.hx C.hb le_658 rfl (lv_at hl 2 rfl) ?_
  refine la_arg (k := 1) (n := n) (xs := xs) C.hx C.hb C.hX C.hbl hS hl (by omega) C.hL (by decide) ld_659 ?_
  refine la_arg (k := 2) (n := n) (xs := xs) C.hx C.hb C.hX C.hbl hS hl (by omega) C.hL (by decide) ld_664 ?_
  refine la_M (i := 68) (k := 2) (d := 13) (as0 := [vI (xs (n + 1)), vI (xs (n + 2))]) (μ := 135) C e2 (by decide) ⟨by decide, rfl⟩ (ma_okI (by simp)) (Nat.le_of_ble_eq_true rfl) rfl (wi_5 _ (List.mem_of_getElem? (i := 86) rfl) rfl) (wi_5 _ (List.mem_of_getElem? (i := 87) rfl) rfl) (wi_5 _ (List.mem_of_getElem? (i := 88) rfl) rfl) (by decide +kernel) hW hS hl.1 (Nat.le_of_ble_eq_true rfl) le_669 hf (fun H locs hW hS => ?_)
  refine lv_icmp_eq (tgt := 1375) C.hx C.hb le_672 (by decide) (fun _ => ?_) (fun z => absurd rfl z)
  exact K x' y' H locs hI' hW hS
set_option maxHeartbeats 1000000 in
theorem lwc_12 (C : la_Ctx p s m meth c b L xs φ fv cA D qX qM) (hf : cells ≤ room_1.cells ∧ slots ≤ room_1.slots) {n t : Nat} {x y : ma_S} (hn : n + 6 ≤ L) (ht : t < 1000) (hI : ma_Iv t x y) (hW : la_Wd φ cA D x y H) (hS : va_S (fun q : Nat => s.heap.size ≤ q) s.heap H locs) (hl : lv_has ls 4 [(0, .ref b), (1, .ref qX), (2, .ref qM), (3, .int (nI n))]) (K : ∀ (x' y' : ma_S) (H1 : Heap) (locs1 : List Loc), ma_Iv (t + 1) x' y' → la_Wd φ cA D x' y' H1 → va_S (fun q : Nat => s.heap.size ≤ q) s.heap H1 locs1 → W p l e room_1 s m #[Value.ref b] below meth c H1 locs1 cells slots Q (F0 m 1375 ls [])) : W p l e room_1 s m #[Value.ref b] below meth c H locs cells slots Q (F0 m 677 ls []) := by
  obtain ⟨v, x', y', e1, e2, hI'⟩ := op_hill 6 t x y (xs (n + 1)) ht hI
  obtain ⟨r, rfl⟩ := la_i (d := 13) e1 rfl
  refine lv_aload_n C.hx C.hb le_677 rfl (lv_at hl 1 rfl) ?_
  refine la_arg (k := 1) (n := n) (xs := xs) C.hx C.hb C.hX C.hbl hS hl (by omega) C.hL (by decide) ld_678 ?_
  refine la_X (i := 69) (k := 1) (d := 13) (as0 := [vI (xs (n + 1))]) (μ := 72) C e1 (by decide) ⟨by decide, rfl⟩ (ma_okI (by simp)) (Nat.le_of_ble_eq_true rfl) rfl (wi_2 _ (List.mem_of_getElem? (i := 176) rfl) rfl) (wi_2 _ (List.mem_of_getElem? (i := 177) rfl) rfl) (wi_2 _ (List.mem_of_getElem? (i := 178) rfl) rfl) (by decide +kernel) hW hS hl.1 (Nat.le_of_ble_eq_true rfl) le_683 hf (fun H locs hW hS => ?_)
  refine lv_aload_n C.hx C.hb le_686 rfl (lv_at hl 2 rfl) ?_
  refine la_arg (k := 1) (n := n) (xs := xs) C.hx C.hb C.hX C.hbl hS hl (by omega) C.hL (by decide) ld_687 ?_
  refine la_M (i := 72) (k := 1) (d := 13) (as0 := [vI (xs (n + 1))]) (μ := 145) C e2 (by decide) ⟨by decide, rfl⟩ (ma_okI (by simp)) (Nat.le_of_ble_eq_true rfl) rfl (wi_5 _ (List.mem_of_getElem? (i := 98) rfl) rfl) (wi_5 _ (List.mem_of_getElem? (i := 99) rfl) rfl) (wi_5 _ (List.mem_of_getElem? (i := 100) rfl) rfl) (by decide +kernel) hW hS hl.1 (Nat.le_of_ble_eq_true rfl) le_692 hf (fun H locs hW hS => ?_)
  refine lv_icmp_eq (tgt := 1375) C.hx C.hb le_695 (by decide) (fun _ => ?_) (fun z => absurd rfl z)
  exact K x' y' H locs hI' hW hS
set_option maxHeartbeats 1000000 in
theorem lwc_13 (C : la_Ctx p s m meth c b L xs φ fv cA D qX qM) (hf : cells ≤ room_1.cells ∧ slots ≤ room_1.slots) {n t : Nat} {x y : ma_S} (hn : n + 6 ≤ L) (ht : t < 1000) (hI : ma_Iv t x y) (hW : la_Wd φ cA D x y H) (hS : va_S (fun q : Nat => s.heap.size ≤ q) s.heap H locs) (hl : lv_has ls 4 [(0, .ref b), (1, .ref qX), (2, .ref qM), (3, .int (nI n))]) (K : ∀ (x' y' : ma_S) (H1 : Heap) (locs1 : List Loc), ma_Iv (t + 1) x' y' → la_Wd φ cA D x' y' H1 → va_S (fun q : Nat => s.heap.size ≤ q) s.heap H1 locs1 → W p l e room_1 s m #[Value.ref b] below meth c H1 locs1 cells slots Q (F0 m 1375 ls [])) : W p l e room_1 s m #[Value.ref b] below meth c H locs cells slots Q (F0 m 700 ls []) := by
  obtain ⟨v, x', y', e1, e2, hI'⟩ := op_fault 13 t x y  hI
  obtain ⟨r, rfl⟩ := la_i (d := 13) e1 rfl
  refine lv_aload_n C.hx C.hb le_700 rfl (lv_at hl 1 rfl) ?_
  refine la_X (i := 73) (k := 0) (d := 13) (as0 := []) (μ := 73) C e1 (by decide) ⟨by decide, rfl⟩ (ma_okI (by simp)) (Nat.le_of_ble_eq_true rfl) rfl (wi_3 _ (List.mem_of_getElem? (i := 97) rfl) rfl) (wi_3 _ (List.mem_of_getElem? (i := 98) rfl) rfl) (wi_3 _ (List.mem_of_getElem? (i := 99) rfl) rfl) (by decide +kernel) hW hS hl.1 (Nat.le_of_ble_eq_true rfl) le_701 hf (fun H locs hW hS => ?_)
  refine lv_aload_n C.hx C.hb le_704 rfl (lv_at hl 2 rfl) ?_
  refine la_M (i := 77) (k := 0) (d := 13) (as0 := []) (μ := 146) C e2 (by decide) ⟨by decide, rfl⟩ (ma_okI (by simp)) (Nat.le_of_ble_eq_true rfl) rfl (wi_5 _ (List.mem_of_getElem? (i := 166) rfl) rfl) (wi_5 _ (List.mem_of_getElem? (i := 167) rfl) rfl) (wi_5 _ (List.mem_of_getElem? (i := 168) rfl) rfl) (by decide +kernel) hW hS hl.1 (Nat.le_of_ble_eq_true rfl) le_705 hf (fun H locs hW hS => ?_)
  refine lv_icmp_eq (tgt := 1375) C.hx C.hb le_708 (by decide) (fun _ => ?_) (fun z => absurd rfl z)
  exact K x' y' H locs hI' hW hS
set_option maxHeartbeats 1000000 in
theorem lwc_14 (C : la_Ctx p s m meth c b L xs φ fv cA D qX qM) (hf : cells ≤ room_1.cells ∧ slots ≤ room_1.slots) {n t : Nat} {x y : ma_S} (hn : n + 6 ≤ L) (ht : t < 1000) (hI : ma_Iv t x y) (hW : la_Wd φ cA D x y H) (hS : va_S (fun q : Nat => s.heap.size ≤ q) s.heap H locs) (hl : lv_has ls 4 [(0, .ref b), (1, .ref qX), (2, .ref qM), (3, .int (nI n))]) (K : ∀ (x' y' : ma_S) (H1 : Heap) (locs1 : List Loc), ma_Iv (t + 1) x' y' → la_Wd φ cA D x' y' H1 → va_S (fun q : Nat => s.heap.size ≤ q) s.heap H1 locs1 → W p l e room_1 s m #[Value.ref b] below meth c H1 locs1 cells slots Q (F0 m 1375 ls [])) : W p l e room_1 s m #[Value.ref b] below meth c H locs cells slots Q (F0 m 713 ls []) := by
  obtain ⟨v, x', y', e1, e2, hI'⟩ := op_takes 10 t x y (xs (n + 1)) hI
  obtain ⟨r, rfl⟩ := la_i (d := 13) e1 rfl
  refine lv_aload_n C.hx C.hb le_713 rfl (lv_at hl 1 rfl) ?_
  refine la_arg (k := 1) (n := n) (xs := xs) C.hx C.hb C.hX C.hbl hS hl (by omega) C.hL (by decide) ld_714 ?_
  refine la_X (i := 78) (k := 1) (d := 13) (as0 := [vI (xs (n + 1))]) (μ := 74) C e1 (by decide) ⟨by decide, rfl⟩ (ma_okI (by simp)) (Nat.le_of_ble_eq_true rfl) rfl (wi_3 _ (List.mem_of_getElem? (i := 101) rfl) rfl) (wi_3 _ (List.mem_of_getElem? (i := 102) rfl) rfl) (wi_3 _ (List.mem_of_getElem? (i := 103) rfl) rfl) (by decide +kernel) hW hS hl.1 (Nat.le_of_ble_eq_true rfl) le_719 hf (fun H locs hW hS => ?_)
  refine lv_aload_n C.hx C.hb le_722 rfl (lv_at hl 2 rfl) ?_
  refine la_arg (k := 1) (n := n) (xs := xs) C.hx C.hb C.hX C.hbl hS hl (by omega) C.hL (by decide) ld_723 ?_
  refine la_M (i := 81) (k := 1) (d := 13) (as0 := [vI (xs (n + 1))]) (μ := 157) C e2 (by decide) ⟨by decide, rfl⟩ (ma_okI (by simp)) (Nat.le_of_ble_eq_true rfl) rfl (wi_5 _ (List.mem_of_getElem? (i := 170) rfl) rfl) (wi_5 _ (List.mem_of_getElem? (i := 171) rfl) rfl) (wi_5 _ (List.mem_of_getElem? (i := 172) rfl) rfl) (by decide +kernel) hW hS hl.1 (Nat.le_of_ble_eq_true rfl) le_728 hf (fun H locs hW hS => ?_)
  refine lv_icmp_eq (tgt := 1375) C.hx C.hb le_731 (by decide) (fun _ => ?_) (fun z => absurd rfl z)
  exact K x' y' H locs hI' hW hS
set_option maxHeartbeats 1000000 in
theorem lwc_15 (C : la_Ctx p s m meth c b L xs φ fv cA D qX qM) (hf : cells ≤ room_1.cells ∧ slots ≤ room_1.slots) {n t : Nat} {x y : ma_S} (hn : n + 6 ≤ L) (ht : t < 1000) (hI : ma_Iv t x y) (hW : la_Wd φ cA D x y H) (hS : va_S (fun q : Nat => s.heap.size ≤ q) s.heap H locs) (hl : lv_has ls 4 [(0, .ref b), (1, .ref qX), (2, .ref qM), (3, .int (nI n))]) (K : ∀ (x' y' : ma_S) (H1 : Heap) (locs1 : List Loc), ma_Iv (t + 1) x' y' → la_Wd φ cA D x' y' H1 → va_S (fun q : Nat => s.heap.size ≤ q) s.heap H1 locs1 → W p l e room_1 s m #[Value.ref b] below meth c H1 locs1 cells slots Q (F0 m 1375 ls [])) : W p l e room_1 s m #[Value.ref b] below meth c H locs cells slots Q (F0 m 736 ls []) := by
  obtain ⟨v, x', y', e1, e2, hI'⟩ := op_may 9 t x y (xs (n + 1)) hI
  obtain ⟨r, rfl⟩ := la_i (d := 13) e1 rfl
  refine lv_aload_n C.hx C.hb le_736 rfl (lv_at hl 1 rfl) ?_
  refine la_arg (k := 1) (n := n) (xs := xs) C.hx C.hb C.hX C.hbl hS hl (by omega) C.hL (by decide) ld_737 ?_
  refine la_X (i := 82) (k := 1) (d := 13) (as0 := [vI (xs (n + 1))]) (μ := 75) C e1 (by decide) ⟨by decide, rfl⟩ (ma_okI (by simp)) (Nat.le_of_ble_eq_true rfl) rfl (wi_3 _ (List.mem_of_getElem? (i := 106) rfl) rfl) (wi_3 _ (List.mem_of_getElem? (i := 107) rfl) rfl) (wi_3 _ (List.mem_of_getElem? (i := 108) rfl) rfl) (by decide +kernel) hW hS hl.1 (Nat.le_of_ble_eq_true rfl) le_742 hf (fun H locs hW hS => ?_)
  refine lv_aload_n C.hx C.hb le_745 rfl (lv_at hl 2 rfl) ?_
  refine la_arg (k := 1) (n := n) (xs := xs) C.hx C.hb C.hX C.hbl hS hl (by omega) C.hL (by decide) ld_746 ?_
  refine la_M (i := 85) (k := 1) (d := 13) (as0 := [vI (xs (n + 1))]) (μ := 158) C e2 (by decide) ⟨by decide, rfl⟩ (ma_okI (by simp)) (Nat.le_of_ble_eq_true rfl) rfl (wi_5 _ (List.mem_of_getElem? (i := 174) rfl) rfl) (wi_5 _ (List.mem_of_getElem? (i := 175) rfl) rfl) (wi_5 _ (List.mem_of_getElem? (i := 176) rfl) rfl) (by decide +kernel) hW hS hl.1 (Nat.le_of_ble_eq_true rfl) le_751 hf (fun H locs hW hS => ?_)
  refine lv_icmp_eq (tgt := 1375) C.hx C.hb le_754 (by decide) (fun _ => ?_) (fun z => absurd rfl z)
  exact K x' y' H locs hI' hW hS
set_option maxHeartbeats 1000000 in
theorem lwc_16 (C : la_Ctx p s m meth c b L xs φ fv cA D qX qM) (hf : cells ≤ room_1.cells ∧ slots ≤ room_1.slots) {n t : Nat} {x y : ma_S} (hn : n + 6 ≤ L) (ht : t < 1000) (hI : ma_Iv t x y) (hW : la_Wd φ cA D x y H) (hS : va_S (fun q : Nat => s.heap.size ≤ q) s.heap H locs) (hl : lv_has ls 4 [(0, .ref b), (1, .ref qX), (2, .ref qM), (3, .int (nI n))]) (K : ∀ (x' y' : ma_S) (H1 : Heap) (locs1 : List Loc), ma_Iv (t + 1) x' y' → la_Wd φ cA D x' y' H1 → va_S (fun q : Nat => s.heap.size ≤ q) s.heap H1 locs1 → W p l e room_1 s m #[Value.ref b] below meth c H1 locs1 cells slots Q (F0 m 1375 ls [])) : W p l e room_1 s m #[Value.ref b] below meth c H locs cells slots Q (F0 m 759 ls []) := by
  obtain ⟨v, x', y', e1, e2, hI'⟩ := op_next 7 t x y (xs (n + 1)) hI
  obtain ⟨r, rfl⟩ := la_i (d := 13) e1 rfl
  refine lv_aload_n C.hx C.hb le_759 rfl (lv_at hl 1 rfl) ?_
  refine la_arg (k := 1) (n := n) (xs := xs) C.hx C.hb C.hX C.hbl hS hl (by omega) C.hL (by decide) ld_760 ?_
  refine la_X (i := 86) (k := 1) (d := 13) (as0 := [vI (xs (n + 1))]) (μ := 76) C e1 (by decide) ⟨by decide, rfl⟩ (ma_okI (by simp)) (Nat.le_of_ble_eq_true rfl) rfl (wi_3 _ (List.mem_of_getElem? (i := 112) rfl) rfl) (wi_3 _ (List.mem_of_getElem? (i := 113) rfl) rfl) (wi_3 _ (List.mem_of_getElem? (i := 114) rfl) rfl) (by decide +kernel) hW hS hl.1 (Nat.le_of_ble_eq_true rfl) le_765 hf (fun H locs hW hS => ?_)
  refine lv_aload_n C.hx C.hb le_768 rfl (lv_at hl 2 rfl) ?_
  refine la_arg (k := 1) (n := n) (xs := xs) C.hx C.hb C.hX C.hbl hS hl (by omega) C.hL (by decide) ld_769 ?_
  refine la_M (i := 89) (k := 1) (d := 13) (as0 := [vI (xs (n + 1))]) (μ := 162) C e2 (by decide) ⟨by decide, rfl⟩ (ma_okI (by simp)) (Nat.le_of_ble_eq_true rfl) rfl (wi_5 _ (List.mem_of_getElem? (i := 178) rfl) rfl) (wi_5 _ (List.mem_of_getElem? (i := 179) rfl) rfl) (wi_5 _ (List.mem_of_getElem? (i := 180) rfl) rfl) (by decide +kernel) hW hS hl.1 (Nat.le_of_ble_eq_true rfl) le_774 hf (fun H locs hW hS => ?_)
  refine lv_icmp_eq (tgt := 1375) C.hx C.hb le_777 (by decide) (fun _ => ?_) (fun z => absurd rfl z)
  exact K x' y' H locs hI' hW hS
set_option maxHeartbeats 1000000 in
theorem lwc_17 (C : la_Ctx p s m meth c b L xs φ fv cA D qX qM) (hf : cells ≤ room_1.cells ∧ slots ≤ room_1.slots) {n t : Nat} {x y : ma_S} (hn : n + 6 ≤ L) (ht : t < 1000) (hI : ma_Iv t x y) (hW : la_Wd φ cA D x y H) (hS : va_S (fun q : Nat => s.heap.size ≤ q) s.heap H locs) (hl : lv_has ls 4 [(0, .ref b), (1, .ref qX), (2, .ref qM), (3, .int (nI n))]) (K : ∀ (x' y' : ma_S) (H1 : Heap) (locs1 : List Loc), ma_Iv (t + 1) x' y' → la_Wd φ cA D x' y' H1 → va_S (fun q : Nat => s.heap.size ≤ q) s.heap H1 locs1 → W p l e room_1 s m #[Value.ref b] below meth c H1 locs1 cells slots Q (F0 m 1375 ls [])) : W p l e room_1 s m #[Value.ref b] below meth c H locs cells slots Q (F0 m 782 ls []) := by
  obtain ⟨v, x', y', e1, e2, hI'⟩ := op_ahead 1 t x y (xs (n + 1)) (xs (n + 2)) ht hI
  obtain ⟨r, rfl⟩ := la_i (d := 13) e1 rfl
  refine lv_aload_n C.hx C.hb le_782 rfl (lv_at hl 1 rfl) ?_
  refine la_arg (k := 1) (n := n) (xs := xs) C.hx C.hb C.hX C.hbl hS hl (by omega) C.hL (by decide) ld_783 ?_
  refine la_arg (k := 2) (n := n) (xs := xs) C.hx C.hb C.hX C.hbl hS hl (by omega) C.hL (by decide) ld_788 ?_
  refine la_X (i := 90) (k := 2) (d := 13) (as0 := [vI (xs (n + 1)), vI (xs (n + 2))]) (μ := 77) C e1 (by decide) ⟨by decide, rfl⟩ (ma_okI (by simp)) (Nat.le_of_ble_eq_true rfl) rfl (wi_3 _ (List.mem_of_getElem? (i := 123) rfl) rfl) (wi_3 _ (List.mem_of_getElem? (i := 124) rfl) rfl) (wi_3 _ (List.mem_of_getElem? (i := 125) rfl) rfl) (by decide +kernel) hW hS hl.1 (Nat.le_of_ble_eq_true rfl) le_793 hf (fun H locs hW hS => ?_)
  refine lv_aload_n C.hx C.hb le_796 rfl (lv_at hl 2 rfl) ?_
  refine la_arg (k := 1) (n := n) (xs := xs) C.hx C.hb C.hX C.hbl hS hl (by omega) C.hL (by decide) ld_797 ?_
  refine la_arg (k := 2) (n := n) (xs := xs) C.hx C.hb C.hX C.hbl hS hl (by omega) C.hL (by decide) ld_802 ?_
  refine la_M (i := 93) (k := 2) (d := 13) (as0 := [vI (xs (n + 1)), vI (xs (n + 2))]) (μ := 165) C e2 (by decide) ⟨by decide, rfl⟩ (ma_okI (by simp)) (Nat.le_of_ble_eq_true rfl) rfl (wi_5 _ (List.mem_of_getElem? (i := 194) rfl) rfl) (wi_5 _ (List.mem_of_getElem? (i := 195) rfl) rfl) (wi_5 _ (List.mem_of_getElem? (i := 196) rfl) rfl) (by decide +kernel) hW hS hl.1 (Nat.le_of_ble_eq_true rfl) le_807 hf (fun H locs hW hS => ?_)
  refine lv_icmp_eq (tgt := 1375) C.hx C.hb le_810 (by decide) (fun _ => ?_) (fun z => absurd rfl z)
  exact K x' y' H locs hI' hW hS
set_option maxHeartbeats 1000000 in
theorem lwc_18 (C : la_Ctx p s m meth c b L xs φ fv cA D qX qM) (hf : cells ≤ room_1.cells ∧ slots ≤ room_1.slots) {n t : Nat} {x y : ma_S} (hn : n + 6 ≤ L) (ht : t < 1000) (hI : ma_Iv t x y) (hW : la_Wd φ cA D x y H) (hS : va_S (fun q : Nat => s.heap.size ≤ q) s.heap H locs) (hl : lv_has ls 4 [(0, .ref b), (1, .ref qX), (2, .ref qM), (3, .int (nI n))]) (K : ∀ (x' y' : ma_S) (H1 : Heap) (locs1 : List Loc), ma_Iv (t + 1) x' y' → la_Wd φ cA D x' y' H1 → va_S (fun q : Nat => s.heap.size ≤ q) s.heap H1 locs1 → W p l e room_1 s m #[Value.ref b] below meth c H1 locs1 cells slots Q (F0 m 1375 ls [])) : W p l e room_1 s m #[Value.ref b] below meth c H locs cells slots Q (F0 m 815 ls []) := by
  obtain ⟨v, x', y', e1, e2, hI'⟩ := op_by 6 t x y (xs (n + 1)) (xs (n + 2)) ht hI
  obtain ⟨r, rfl⟩ := la_i (d := 13) e1 rfl
  refine lv_aload_n C.hx C.hb le_815 rfl (lv_at hl 1 rfl) ?_
  refine la_arg (k := 1) (n := n) (xs := xs) C.hx C.hb C.hX C.hbl hS hl (by omega) C.hL (by decide) ld_816 ?_
  refine la_arg (k := 2) (n := n) (xs := xs) C.hx C.hb C.hX C.hbl hS hl (by omega) C.hL (by decide) ld_821 ?_
  refine la_X (i := 94) (k := 2) (d := 13) (as0 := [vI (xs (n + 1)), vI (xs (n + 2))]) (μ := 78) C e1 (by decide) ⟨by decide, rfl⟩ (ma_okI (by simp)) (Nat.le_of_ble_eq_true rfl) rfl (wi_3 _ (List.mem_of_getElem? (i := 147) rfl) rfl) (wi_3 _ (List.mem_of_getElem? (i := 148) rfl) rfl) (wi_3 _ (List.mem_of_getElem? (i := 149) rfl) rfl) (by decide +kernel) hW hS hl.1 (Nat.le_of_ble_eq_true rfl) le_826 hf (fun H locs hW hS => ?_)
  refine lv_aload_n C.hx C.hb le_829 rfl (lv_at hl 2 rfl) ?_
  refine la_arg (k := 1) (n := n) (xs := xs) C.hx C.hb C.hX C.hbl hS hl (by omega) C.hL (by decide) ld_830 ?_
  refine la_arg (k := 2) (n := n) (xs := xs) C.hx C.hb C.hX C.hbl hS hl (by omega) C.hL (by decide) ld_835 ?_
  refine la_M (i := 97) (k := 2) (d := 13) (as0 := [vI (xs (n + 1)), vI (xs (n + 2))]) (μ := 173) C e2 (by decide) ⟨by decide, rfl⟩ (ma_okI (by simp)) (Nat.le_of_ble_eq_true rfl) rfl (wi_5 _ (List.mem_of_getElem? (i := 206) rfl) rfl) (wi_5 _ (List.mem_of_getElem? (i := 207) rfl) rfl) (wi_5 _ (List.mem_of_getElem? (i := 208) rfl) rfl) (by decide +kernel) hW hS hl.1 (Nat.le_of_ble_eq_true rfl) le_840 hf (fun H locs hW hS => ?_)
  refine lv_icmp_eq (tgt := 1375) C.hx C.hb le_843 (by decide) (fun _ => ?_) (fun z => absurd rfl z)
  exact K x' y' H locs hI' hW hS
set_option maxHeartbeats 1000000 in
theorem lwc_19 (C : la_Ctx p s m meth c b L xs φ fv cA D qX qM) (hf : cells ≤ room_1.cells ∧ slots ≤ room_1.slots) {n t : Nat} {x y : ma_S} (hn : n + 6 ≤ L) (ht : t < 1000) (hI : ma_Iv t x y) (hW : la_Wd φ cA D x y H) (hS : va_S (fun q : Nat => s.heap.size ≤ q) s.heap H locs) (hl : lv_has ls 4 [(0, .ref b), (1, .ref qX), (2, .ref qM), (3, .int (nI n))]) (K : ∀ (x' y' : ma_S) (H1 : Heap) (locs1 : List Loc), ma_Iv (t + 1) x' y' → la_Wd φ cA D x' y' H1 → va_S (fun q : Nat => s.heap.size ≤ q) s.heap H1 locs1 → W p l e room_1 s m #[Value.ref b] below meth c H1 locs1 cells slots Q (F0 m 1375 ls [])) : W p l e room_1 s m #[Value.ref b] below meth c H locs cells slots Q (F0 m 848 ls []) := by
  obtain ⟨v, x', y', e1, e2, hI'⟩ := op_fair 5 t x y (xs (n + 1)) ht hI
  obtain ⟨r, rfl⟩ := la_i (d := 13) e1 rfl
  refine lv_aload_n C.hx C.hb le_848 rfl (lv_at hl 1 rfl) ?_
  refine la_arg (k := 1) (n := n) (xs := xs) C.hx C.hb C.hX C.hbl hS hl (by omega) C.hL (by decide) ld_849 ?_
  refine la_X (i := 98) (k := 1) (d := 13) (as0 := [vI (xs (n + 1))]) (μ := 79) C e1 (by decide) ⟨by decide, rfl⟩ (ma_okI (by simp)) (Nat.le_of_ble_eq_true rfl) rfl (wi_3 _ (List.mem_of_getElem? (i := 196) rfl) rfl) (wi_3 _ (List.mem_of_getElem? (i := 197) rfl) rfl) (wi_3 _ (List.mem_of_getElem? (i := 198) rfl) rfl) (by decide +kernel) hW hS hl.1 (Nat.le_of_ble_eq_true rfl) le_854 hf (fun H locs hW hS => ?_)
  refine lv_aload_n C.hx C.hb le_857 rfl (lv_at hl 2 rfl) ?_
  refine la_arg (k := 1) (n := n) (xs := xs) C.hx C.hb C.hX C.hbl hS hl (by omega) C.hL (by decide) ld_858 ?_
  refine la_M (i := 101) (k := 1) (d := 13) (as0 := [vI (xs (n + 1))]) (μ := 175) C e2 (by decide) ⟨by decide, rfl⟩ (ma_okI (by simp)) (Nat.le_of_ble_eq_true rfl) rfl (wi_5 _ (List.mem_of_getElem? (i := 238) rfl) rfl) (wi_5 _ (List.mem_of_getElem? (i := 239) rfl) rfl) (wi_6 _ (List.mem_of_getElem? (i := 0) rfl) rfl) (by decide +kernel) hW hS hl.1 (Nat.le_of_ble_eq_true rfl) le_863 hf (fun H locs hW hS => ?_)
  refine lv_icmp_eq (tgt := 1375) C.hx C.hb le_866 (by decide) (fun _ => ?_) (fun z => absurd rfl z)
  exact K x' y' H locs hI' hW hS
set_option maxHeartbeats 1000000 in
theorem lwc_20 (C : la_Ctx p s m meth c b L xs φ fv cA D qX qM) (hf : cells ≤ room_1.cells ∧ slots ≤ room_1.slots) {n t : Nat} {x y : ma_S} (hn : n + 6 ≤ L) (ht : t < 1000) (hI : ma_Iv t x y) (hW : la_Wd φ cA D x y H) (hS : va_S (fun q : Nat => s.heap.size ≤ q) s.heap H locs) (hl : lv_has ls 4 [(0, .ref b), (1, .ref qX), (2, .ref qM), (3, .int (nI n))]) (K : ∀ (x' y' : ma_S) (H1 : Heap) (locs1 : List Loc), ma_Iv (t + 1) x' y' → la_Wd φ cA D x' y' H1 → va_S (fun q : Nat => s.heap.size ≤ q) s.heap H1 locs1 → W p l e room_1 s m #[Value.ref b] below meth c H1 locs1 cells slots Q (F0 m 1375 ls [])) : W p l e room_1 s m #[Value.ref b] below meth c H locs cells slots Q (F0 m 871 ls []) := by
  obtain ⟨v, x', y', e1, e2, hI'⟩ := op_best 5 t x y (xs (n + 1)) ht hI
  obtain ⟨r, rfl⟩ := la_i (d := 13) e1 rfl
  refine lv_aload_n C.hx C.hb le_871 rfl (lv_at hl 1 rfl) ?_
  refine la_arg (k := 1) (n := n) (xs := xs) C.hx C.hb C.hX C.hbl hS hl (by omega) C.hL (by decide) ld_872 ?_
  refine la_X (i := 102) (k := 1) (d := 13) (as0 := [vI (xs (n + 1))]) (μ := 80) C e1 (by decide) ⟨by decide, rfl⟩ (ma_okI (by simp)) (Nat.le_of_ble_eq_true rfl) rfl (wi_3 _ (List.mem_of_getElem? (i := 204) rfl) rfl) (wi_3 _ (List.mem_of_getElem? (i := 205) rfl) rfl) (wi_3 _ (List.mem_of_getElem? (i := 206) rfl) rfl) (by decide +kernel) hW hS hl.1 (Nat.le_of_ble_eq_true rfl) le_877 hf (fun H locs hW hS => ?_)
  refine lv_aload_n C.hx C.hb le_880 rfl (lv_at hl 2 rfl) ?_
  refine la_arg (k := 1) (n := n) (xs := xs) C.hx C.hb C.hX C.hbl hS hl (by omega) C.hL (by decide) ld_881 ?_
  refine la_M (i := 105) (k := 1) (d := 13) (as0 := [vI (xs (n + 1))]) (μ := 176) C e2 (by decide) ⟨by decide, rfl⟩ (ma_okI (by simp)) (Nat.le_of_ble_eq_true rfl) rfl (wi_6 _ (List.mem_of_getElem? (i := 6) rfl) rfl) (wi_6 _ (List.mem_of_getElem? (i := 7) rfl) rfl) (wi_6 _ (List.mem_of_getElem? (i := 8) rfl) rfl) (by decide +kernel) hW hS hl.1 (Nat.le_of_ble_eq_true rfl) le_886 hf (fun H locs hW hS => ?_)
  refine lv_icmp_eq (tgt := 1375) C.hx C.hb le_889 (by decide) (fun _ => ?_) (fun z => absurd rfl z)
  exact K x' y' H locs hI' hW hS
set_option maxHeartbeats 1000000 in
theorem lwc_21 (C : la_Ctx p s m meth c b L xs φ fv cA D qX qM) (hf : cells ≤ room_1.cells ∧ slots ≤ room_1.slots) {n t : Nat} {x y : ma_S} (hn : n + 6 ≤ L) (ht : t < 1000) (hI : ma_Iv t x y) (hW : la_Wd φ cA D x y H) (hS : va_S (fun q : Nat => s.heap.size ≤ q) s.heap H locs) (hl : lv_has ls 4 [(0, .ref b), (1, .ref qX), (2, .ref qM), (3, .int (nI n))]) (K : ∀ (x' y' : ma_S) (H1 : Heap) (locs1 : List Loc), ma_Iv (t + 1) x' y' → la_Wd φ cA D x' y' H1 → va_S (fun q : Nat => s.heap.size ≤ q) s.heap H1 locs1 → W p l e room_1 s m #[Value.ref b] below meth c H1 locs1 cells slots Q (F0 m 1375 ls [])) : W p l e room_1 s m #[Value.ref b] below meth c H locs cells slots Q (F0 m 894 ls []) := by
  obtain ⟨v, x', y', e1, e2, hI'⟩ := op_judge 8 t x y (xs (n + 1)) (xs (n + 2)) ht hI
  obtain ⟨r, rfl⟩ := la_i (d := 13) e1 rfl
  refine lv_aload_n C.hx C.hb le_894 rfl (lv_at hl 1 rfl) ?_
  refine la_arg (k := 1) (n := n) (xs := xs) C.hx C.hb C.hX C.hbl hS hl (by omega) C.hL (by decide) ld_895 ?_
  refine la_arg (k := 2) (n := n) (xs := xs) C.hx C.hb C.hX C.hbl hS hl (by omega) C.hL (by decide) ld_900 ?_
  refine la_X (i := 106) (k := 2) (d := 13) (as0 := [vI (xs (n + 1)), vI (xs (n + 2))]) (μ := 84) C e1 (by decide) ⟨by decide, rfl⟩ (ma_okI (by simp)) (Nat.le_of_ble_eq_true rfl) rfl (wi_3 _ (List.mem_of_getElem? (i := 228) rfl) rfl) (wi_3 _ (List.mem_of_getElem? (i := 229) rfl) rfl) (wi_3 _ (List.mem_of_getElem? (i := 230) rfl) rfl) (by decide +kernel) hW hS hl.1 (Nat.le_of_ble_eq_true rfl) le_905 hf (fun H locs hW hS => ?_)
  refine lv_aload_n C.hx C.hb le_908 rfl (lv_at hl 2 rfl) ?_
  refine la_arg (k := 1) (n := n) (xs := xs) C.hx C.hb C.hX C.hbl hS hl (by omega) C.hL (by decide) ld_909 ?_
  refine la_arg (k := 2) (n := n) (xs := xs) C.hx C.hb C.hX C.hbl hS hl (by omega) C.hL (by decide) ld_914 ?_
  refine la_M (i := 109) (k := 2) (d := 13) (as0 := [vI (xs (n + 1)), vI (xs (n + 2))]) (μ := 179) C e2 (by decide) ⟨by decide, rfl⟩ (ma_okI (by simp)) (Nat.le_of_ble_eq_true rfl) rfl (wi_6 _ (List.mem_of_getElem? (i := 11) rfl) rfl) (wi_6 _ (List.mem_of_getElem? (i := 12) rfl) rfl) (wi_6 _ (List.mem_of_getElem? (i := 13) rfl) rfl) (by decide +kernel) hW hS hl.1 (Nat.le_of_ble_eq_true rfl) le_919 hf (fun H locs hW hS => ?_)
  refine lv_icmp_eq (tgt := 1375) C.hx C.hb le_922 (by decide) (fun _ => ?_) (fun z => absurd rfl z)
  exact K x' y' H locs hI' hW hS
set_option maxHeartbeats 1000000 in
theorem lwc_22 (C : la_Ctx p s m meth c b L xs φ fv cA D qX qM) (hf : cells ≤ room_1.cells ∧ slots ≤ room_1.slots) {n t : Nat} {x y : ma_S} (hn : n + 6 ≤ L) (ht : t < 1000) (hI : ma_Iv t x y) (hW : la_Wd φ cA D x y H) (hS : va_S (fun q : Nat => s.heap.size ≤ q) s.heap H locs) (hl : lv_has ls 4 [(0, .ref b), (1, .ref qX), (2, .ref qM), (3, .int (nI n))]) (K : ∀ (x' y' : ma_S) (H1 : Heap) (locs1 : List Loc), ma_Iv (t + 1) x' y' → la_Wd φ cA D x' y' H1 → va_S (fun q : Nat => s.heap.size ≤ q) s.heap H1 locs1 → W p l e room_1 s m #[Value.ref b] below meth c H1 locs1 cells slots Q (F0 m 1375 ls [])) : W p l e room_1 s m #[Value.ref b] below meth c H locs cells slots Q (F0 m 927 ls []) := by
  obtain ⟨v, x', y', e1, e2, hI'⟩ := op_behind 8 t x y (xs (n + 1)) (xs (n + 2)) (xs (n + 3)) ht hI
  obtain ⟨r, rfl⟩ := la_i (d := 13) e1 rfl
  refine lv_aload_n C.hx C.hb le_927 rfl (lv_at hl 1 rfl) ?_
  refine la_arg (k := 1) (n := n) (xs := xs) C.hx C.hb C.hX C.hbl hS hl (by omega) C.hL (by decide) ld_928 ?_
  refine la_arg (k := 2) (n := n) (xs := xs) C.hx C.hb C.hX C.hbl hS hl (by omega) C.hL (by decide) ld_933 ?_
  refine la_arg (k := 3) (n := n) (xs := xs) C.hx C.hb C.hX C.hbl hS hl (by omega) C.hL (by decide) ld_938 ?_
  refine la_X (i := 110) (k := 3) (d := 13) (as0 := [vI (xs (n + 1)), vI (xs (n + 2)), vI (xs (n + 3))]) (μ := 85) C e1 (by decide) ⟨by decide, rfl⟩ (ma_okI (by simp)) (Nat.le_of_ble_eq_true rfl) rfl (wi_4 _ (List.mem_of_getElem? (i := 1) rfl) rfl) (wi_4 _ (List.mem_of_getElem? (i := 2) rfl) rfl) (wi_4 _ (List.mem_of_getElem? (i := 3) rfl) rfl) (by decide +kernel) hW hS hl.1 (Nat.le_of_ble_eq_true rfl) le_943 hf (fun H locs hW hS => ?_)
  refine lv_aload_n C.hx C.hb le_946 rfl (lv_at hl 2 rfl) ?_
  refine la_arg (k := 1) (n := n) (xs := xs) C.hx C.hb C.hX C.hbl hS hl (by omega) C.hL (by decide) ld_947 ?_
  refine la_arg (k := 2) (n := n) (xs := xs) C.hx C.hb C.hX C.hbl hS hl (by omega) C.hL (by decide) ld_952 ?_
  refine la_arg (k := 3) (n := n) (xs := xs) C.hx C.hb C.hX C.hbl hS hl (by omega) C.hL (by decide) ld_957 ?_
  refine la_M (i := 113) (k := 3) (d := 13) (as0 := [vI (xs (n + 1)), vI (xs (n + 2)), vI (xs (n + 3))]) (μ := 180) C e2 (by decide) ⟨by decide, rfl⟩ (ma_okI (by simp)) (Nat.le_of_ble_eq_true rfl) rfl (wi_6 _ (List.mem_of_getElem? (i := 35) rfl) rfl) (wi_6 _ (List.mem_of_getElem? (i := 36) rfl) rfl) (wi_6 _ (List.mem_of_getElem? (i := 37) rfl) rfl) (by decide +kernel) hW hS hl.1 (Nat.le_of_ble_eq_true rfl) le_962 hf (fun H locs hW hS => ?_)
  refine lv_icmp_eq (tgt := 1375) C.hx C.hb le_965 (by decide) (fun _ => ?_) (fun z => absurd rfl z)
  exact K x' y' H locs hI' hW hS
set_option maxHeartbeats 1000000 in
theorem lwc_23 (C : la_Ctx p s m meth c b L xs φ fv cA D qX qM) (hf : cells ≤ room_1.cells ∧ slots ≤ room_1.slots) {n t : Nat} {x y : ma_S} (hn : n + 6 ≤ L) (ht : t < 1000) (hI : ma_Iv t x y) (hW : la_Wd φ cA D x y H) (hS : va_S (fun q : Nat => s.heap.size ≤ q) s.heap H locs) (hl : lv_has ls 4 [(0, .ref b), (1, .ref qX), (2, .ref qM), (3, .int (nI n))]) (K : ∀ (x' y' : ma_S) (H1 : Heap) (locs1 : List Loc), ma_Iv (t + 1) x' y' → la_Wd φ cA D x' y' H1 → va_S (fun q : Nat => s.heap.size ≤ q) s.heap H1 locs1 → W p l e room_1 s m #[Value.ref b] below meth c H1 locs1 cells slots Q (F0 m 1375 ls [])) : W p l e room_1 s m #[Value.ref b] below meth c H locs cells slots Q (F0 m 970 ls []) := by
  obtain ⟨v, x', y', e1, e2, hI'⟩ := op_done 8 t x y (xs (n + 1)) (xs (n + 2)) ht hI
  obtain ⟨r, rfl⟩ := la_i (d := 13) e1 rfl
  refine lv_aload_n C.hx C.hb le_970 rfl (lv_at hl 1 rfl) ?_
  refine la_arg (k := 1) (n := n) (xs := xs) C.hx C.hb C.hX C.hbl hS hl (by omega) C.hL (by decide) ld_971 ?_
  refine la_arg (k := 2) (n := n) (xs := xs) C.hx C.hb C.hX C.hbl hS hl (by omega) C.hL (by decide) ld_976 ?_
  refine la_X (i := 114) (k := 2) (d := 13) (as0 := [vI (xs (n + 1)), vI (xs (n + 2))]) (μ := 86) C e1 (by decide) ⟨by decide, rfl⟩ (ma_okI (by simp)) (Nat.le_of_ble_eq_true rfl) rfl (wi_4 _ (List.mem_of_getElem? (i := 9) rfl) rfl) (wi_4 _ (List.mem_of_getElem? (i := 10) rfl) rfl) (wi_4 _ (List.mem_of_getElem? (i := 11) rfl) rfl) (by decide +kernel) hW hS hl.1 (Nat.le_of_ble_eq_true rfl) le_981 hf (fun H locs hW hS => ?_)
  refine lv_aload_n C.hx C.hb le_984 rfl (lv_at hl 2 rfl) ?_
  refine la_arg (k := 1) (n := n) (xs := xs) C.hx C.hb C.hX C.hbl hS hl (by omega) C.hL (by decide) ld_985 ?_
  refine la_arg (k := 2) (n := n) (xs := xs) C.hx C.hb C.hX C.hbl hS hl (by omega) C.hL (by decide) ld_990 ?_
  refine la_M (i := 117) (k := 2) (d := 13) (as0 := [vI (xs (n + 1)), vI (xs (n + 2))]) (μ := 181) C e2 (by decide) ⟨by decide, rfl⟩ (ma_okI (by simp)) (Nat.le_of_ble_eq_true rfl) rfl (wi_6 _ (List.mem_of_getElem? (i := 39) rfl) rfl) (wi_6 _ (List.mem_of_getElem? (i := 40) rfl) rfl) (wi_6 _ (List.mem_of_getElem? (i := 41) rfl) rfl) (by decide +kernel) hW hS hl.1 (Nat.le_of_ble_eq_true rfl) le_995 hf (fun H locs hW hS => ?_)
  refine lv_icmp_eq (tgt := 1375) C.hx C.hb le_998 (by decide) (fun _ => ?_) (fun z => absurd rfl z)
  exact K x' y' H locs hI' hW hS
set_option maxHeartbeats 1000000 in
theorem lwc_24 (C : la_Ctx p s m meth c b L xs φ fv cA D qX qM) (hf : cells ≤ room_1.cells ∧ slots ≤ room_1.slots) {n t : Nat} {x y : ma_S} (hn : n + 6 ≤ L) (ht : t < 1000) (hI : ma_Iv t x y) (hW : la_Wd φ cA D x y H) (hS : va_S (fun q : Nat => s.heap.size ≤ q) s.heap H locs) (hl : lv_has ls 4 [(0, .ref b), (1, .ref qX), (2, .ref qM), (3, .int (nI n))]) (K : ∀ (x' y' : ma_S) (H1 : Heap) (locs1 : List Loc), ma_Iv (t + 1) x' y' → la_Wd φ cA D x' y' H1 → va_S (fun q : Nat => s.heap.size ≤ q) s.heap H1 locs1 → W p l e room_1 s m #[Value.ref b] below meth c H1 locs1 cells slots Q (F0 m 1375 ls [])) : W p l e room_1 s m #[Value.ref b] below meth c H locs cells slots Q (F0 m 1003 ls []) := by
  obtain ⟨v, x', y', e1, e2, hI'⟩ := op_fits 4 t x y (xs (n + 1)) ht hI
  obtain ⟨r, rfl⟩ := la_i (d := 13) e1 rfl
  refine lv_aload_n C.hx C.hb le_1003 rfl (lv_at hl 1 rfl) ?_
  refine la_arg (k := 1) (n := n) (xs := xs) C.hx C.hb C.hX C.hbl hS hl (by omega) C.hL (by decide) ld_1004 ?_
  refine la_X (i := 118) (k := 1) (d := 13) (as0 := [vI (xs (n + 1))]) (μ := 81) C e1 (by decide) ⟨by decide, rfl⟩ (ma_okI (by simp)) (Nat.le_of_ble_eq_true rfl) rfl (wi_3 _ (List.mem_of_getElem? (i := 208) rfl) rfl) (wi_3 _ (List.mem_of_getElem? (i := 209) rfl) rfl) (wi_3 _ (List.mem_of_getElem? (i := 210) rfl) rfl) (by decide +kernel) hW hS hl.1 (Nat.le_of_ble_eq_true rfl) le_1009 hf (fun H locs hW hS => ?_)
  refine lv_aload_n C.hx C.hb le_1012 rfl (lv_at hl 2 rfl) ?_
  refine la_arg (k := 1) (n := n) (xs := xs) C.hx C.hb C.hX C.hbl hS hl (by omega) C.hL (by decide) ld_1013 ?_
  refine la_M (i := 121) (k := 1) (d := 13) (as0 := [vI (xs (n + 1))]) (μ := 183) C e2 (by decide) ⟨by decide, rfl⟩ (ma_okI (by simp)) (Nat.le_of_ble_eq_true rfl) rfl (wi_6 _ (List.mem_of_getElem? (i := 43) rfl) rfl) (wi_6 _ (List.mem_of_getElem? (i := 44) rfl) rfl) (wi_6 _ (List.mem_of_getElem? (i := 45) rfl) rfl) (by decide +kernel) hW hS hl.1 (Nat.le_of_ble_eq_true rfl) le_1018 hf (fun H locs hW hS => ?_)
  refine lv_icmp_eq (tgt := 1375) C.hx C.hb le_1021 (by decide) (fun _ => ?_) (fun z => absurd rfl z)
  exact K x' y' H locs hI' hW hS
set_option maxHeartbeats 1000000 in
theorem lwc_25 (C : la_Ctx p s m meth c b L xs φ fv cA D qX qM) (hf : cells ≤ room_1.cells ∧ slots ≤ room_1.slots) {n t : Nat} {x y : ma_S} (hn : n + 6 ≤ L) (ht : t < 1000) (hI : ma_Iv t x y) (hW : la_Wd φ cA D x y H) (hS : va_S (fun q : Nat => s.heap.size ≤ q) s.heap H locs) (hl : lv_has ls 4 [(0, .ref b), (1, .ref qX), (2, .ref qM), (3, .int (nI n))]) (K : ∀ (x' y' : ma_S) (H1 : Heap) (locs1 : List Loc), ma_Iv (t + 1) x' y' → la_Wd φ cA D x' y' H1 → va_S (fun q : Nat => s.heap.size ≤ q) s.heap H1 locs1 → W p l e room_1 s m #[Value.ref b] below meth c H1 locs1 cells slots Q (F0 m 1375 ls [])) : W p l e room_1 s m #[Value.ref b] below meth c H locs cells slots Q (F0 m 1026 ls []) := by
  obtain ⟨v, x', y', e1, e2, hI'⟩ := op_road 12 t x y (xs (n + 1)) (xs (n + 2)) (xs (n + 3)) (xs (n + 4)) (xs (n + 5)) hI
  obtain ⟨r, rfl⟩ := la_i (d := 13) e1 rfl
  refine lv_aload_n C.hx C.hb le_1026 rfl (lv_at hl 1 rfl) ?_
  refine la_arg (k := 1) (n := n) (xs := xs) C.hx C.hb C.hX C.hbl hS hl (by omega) C.hL (by decide) ld_1027 ?_
  refine la_arg (k := 2) (n := n) (xs := xs) C.hx C.hb C.hX C.hbl hS hl (by omega) C.hL (by decide) ld_1032 ?_
  refine la_arg (k := 3) (n := n) (xs := xs) C.hx C.hb C.hX C.hbl hS hl (by omega) C.hL (by decide) ld_1037 ?_
  refine la_arg (k := 4) (n := n) (xs := xs) C.hx C.hb C.hX C.hbl hS hl (by omega) C.hL (by decide) ld_1042 ?_
  refine la_arg (k := 5) (n := n) (xs := xs) C.hx C.hb C.hX C.hbl hS hl (by omega) C.hL (by decide) ld_1047 ?_
  refine la_X (i := 122) (k := 5) (d := 13) (as0 := [vI (xs (n + 1)), vI (xs (n + 2)), vI (xs (n + 3)), vI (xs (n + 4)), vI (xs (n + 5))]) (μ := 87) C e1 (by decide) ⟨by decide, rfl⟩ (ma_okI (by simp)) (Nat.le_of_ble_eq_true rfl) rfl (wi_4 _ (List.mem_of_getElem? (i := 13) rfl) rfl) (wi_4 _ (List.mem_of_getElem? (i := 14) rfl) rfl) (wi_4 _ (List.mem_of_getElem? (i := 15) rfl) rfl) (by decide +kernel) hW hS hl.1 (Nat.le_of_ble_eq_true rfl) le_1052 hf (fun H locs hW hS => ?_)
  refine lv_aload_n C.hx C.hb le_1055 rfl (lv_at hl 2 rfl) ?_
  refine la_arg (k := 1) (n := n) (xs := xs) C.hx C.hb C.hX C.hbl hS hl (by omega) C.hL (by decide) ld_1056 ?_
  refine la_arg (k := 2) (n := n) (xs := xs) C.hx C.hb C.hX C.hbl hS hl (by omega) C.hL (by decide) ld_1061 ?_
  refine la_arg (k := 3) (n := n) (xs := xs) C.hx C.hb C.hX C.hbl hS hl (by omega) C.hL (by decide) ld_1066 ?_
  refine la_arg (k := 4) (n := n) (xs := xs) C.hx C.hb C.hX C.hbl hS hl (by omega) C.hL (by decide) ld_1071 ?_
  refine la_arg (k := 5) (n := n) (xs := xs) C.hx C.hb C.hX C.hbl hS hl (by omega) C.hL (by decide) ld_1076 ?_
  refine la_M (i := 125) (k := 5) (d := 13) (as0 := [vI (xs (n + 1)), vI (xs (n + 2)), vI (xs (n + 3)), vI (xs (n + 4)), vI (xs (n + 5))]) (μ := 185) C e2 (by decide) ⟨by decide, rfl⟩ (ma_okI (by simp)) (Nat.le_of_ble_eq_true rfl) rfl (wi_6 _ (List.mem_of_getElem? (i := 51) rfl) rfl) (wi_6 _ (List.mem_of_getElem? (i := 52) rfl) rfl) (wi_6 _ (List.mem_of_getElem? (i := 53) rfl) rfl) (by decide +kernel) hW hS hl.1 (Nat.le_of_ble_eq_true rfl) le_1081 hf (fun H locs hW hS => ?_)
  refine lv_icmp_eq (tgt := 1375) C.hx C.hb le_1084 (by decide) (fun _ => ?_) (fun z => absurd rfl z)
  exact K x' y' H locs hI' hW hS
set_option maxHeartbeats 1000000 in
theorem lwc_26 (C : la_Ctx p s m meth c b L xs φ fv cA D qX qM) (hf : cells ≤ room_1.cells ∧ slots ≤ room_1.slots) {n t : Nat} {x y : ma_S} (hn : n + 6 ≤ L) (ht : t < 1000) (hI : ma_Iv t x y) (hW : la_Wd φ cA D x y H) (hS : va_S (fun q : Nat => s.heap.size ≤ q) s.heap H locs) (hl : lv_has ls 4 [(0, .ref b), (1, .ref qX), (2, .ref qM), (3, .int (nI n))]) (K : ∀ (x' y' : ma_S) (H1 : Heap) (locs1 : List Loc), ma_Iv (t + 1) x' y' → la_Wd φ cA D x' y' H1 → va_S (fun q : Nat => s.heap.size ≤ q) s.heap H1 locs1 → W p l e room_1 s m #[Value.ref b] below meth c H1 locs1 cells slots Q (F0 m 1375 ls [])) : W p l e room_1 s m #[Value.ref b] below meth c H locs cells slots Q (F0 m 1089 ls []) := by
  obtain ⟨v, x', y', e1, e2, hI'⟩ := op_pennies 6 t x y (xs (n + 1)) ht hI
  obtain ⟨r, rfl⟩ := la_i (d := 13) e1 rfl
  refine lv_aload_n C.hx C.hb le_1089 rfl (lv_at hl 1 rfl) ?_
  refine la_arg (k := 1) (n := n) (xs := xs) C.hx C.hb C.hX C.hbl hS hl (by omega) C.hL (by decide) ld_1090 ?_
  refine la_X (i := 126) (k := 1) (d := 13) (as0 := [vI (xs (n + 1))]) (μ := 82) C e1 (by decide) ⟨by decide, rfl⟩ (ma_okI (by simp)) (Nat.le_of_ble_eq_true rfl) rfl (wi_3 _ (List.mem_of_getElem? (i := 217) rfl) rfl) (wi_3 _ (List.mem_of_getElem? (i := 218) rfl) rfl) (wi_3 _ (List.mem_of_getElem? (i := 219) rfl) rfl) (by decide +kernel) hW hS hl.1 (Nat.le_of_ble_eq_true rfl) le_1095 hf (fun H locs hW hS => ?_)
  refine lv_aload_n C.hx C.hb le_1098 rfl (lv_at hl 2 rfl) ?_
  refine la_arg (k := 1) (n := n) (xs := xs) C.hx C.hb C.hX C.hbl hS hl (by omega) C.hL (by decide) ld_1099 ?_
  refine la_M (i := 129) (k := 1) (d := 13) (as0 := [vI (xs (n + 1))]) (μ := 186) C e2 (by decide) ⟨by decide, rfl⟩ (ma_okI (by simp)) (Nat.le_of_ble_eq_true rfl) rfl (wi_6 _ (List.mem_of_getElem? (i := 59) rfl) rfl) (wi_6 _ (List.mem_of_getElem? (i := 60) rfl) rfl) (wi_6 _ (List.mem_of_getElem? (i := 61) rfl) rfl) (by decide +kernel) hW hS hl.1 (Nat.le_of_ble_eq_true rfl) le_1104 hf (fun H locs hW hS => ?_)
  refine lv_icmp_eq (tgt := 1375) C.hx C.hb le_1107 (by decide) (fun _ => ?_) (fun z => absurd rfl z)
  exact K x' y' H locs hI' hW hS
set_option maxHeartbeats 1000000 in
theorem lwc_27 (C : la_Ctx p s m meth c b L xs φ fv cA D qX qM) (hf : cells ≤ room_1.cells ∧ slots ≤ room_1.slots) {n t : Nat} {x y : ma_S} (hn : n + 6 ≤ L) (ht : t < 1000) (hI : ma_Iv t x y) (hW : la_Wd φ cA D x y H) (hS : va_S (fun q : Nat => s.heap.size ≤ q) s.heap H locs) (hl : lv_has ls 4 [(0, .ref b), (1, .ref qX), (2, .ref qM), (3, .int (nI n))]) (K : ∀ (x' y' : ma_S) (H1 : Heap) (locs1 : List Loc), ma_Iv (t + 1) x' y' → la_Wd φ cA D x' y' H1 → va_S (fun q : Nat => s.heap.size ≤ q) s.heap H1 locs1 → W p l e room_1 s m #[Value.ref b] below meth c H1 locs1 cells slots Q (F0 m 1375 ls [])) : W p l e room_1 s m #[Value.ref b] below meth c H locs cells slots Q (F0 m 1112 ls []) := by
  obtain ⟨v, x', y', e1, e2, hI'⟩ := op_who 11 t x y (xs (n + 1)) hI
  obtain ⟨r, rfl⟩ := la_i (d := 13) e1 rfl
  refine lv_aload_n C.hx C.hb le_1112 rfl (lv_at hl 1 rfl) ?_
  refine la_arg (k := 1) (n := n) (xs := xs) C.hx C.hb C.hX C.hbl hS hl (by omega) C.hL (by decide) ld_1113 ?_
  refine la_X (i := 130) (k := 1) (d := 13) (as0 := [vI (xs (n + 1))]) (μ := 83) C e1 (by decide) ⟨by decide, rfl⟩ (ma_okI (by simp)) (Nat.le_of_ble_eq_true rfl) rfl (wi_3 _ (List.mem_of_getElem? (i := 221) rfl) rfl) (wi_3 _ (List.mem_of_getElem? (i := 222) rfl) rfl) (wi_3 _ (List.mem_of_getElem? (i := 223) rfl) rfl) (by decide +kernel) hW hS hl.1 (Nat.le_of_ble_eq_true rfl) le_1118 hf (fun H locs hW hS => ?_)
  refine lv_aload_n C.hx C.hb le_1121 rfl (lv_at hl 2 rfl) ?_
  refine la_arg (k := 1) (n := n) (xs := xs) C.hx C.hb C.hX C.hbl hS hl (by omega) C.hL (by decide) ld_1122 ?_
  refine la_M (i := 133) (k := 1) (d := 13) (as0 := [vI (xs (n + 1))]) (μ := 187) C e2 (by decide) ⟨by decide, rfl⟩ (ma_okI (by simp)) (Nat.le_of_ble_eq_true rfl) rfl (wi_6 _ (List.mem_of_getElem? (i := 63) rfl) rfl) (wi_6 _ (List.mem_of_getElem? (i := 64) rfl) rfl) (wi_6 _ (List.mem_of_getElem? (i := 65) rfl) rfl) (by decide +kernel) hW hS hl.1 (Nat.le_of_ble_eq_true rfl) le_1127 hf (fun H locs hW hS => ?_)
  refine lv_icmp_eq (tgt := 1375) C.hx C.hb le_1130 (by decide) (fun _ => ?_) (fun z => absurd rfl z)
  exact K x' y' H locs hI' hW hS
set_option maxHeartbeats 1000000 in
theorem lwc_28 (C : la_Ctx p s m meth c b L xs φ fv cA D qX qM) (hf : cells ≤ room_1.cells ∧ slots ≤ room_1.slots) {n t : Nat} {x y : ma_S} (hn : n + 6 ≤ L) (ht : t < 1000) (hI : ma_Iv t x y) (hW : la_Wd φ cA D x y H) (hS : va_S (fun q : Nat => s.heap.size ≤ q) s.heap H locs) (hl : lv_has ls 4 [(0, .ref b), (1, .ref qX), (2, .ref qM), (3, .int (nI n))]) (K : ∀ (x' y' : ma_S) (H1 : Heap) (locs1 : List Loc), ma_Iv (t + 1) x' y' → la_Wd φ cA D x' y' H1 → va_S (fun q : Nat => s.heap.size ≤ q) s.heap H1 locs1 → W p l e room_1 s m #[Value.ref b] below meth c H1 locs1 cells slots Q (F0 m 1375 ls [])) : W p l e room_1 s m #[Value.ref b] below meth c H locs cells slots Q (F0 m 1135 ls []) := by
  obtain ⟨v, x', y', e1, e2, hI'⟩ := op_move 9 t x y (xs (n + 1)) ht hI
  obtain ⟨r, rfl⟩ := la_i (d := 13) e1 rfl
  refine lv_aload_n C.hx C.hb le_1135 rfl (lv_at hl 1 rfl) ?_
  refine la_arg (k := 1) (n := n) (xs := xs) C.hx C.hb C.hX C.hbl hS hl (by omega) C.hL (by decide) ld_1136 ?_
  refine la_X (i := 134) (k := 1) (d := 13) (as0 := [vI (xs (n + 1))]) (μ := 88) C e1 (by decide) ⟨by decide, rfl⟩ (ma_okI (by simp)) (Nat.le_of_ble_eq_true rfl) rfl (wi_4 _ (List.mem_of_getElem? (i := 25) rfl) rfl) (wi_4 _ (List.mem_of_getElem? (i := 26) rfl) rfl) (wi_4 _ (List.mem_of_getElem? (i := 27) rfl) rfl) (by decide +kernel) hW hS hl.1 (Nat.le_of_ble_eq_true rfl) le_1141 hf (fun H locs hW hS => ?_)
  refine lv_aload_n C.hx C.hb le_1144 rfl (lv_at hl 2 rfl) ?_
  refine la_arg (k := 1) (n := n) (xs := xs) C.hx C.hb C.hX C.hbl hS hl (by omega) C.hL (by decide) ld_1145 ?_
  refine la_M (i := 137) (k := 1) (d := 13) (as0 := [vI (xs (n + 1))]) (μ := 188) C e2 (by decide) ⟨by decide, rfl⟩ (ma_okI (by simp)) (Nat.le_of_ble_eq_true rfl) rfl (wi_6 _ (List.mem_of_getElem? (i := 67) rfl) rfl) (wi_6 _ (List.mem_of_getElem? (i := 68) rfl) rfl) (wi_6 _ (List.mem_of_getElem? (i := 69) rfl) rfl) (by decide +kernel) hW hS hl.1 (Nat.le_of_ble_eq_true rfl) le_1150 hf (fun H locs hW hS => ?_)
  refine lv_icmp_eq (tgt := 1375) C.hx C.hb le_1153 (by decide) (fun _ => ?_) (fun z => absurd rfl z)
  exact K x' y' H locs hI' hW hS
set_option maxHeartbeats 1000000 in
theorem lwc_29 (C : la_Ctx p s m meth c b L xs φ fv cA D qX qM) (hf : cells ≤ room_1.cells ∧ slots ≤ room_1.slots) {n t : Nat} {x y : ma_S} (hn : n + 6 ≤ L) (ht : t < 1000) (hI : ma_Iv t x y) (hW : la_Wd φ cA D x y H) (hS : va_S (fun q : Nat => s.heap.size ≤ q) s.heap H locs) (hl : lv_has ls 4 [(0, .ref b), (1, .ref qX), (2, .ref qM), (3, .int (nI n))]) (K : ∀ (x' y' : ma_S) (H1 : Heap) (locs1 : List Loc), ma_Iv (t + 1) x' y' → la_Wd φ cA D x' y' H1 → va_S (fun q : Nat => s.heap.size ≤ q) s.heap H1 locs1 → W p l e room_1 s m #[Value.ref b] below meth c H1 locs1 cells slots Q (F0 m 1375 ls [])) : W p l e room_1 s m #[Value.ref b] below meth c H locs cells slots Q (F0 m 1158 ls []) := by
  obtain ⟨v, x', y', e1, e2, hI'⟩ := op_goes 6 t x y (xs (n + 1)) (xs (n + 2)) ht hI
  obtain ⟨r, rfl⟩ := la_i (d := 13) e1 rfl
  refine lv_aload_n C.hx C.hb le_1158 rfl (lv_at hl 1 rfl) ?_
  refine la_arg (k := 1) (n := n) (xs := xs) C.hx C.hb C.hX C.hbl hS hl (by omega) C.hL (by decide) ld_1159 ?_
  refine la_arg (k := 2) (n := n) (xs := xs) C.hx C.hb C.hX C.hbl hS hl (by omega) C.hL (by decide) ld_1164 ?_
  refine la_X (i := 138) (k := 2) (d := 13) (as0 := [vI (xs (n + 1)), vI (xs (n + 2))]) (μ := 89) C e1 (by decide) ⟨by decide, rfl⟩ (ma_okI (by simp)) (Nat.le_of_ble_eq_true rfl) rfl (wi_4 _ (List.mem_of_getElem? (i := 29) rfl) rfl) (wi_4 _ (List.mem_of_getElem? (i := 30) rfl) rfl) (wi_4 _ (List.mem_of_getElem? (i := 31) rfl) rfl) (by decide +kernel) hW hS hl.1 (Nat.le_of_ble_eq_true rfl) le_1169 hf (fun H locs hW hS => ?_)
  refine lv_aload_n C.hx C.hb le_1172 rfl (lv_at hl 2 rfl) ?_
  refine la_arg (k := 1) (n := n) (xs := xs) C.hx C.hb C.hX C.hbl hS hl (by omega) C.hL (by decide) ld_1173 ?_
  refine la_arg (k := 2) (n := n) (xs := xs) C.hx C.hb C.hX C.hbl hS hl (by omega) C.hL (by decide) ld_1178 ?_
  refine la_M (i := 141) (k := 2) (d := 13) (as0 := [vI (xs (n + 1)), vI (xs (n + 2))]) (μ := 189) C e2 (by decide) ⟨by decide, rfl⟩ (ma_okI (by simp)) (Nat.le_of_ble_eq_true rfl) rfl (wi_6 _ (List.mem_of_getElem? (i := 71) rfl) rfl) (wi_6 _ (List.mem_of_getElem? (i := 72) rfl) rfl) (wi_6 _ (List.mem_of_getElem? (i := 73) rfl) rfl) (by decide +kernel) hW hS hl.1 (Nat.le_of_ble_eq_true rfl) le_1183 hf (fun H locs hW hS => ?_)
  refine lv_icmp_eq (tgt := 1375) C.hx C.hb le_1186 (by decide) (fun _ => ?_) (fun z => absurd rfl z)
  exact K x' y' H locs hI' hW hS
set_option maxHeartbeats 1000000 in
theorem lwc_30 (C : la_Ctx p s m meth c b L xs φ fv cA D qX qM) (hf : cells ≤ room_1.cells ∧ slots ≤ room_1.slots) {n t : Nat} {x y : ma_S} (hn : n + 6 ≤ L) (ht : t < 1000) (hI : ma_Iv t x y) (hW : la_Wd φ cA D x y H) (hS : va_S (fun q : Nat => s.heap.size ≤ q) s.heap H locs) (hl : lv_has ls 4 [(0, .ref b), (1, .ref qX), (2, .ref qM), (3, .int (nI n))]) (K : ∀ (x' y' : ma_S) (H1 : Heap) (locs1 : List Loc), ma_Iv (t + 1) x' y' → la_Wd φ cA D x' y' H1 → va_S (fun q : Nat => s.heap.size ≤ q) s.heap H1 locs1 → W p l e room_1 s m #[Value.ref b] below meth c H1 locs1 cells slots Q (F0 m 1375 ls [])) : W p l e room_1 s m #[Value.ref b] below meth c H locs cells slots Q (F0 m 1191 ls []) := by
  obtain ⟨v, x', y', e1, e2, hI'⟩ := op_winter 7 t x y (xs (n + 1)) ht hI
  obtain ⟨r, rfl⟩ := la_i (d := 13) e1 rfl
  refine lv_aload_n C.hx C.hb le_1191 rfl (lv_at hl 1 rfl) ?_
  refine la_arg (k := 1) (n := n) (xs := xs) C.hx C.hb C.hX C.hbl hS hl (by omega) C.hL (by decide) ld_1192 ?_
  refine la_X (i := 142) (k := 1) (d := 13) (as0 := [vI (xs (n + 1))]) (μ := 90) C e1 (by decide) ⟨by decide, rfl⟩ (ma_okI (by simp)) (Nat.le_of_ble_eq_true rfl) rfl (wi_4 _ (List.mem_of_getElem? (i := 33) rfl) rfl) (wi_4 _ (List.mem_of_getElem? (i := 34) rfl) rfl) (wi_4 _ (List.mem_of_getElem? (i := 35) rfl) rfl) (by decide +kernel) hW hS hl.1 (Nat.le_of_ble_eq_true rfl) le_1197 hf (fun H locs hW hS => ?_)
  refine lv_aload_n C.hx C.hb le_1200 rfl (lv_at hl 2 rfl) ?_
  refine la_arg (k := 1) (n := n) (xs := xs) C.hx C.hb C.hX C.hbl hS hl (by omega) C.hL (by decide) ld_1201 ?_
  refine la_M (i := 145) (k := 1) (d := 13) (as0 := [vI (xs (n + 1))]) (μ := 191) C e2 (by decide) ⟨by decide, rfl⟩ (ma_okI (by simp)) (Nat.le_of_ble_eq_true rfl) rfl (wi_6 _ (List.mem_of_getElem? (i := 75) rfl) rfl) (wi_6 _ (List.mem_of_getElem? (i := 76) rfl) rfl) (wi_6 _ (List.mem_of_getElem? (i := 77) rfl) rfl) (by decide +kernel) hW hS hl.1 (Nat.le_of_ble_eq_true rfl) le_1206 hf (fun H locs hW hS => ?_)
  refine lv_icmp_eq (tgt := 1375) C.hx C.hb le_1209 (by decide) (fun _ => ?_) (fun z => absurd rfl z)
  exact K x' y' H locs hI' hW hS
set_option maxHeartbeats 1000000 in
theorem lwc_31 (C : la_Ctx p s m meth c b L xs φ fv cA D qX qM) (hf : cells ≤ room_1.cells ∧ slots ≤ room_1.slots) {n t : Nat} {x y : ma_S} (hn : n + 6 ≤ L) (ht : t < 1000) (hI : ma_Iv t x y) (hW : la_Wd φ cA D x y H) (hS : va_S (fun q : Nat => s.heap.size ≤ q) s.heap H locs) (hl : lv_has ls 4 [(0, .ref b), (1, .ref qX), (2, .ref qM), (3, .int (nI n))]) (K : ∀ (x' y' : ma_S) (H1 : Heap) (locs1 : List Loc), ma_Iv (t + 1) x' y' → la_Wd φ cA D x' y' H1 → va_S (fun q : Nat => s.heap.size ≤ q) s.heap H1 locs1 → W p l e room_1 s m #[Value.ref b] below meth c H1 locs1 cells slots Q (F0 m 1375 ls [])) : W p l e room_1 s m #[Value.ref b] below meth c H locs cells slots Q (F0 m 1214 ls []) := by
  obtain ⟨v, x', y', e1, e2, hI'⟩ := op_day 11 t x y (xs (n + 1)) hI
  obtain ⟨r, rfl⟩ := la_i (d := 13) e1 rfl
  refine lv_aload_n C.hx C.hb le_1214 rfl (lv_at hl 1 rfl) ?_
  refine la_arg (k := 1) (n := n) (xs := xs) C.hx C.hb C.hX C.hbl hS hl (by omega) C.hL (by decide) ld_1215 ?_
  refine la_X (i := 146) (k := 1) (d := 13) (as0 := [vI (xs (n + 1))]) (μ := 91) C e1 (by decide) ⟨by decide, rfl⟩ (ma_okI (by simp)) (Nat.le_of_ble_eq_true rfl) rfl (wi_4 _ (List.mem_of_getElem? (i := 42) rfl) rfl) (wi_4 _ (List.mem_of_getElem? (i := 43) rfl) rfl) (wi_4 _ (List.mem_of_getElem? (i := 44) rfl) rfl) (by decide +kernel) hW hS hl.1 (Nat.le_of_ble_eq_true rfl) le_1220 hf (fun H locs hW hS => ?_)
  refine lv_aload_n C.hx C.hb le_1223 rfl (lv_at hl 2 rfl) ?_
  refine la_arg (k := 1) (n := n) (xs := xs) C.hx C.hb C.hX C.hbl hS hl (by omega) C.hL (by decide) ld_1224 ?_
  refine la_M (i := 149) (k := 1) (d := 13) (as0 := [vI (xs (n + 1))]) (μ := 192) C e2 (by decide) ⟨by decide, rfl⟩ (ma_okI (by simp)) (Nat.le_of_ble_eq_true rfl) rfl (wi_6 _ (List.mem_of_getElem? (i := 84) rfl) rfl) (wi_6 _ (List.mem_of_getElem? (i := 85) rfl) rfl) (wi_6 _ (List.mem_of_getElem? (i := 86) rfl) rfl) (by decide +kernel) hW hS hl.1 (Nat.le_of_ble_eq_true rfl) le_1229 hf (fun H locs hW hS => ?_)
  refine lv_icmp_eq (tgt := 1375) C.hx C.hb le_1232 (by decide) (fun _ => ?_) (fun z => absurd rfl z)
  exact K x' y' H locs hI' hW hS
set_option maxHeartbeats 1000000 in
theorem lwc_32 (C : la_Ctx p s m meth c b L xs φ fv cA D qX qM) (hf : cells ≤ room_1.cells ∧ slots ≤ room_1.slots) {n t : Nat} {x y : ma_S} (hn : n + 6 ≤ L) (ht : t < 1000) (hI : ma_Iv t x y) (hW : la_Wd φ cA D x y H) (hS : va_S (fun q : Nat => s.heap.size ≤ q) s.heap H locs) (hl : lv_has ls 4 [(0, .ref b), (1, .ref qX), (2, .ref qM), (3, .int (nI n))]) (K : ∀ (x' y' : ma_S) (H1 : Heap) (locs1 : List Loc), ma_Iv (t + 1) x' y' → la_Wd φ cA D x' y' H1 → va_S (fun q : Nat => s.heap.size ≤ q) s.heap H1 locs1 → W p l e room_1 s m #[Value.ref b] below meth c H1 locs1 cells slots Q (F0 m 1375 ls [])) : W p l e room_1 s m #[Value.ref b] below meth c H locs cells slots Q (F0 m 1237 ls []) := by
  obtain ⟨v, x', y', e1, e2, hI'⟩ := op_seed 13 t x y (xs (n + 1)) hI
  obtain ⟨r, rfl⟩ := la_i (d := 13) e1 rfl
  refine lv_aload_n C.hx C.hb le_1237 rfl (lv_at hl 1 rfl) ?_
  refine la_arg (k := 1) (n := n) (xs := xs) C.hx C.hb C.hX C.hbl hS hl (by omega) C.hL (by decide) ld_1238 ?_
  refine la_X (i := 150) (k := 1) (d := 13) (as0 := [vI (xs (n + 1))]) (μ := 92) C e1 (by decide) ⟨by decide, rfl⟩ (ma_okI (by simp)) (Nat.le_of_ble_eq_true rfl) rfl (wi_4 _ (List.mem_of_getElem? (i := 51) rfl) rfl) (wi_4 _ (List.mem_of_getElem? (i := 52) rfl) rfl) (wi_4 _ (List.mem_of_getElem? (i := 53) rfl) rfl) (by decide +kernel) hW hS hl.1 (Nat.le_of_ble_eq_true rfl) le_1243 hf (fun H locs hW hS => ?_)
  refine lv_aload_n C.hx C.hb le_1246 rfl (lv_at hl 2 rfl) ?_
  refine la_arg (k := 1) (n := n) (xs := xs) C.hx C.hb C.hX C.hbl hS hl (by omega) C.hL (by decide) ld_1247 ?_
  refine la_M (i := 153) (k := 1) (d := 13) (as0 := [vI (xs (n + 1))]) (μ := 193) C e2 (by decide) ⟨by decide, rfl⟩ (ma_okI (by simp)) (Nat.le_of_ble_eq_true rfl) rfl (wi_6 _ (List.mem_of_getElem? (i := 88) rfl) rfl) (wi_6 _ (List.mem_of_getElem? (i := 89) rfl) rfl) (wi_6 _ (List.mem_of_getElem? (i := 90) rfl) rfl) (by decide +kernel) hW hS hl.1 (Nat.le_of_ble_eq_true rfl) le_1252 hf (fun H locs hW hS => ?_)
  refine lv_icmp_eq (tgt := 1375) C.hx C.hb le_1255 (by decide) (fun _ => ?_) (fun z => absurd rfl z)
  exact K x' y' H locs hI' hW hS
set_option maxHeartbeats 1000000 in
theorem lwc_33 (C : la_Ctx p s m meth c b L xs φ fv cA D qX qM) (hf : cells ≤ room_1.cells ∧ slots ≤ room_1.slots) {n t : Nat} {x y : ma_S} (hn : n + 6 ≤ L) (ht : t < 1000) (hI : ma_Iv t x y) (hW : la_Wd φ cA D x y H) (hS : va_S (fun q : Nat => s.heap.size ≤ q) s.heap H locs) (hl : lv_has ls 4 [(0, .ref b), (1, .ref qX), (2, .ref qM), (3, .int (nI n))]) (K : ∀ (x' y' : ma_S) (H1 : Heap) (locs1 : List Loc), ma_Iv (t + 1) x' y' → la_Wd φ cA D x' y' H1 → va_S (fun q : Nat => s.heap.size ≤ q) s.heap H1 locs1 → W p l e room_1 s m #[Value.ref b] below meth c H1 locs1 cells slots Q (F0 m 1375 ls [])) : W p l e room_1 s m #[Value.ref b] below meth c H locs cells slots Q (F0 m 1260 ls []) := by
  obtain ⟨v, x', y', e1, e2, hI'⟩ := op_act 1 t x y (xs (n + 1)) (xs (n + 2)) (xs (n + 3)) hI
  obtain ⟨r, rfl⟩ := la_i (d := 13) e1 rfl
  refine lv_aload_n C.hx C.hb le_1260 rfl (lv_at hl 1 rfl) ?_
  refine la_arg (k := 1) (n := n) (xs := xs) C.hx C.hb C.hX C.hbl hS hl (by omega) C.hL (by decide) ld_1261 ?_
  refine la_arg (k := 2) (n := n) (xs := xs) C.hx C.hb C.hX C.hbl hS hl (by omega) C.hL (by decide) ld_1266 ?_
  refine la_arg (k := 3) (n := n) (xs := xs) C.hx C.hb C.hX C.hbl hS hl (by omega) C.hL (by decide) ld_1271 ?_
  refine la_X (i := 154) (k := 3) (d := 13) (as0 := [vI (xs (n + 1)), vI (xs (n + 2)), vI (xs (n + 3))]) (μ := 93) C e1 (by decide) ⟨by decide, rfl⟩ (ma_okI (by simp)) (Nat.le_of_ble_eq_true rfl) rfl (wi_4 _ (List.mem_of_getElem? (i := 55) rfl) rfl) (wi_4 _ (List.mem_of_getElem? (i := 56) rfl) rfl) (wi_4 _ (List.mem_of_getElem? (i := 57) rfl) rfl) (by decide +kernel) hW hS hl.1 (Nat.le_of_ble_eq_true rfl) le_1276 hf (fun H locs hW hS => ?_)
  refine lv_aload_n C.hx C.hb le_1279 rfl (lv_at hl 2 rfl) ?_
  refine la_arg (k := 1) (n := n) (xs := xs) C.hx C.hb C.hX C.hbl hS hl (by omega) C.hL (by decide) ld_1280 ?_
  refine la_arg (k := 2) (n := n) (xs := xs) C.hx C.hb C.hX C.hbl hS hl (by omega) C.hL (by decide) ld_1285 ?_
  refine la_arg (k := 3) (n := n) (xs := xs) C.hx C.hb C.hX C.hbl hS hl (by omega) C.hL (by decide) ld_1290 ?_
  refine la_M (i := 157) (k := 3) (d := 13) (as0 := [vI (xs (n + 1)), vI (xs (n + 2)), vI (xs (n + 3))]) (μ := 198) C e2 (by decide) ⟨by decide, rfl⟩ (ma_okI (by simp)) (Nat.le_of_ble_eq_true rfl) rfl (wi_6 _ (List.mem_of_getElem? (i := 92) rfl) rfl) (wi_6 _ (List.mem_of_getElem? (i := 93) rfl) rfl) (wi_6 _ (List.mem_of_getElem? (i := 94) rfl) rfl) (by decide +kernel) hW hS hl.1 (Nat.le_of_ble_eq_true rfl) le_1295 hf (fun H locs hW hS => ?_)
  refine lv_icmp_eq (tgt := 1375) C.hx C.hb le_1298 (by decide) (fun _ => ?_) (fun z => absurd rfl z)
  exact K x' y' H locs hI' hW hS
set_option maxHeartbeats 1000000 in
theorem lwc_34 (C : la_Ctx p s m meth c b L xs φ fv cA D qX qM) (hf : cells ≤ room_1.cells ∧ slots ≤ room_1.slots) {n t : Nat} {x y : ma_S} (hn : n + 6 ≤ L) (ht : t < 1000) (hI : ma_Iv t x y) (hW : la_Wd φ cA D x y H) (hS : va_S (fun q : Nat => s.heap.size ≤ q) s.heap H locs) (hl : lv_has ls 4 [(0, .ref b), (1, .ref qX), (2, .ref qM), (3, .int (nI n))]) (K : ∀ (x' y' : ma_S) (H1 : Heap) (locs1 : List Loc), ma_Iv (t + 1) x' y' → la_Wd φ cA D x' y' H1 → va_S (fun q : Nat => s.heap.size ≤ q) s.heap H1 locs1 → W p l e room_1 s m #[Value.ref b] below meth c H1 locs1 cells slots Q (F0 m 1375 ls [])) : W p l e room_1 s m #[Value.ref b] below meth c H locs cells slots Q (F0 m 1303 ls []) := by
  obtain ⟨v, x', y', e1, e2, hI'⟩ := op_trace 12 t x y (xs (n + 1)) hI
  obtain ⟨r, rfl⟩ := la_i (d := 13) e1 rfl
  refine lv_aload_n C.hx C.hb le_1303 rfl (lv_at hl 1 rfl) ?_
  refine la_arg (k := 1) (n := n) (xs := xs) C.hx C.hb C.hX C.hbl hS hl (by omega) C.hL (by decide) ld_1304 ?_
  refine la_X (i := 158) (k := 1) (d := 13) (as0 := [vI (xs (n + 1))]) (μ := 94) C e1 (by decide) ⟨by decide, rfl⟩ (ma_okI (by simp)) (Nat.le_of_ble_eq_true rfl) rfl (wi_4 _ (List.mem_of_getElem? (i := 77) rfl) rfl) (wi_4 _ (List.mem_of_getElem? (i := 78) rfl) rfl) (wi_4 _ (List.mem_of_getElem? (i := 79) rfl) rfl) (by decide +kernel) hW hS hl.1 (Nat.le_of_ble_eq_true rfl) le_1309 hf (fun H locs hW hS => ?_)
  refine lv_aload_n C.hx C.hb le_1312 rfl (lv_at hl 2 rfl) ?_
  refine la_arg (k := 1) (n := n) (xs := xs) C.hx C.hb C.hX C.hbl hS hl (by omega) C.hL (by decide) ld_1313 ?_
  refine la_M (i := 161) (k := 1) (d := 13) (as0 := [vI (xs (n + 1))]) (μ := 199) C e2 (by decide) ⟨by decide, rfl⟩ (ma_okI (by simp)) (Nat.le_of_ble_eq_true rfl) rfl (wi_6 _ (List.mem_of_getElem? (i := 112) rfl) rfl) (wi_6 _ (List.mem_of_getElem? (i := 113) rfl) rfl) (wi_6 _ (List.mem_of_getElem? (i := 114) rfl) rfl) (by decide +kernel) hW hS hl.1 (Nat.le_of_ble_eq_true rfl) le_1318 hf (fun H locs hW hS => ?_)
  refine lv_icmp_eq (tgt := 1375) C.hx C.hb le_1321 (by decide) (fun _ => ?_) (fun z => absurd rfl z)
  exact K x' y' H locs hI' hW hS
set_option maxHeartbeats 1000000 in
theorem lwc_35 (C : la_Ctx p s m meth c b L xs φ fv cA D qX qM) (hf : cells ≤ room_1.cells ∧ slots ≤ room_1.slots) {n t : Nat} {x y : ma_S} (hn : n + 6 ≤ L) (ht : t < 1000) (hI : ma_Iv t x y) (hW : la_Wd φ cA D x y H) (hS : va_S (fun q : Nat => s.heap.size ≤ q) s.heap H locs) (hl : lv_has ls 4 [(0, .ref b), (1, .ref qX), (2, .ref qM), (3, .int (nI n))]) (K : ∀ (x' y' : ma_S) (H1 : Heap) (locs1 : List Loc), ma_Iv (t + 1) x' y' → la_Wd φ cA D x' y' H1 → va_S (fun q : Nat => s.heap.size ≤ q) s.heap H1 locs1 → W p l e room_1 s m #[Value.ref b] below meth c H1 locs1 cells slots Q (F0 m 1375 ls [])) : W p l e room_1 s m #[Value.ref b] below meth c H locs cells slots Q (F0 m 1326 ls []) := by
  obtain ⟨v, x', y', e1, e2, hI'⟩ := op_image 11 t x y  hI
  obtain ⟨r, rfl⟩ := la_i (d := 13) e1 rfl
  refine lv_aload_n C.hx C.hb le_1326 rfl (lv_at hl 1 rfl) ?_
  refine la_X (i := 162) (k := 0) (d := 13) (as0 := []) (μ := 95) C e1 (by decide) ⟨by decide, rfl⟩ (ma_okI (by simp)) (Nat.le_of_ble_eq_true rfl) rfl (wi_4 _ (List.mem_of_getElem? (i := 85) rfl) rfl) (wi_4 _ (List.mem_of_getElem? (i := 86) rfl) rfl) (wi_4 _ (List.mem_of_getElem? (i := 87) rfl) rfl) (by decide +kernel) hW hS hl.1 (Nat.le_of_ble_eq_true rfl) le_1327 hf (fun H locs hW hS => ?_)
  refine lv_aload_n C.hx C.hb le_1330 rfl (lv_at hl 2 rfl) ?_
  refine la_M (i := 165) (k := 0) (d := 13) (as0 := []) (μ := 200) C e2 (by decide) ⟨by decide, rfl⟩ (ma_okI (by simp)) (Nat.le_of_ble_eq_true rfl) rfl (wi_6 _ (List.mem_of_getElem? (i := 116) rfl) rfl) (wi_6 _ (List.mem_of_getElem? (i := 117) rfl) rfl) (wi_6 _ (List.mem_of_getElem? (i := 118) rfl) rfl) (by decide +kernel) hW hS hl.1 (Nat.le_of_ble_eq_true rfl) le_1331 hf (fun H locs hW hS => ?_)
  refine lv_icmp_eq (tgt := 1375) C.hx C.hb le_1334 (by decide) (fun _ => ?_) (fun z => absurd rfl z)
  exact K x' y' H locs hI' hW hS
set_option maxHeartbeats 1000000 in
theorem lwc_36 (C : la_Ctx p s m meth c b L xs φ fv cA D qX qM) (hf : cells ≤ room_1.cells ∧ slots ≤ room_1.slots) {n t : Nat} {x y : ma_S} (hn : n + 6 ≤ L) (ht : t < 1000) (hI : ma_Iv t x y) (hW : la_Wd φ cA D x y H) (hS : va_S (fun q : Nat => s.heap.size ≤ q) s.heap H locs) (hl : lv_has ls 4 [(0, .ref b), (1, .ref qX), (2, .ref qM), (3, .int (nI n))]) (K : ∀ (x' y' : ma_S) (H1 : Heap) (locs1 : List Loc), ma_Iv (t + 1) x' y' → la_Wd φ cA D x' y' H1 → va_S (fun q : Nat => s.heap.size ≤ q) s.heap H1 locs1 → W p l e room_1 s m #[Value.ref b] below meth c H1 locs1 cells slots Q (F0 m 1375 ls [])) : W p l e room_1 s m #[Value.ref b] below meth c H locs cells slots Q (F0 m 1339 ls []) := by
  obtain ⟨v, x', y', e1, e2, hI'⟩ := op_restore 11 t x y  hI
  obtain ⟨r, rfl⟩ := la_i (d := 13) e1 rfl
  refine lv_aload_n C.hx C.hb le_1339 rfl (lv_at hl 1 rfl) ?_
  refine la_X (i := 166) (k := 0) (d := 13) (as0 := []) (μ := 96) C e1 (by decide) ⟨by decide, rfl⟩ (ma_okI (by simp)) (Nat.le_of_ble_eq_true rfl) rfl (wi_4 _ (List.mem_of_getElem? (i := 89) rfl) rfl) (wi_4 _ (List.mem_of_getElem? (i := 90) rfl) rfl) (wi_4 _ (List.mem_of_getElem? (i := 91) rfl) rfl) (by decide +kernel) hW hS hl.1 (Nat.le_of_ble_eq_true rfl) le_1340 hf (fun H locs hW hS => ?_)
  refine lv_aload_n C.hx C.hb le_1343 rfl (lv_at hl 2 rfl) ?_
  refine la_M (i := 169) (k := 0) (d := 13) (as0 := []) (μ := 201) C e2 (by decide) ⟨by decide, rfl⟩ (ma_okI (by simp)) (Nat.le_of_ble_eq_true rfl) rfl (wi_6 _ (List.mem_of_getElem? (i := 120) rfl) rfl) (wi_6 _ (List.mem_of_getElem? (i := 121) rfl) rfl) (wi_6 _ (List.mem_of_getElem? (i := 122) rfl) rfl) (by decide +kernel) hW hS hl.1 (Nat.le_of_ble_eq_true rfl) le_1344 hf (fun H locs hW hS => ?_)
  refine lv_icmp_eq (tgt := 1375) C.hx C.hb le_1347 (by decide) (fun _ => ?_) (fun z => absurd rfl z)
  exact K x' y' H locs hI' hW hS
set_option maxHeartbeats 1000000 in
theorem lwc_37 (C : la_Ctx p s m meth c b L xs φ fv cA D qX qM) (hf : cells ≤ room_1.cells ∧ slots ≤ room_1.slots) {n t : Nat} {x y : ma_S} (hn : n + 6 ≤ L) (ht : t < 1000) (hI : ma_Iv t x y) (hW : la_Wd φ cA D x y H) (hS : va_S (fun q : Nat => s.heap.size ≤ q) s.heap H locs) (hl : lv_has ls 4 [(0, .ref b), (1, .ref qX), (2, .ref qM), (3, .int (nI n))]) (K : ∀ (x' y' : ma_S) (H1 : Heap) (locs1 : List Loc), ma_Iv (t + 1) x' y' → la_Wd φ cA D x' y' H1 → va_S (fun q : Nat => s.heap.size ≤ q) s.heap H1 locs1 → W p l e room_1 s m #[Value.ref b] below meth c H1 locs1 cells slots Q (F0 m 1375 ls [])) : W p l e room_1 s m #[Value.ref b] below meth c H locs cells slots Q (F0 m 1352 ls []) := by
  obtain ⟨v, x', y', e1, e2, hI'⟩ := op_status 11 t x y (xs (n + 1)) hI
  obtain ⟨r, rfl⟩ := la_i (d := 13) e1 rfl
  refine lv_aload_n C.hx C.hb le_1352 rfl (lv_at hl 1 rfl) ?_
  refine la_arg (k := 1) (n := n) (xs := xs) C.hx C.hb C.hX C.hbl hS hl (by omega) C.hL (by decide) ld_1353 ?_
  refine la_X (i := 170) (k := 1) (d := 13) (as0 := [vI (xs (n + 1))]) (μ := 97) C e1 (by decide) ⟨by decide, rfl⟩ (ma_okI (by simp)) (Nat.le_of_ble_eq_true rfl) rfl (wi_4 _ (List.mem_of_getElem? (i := 93) rfl) rfl) (wi_4 _ (List.mem_of_getElem? (i := 94) rfl) rfl) (wi_4 _ (List.mem_of_getElem? (i := 95) rfl) rfl) (by decide +kernel) hW hS hl.1 (Nat.le_of_ble_eq_true rfl) le_1358 hf (fun H locs hW hS => ?_)
  refine lv_aload_n C.hx C.hb le_1361 rfl (lv_at hl 2 rfl) ?_
  refine la_arg (k := 1) (n := n) (xs := xs) C.hx C.hb C.hX C.hbl hS hl (by omega) C.hL (by decide) ld_1362 ?_
  refine la_M (i := 173) (k := 1) (d := 13) (as0 := [vI (xs (n + 1))]) (μ := 202) C e2 (by decide) ⟨by decide, rfl⟩ (ma_okI (by simp)) (Nat.le_of_ble_eq_true rfl) rfl (wi_6 _ (List.mem_of_getElem? (i := 124) rfl) rfl) (wi_6 _ (List.mem_of_getElem? (i := 125) rfl) rfl) (wi_6 _ (List.mem_of_getElem? (i := 126) rfl) rfl) (by decide +kernel) hW hS hl.1 (Nat.le_of_ble_eq_true rfl) le_1367 hf (fun H locs hW hS => ?_)
  refine lv_icmp_eq (tgt := 1375) C.hx C.hb le_1370 (by decide) (fun _ => ?_) (fun z => absurd rfl z)
  exact K x' y' H locs hI' hW hS
end LC
