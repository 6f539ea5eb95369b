/-! PART 91 (printed by wip/whole/gen/loop.py): the law's loop, its start. -/
theorem lf_0 : decode code 0 = .ok (.new 7, 3) := by decide +kernel
theorem lf_3 : decode code 3 = .ok (.dup, 1) := by decide +kernel
theorem lf_4 : decode code 4 = .ok (.invokespecial 9, 3) := by decide +kernel
theorem lf_7 : decode code 7 = .ok (.astore_n 1, 1) := by decide +kernel
theorem lf_8 : decode code 8 = .ok (.new 10, 3) := by decide +kernel
theorem lf_11 : decode code 11 = .ok (.dup, 1) := by decide +kernel
theorem lf_12 : decode code 12 = .ok (.invokespecial 12, 3) := by decide +kernel
theorem lf_15 : decode code 15 = .ok (.astore_n 2, 1) := by decide +kernel
theorem lf_16 : decode code 16 = .ok (.iconst 0, 1) := by decide +kernel
theorem lf_17 : decode code 17 = .ok (.istore_n 3, 1) := by decide +kernel
theorem lf_18 : decode code 18 = .ok (.iload_n 3, 1) := by decide +kernel
theorem lf_19 : decode code 19 = .ok (.aload_n 0, 1) := by decide +kernel
theorem lf_20 : decode code 20 = .ok (.arraylength, 1) := by decide +kernel
theorem lf_21 : decode code 21 = .ok (.bipush 6, 2) := by decide +kernel
theorem lf_23 : decode code 23 = .ok (.isub, 1) := by decide +kernel
theorem lf_24 : decode code 24 = .ok (.if_icmp .gt 1357, 3) := by decide +kernel
theorem lf_27 : decode code 27 = .ok (.aload_n 0, 1) := by decide +kernel
theorem lf_28 : decode code 28 = .ok (.iload_n 3, 1) := by decide +kernel
theorem lf_29 : decode code 29 = .ok (.iaload, 1) := by decide +kernel
theorem lf_30 : decode code 30 = .ok (.bipush 63, 2) := by decide +kernel
theorem lf_32 : decode code 32 = .ok (.iand, 1) := by decide +kernel
theorem lf_33 : decode code 33 = .ok (.tableswitch 1342 0 37 #[167, 210, 283, 346, 380, 413, 436, 469, 502, 535, 578, 611, 644, 667, 680, 703, 726, 749, 782, 815, 838, 861, 894, 937, 970, 993, 1056, 1079, 1102, 1125, 1158, 1181, 1204, 1227, 1270, 1293, 1306, 1319], 167) := by decide +kernel
theorem lf_1375 : decode code 1375 = .ok (.iinc 3 6, 3) := by decide +kernel
theorem lf_1378 : decode code 1378 = .ok (.goto (-1360), 3) := by decide +kernel
theorem lf_1381 : decode code 1381 = .ok (.iconst 1, 1) := by decide +kernel
theorem lf_1382 : decode code 1382 = .ok (.ireturn, 1) := by decide +kernel
section LL
variable {p : Program} {l : Launch} {e : Env} {s : State} {m : MethodId} {below : List Frame} {meth : Method} {c : Code} {b L : Nat} {xs : Nat → Int32} {φ : ma_F} {fv : Value} {cA : Nat → ClassId} {D : va_G} {qX qM : Nat} {cells slots : Nat} {Q : State → Prop}
theorem la_sub6 {L n : Nat} (hL : L ≤ 3072) (hn : n ≤ L) : ((nI L - 6) < nI n) ↔ L < n + 6 := by
  have e6 : (6 : Int32).toInt = 6 := rfl
  have e1 := nI_toInt (n := L) (by omega)
  have e2 := nI_toInt (n := n) (by omega)
  rw [ma_lt, ma_sub (by rw [e1, e6]; omega) (by rw [e1, e6]; omega), e1, e2, e6]
  omega
set_option maxHeartbeats 4000000 in
theorem la_loop (C : la_Ctx p s m meth c b L xs φ fv cA D qX qM) (hf : cells ≤ room_1.cells ∧ slots ≤ room_1.slots) (KE : ∀ (H : Heap) (locs : List Loc) (ls : Array Slot), va_S (fun q : Nat => s.heap.size ≤ q) s.heap H locs → W p l e room_1 s m #[Value.ref b] below meth c H locs cells slots Q (F0 m 1381 ls [])) : ∀ (f n t : Nat) (x y : ma_S) (H : Heap) (locs : List Loc) (ls : Array Slot), L + 6 ≤ n + f → n = 6 * t → n ≤ L → ma_Iv t x y → la_Wd φ cA D x y H → va_S (fun q : Nat => s.heap.size ≤ q) s.heap H locs → lv_has ls 4 [(0, .ref b), (1, .ref qX), (2, .ref qM), (3, .int (nI n))] → W p l e room_1 s m #[Value.ref b] below meth c H locs cells slots Q (F0 m 18 ls []) := by
  intro f
  induction f with
  | zero => intro n t x y H locs ls h1 h2 h3; omega
  | succ f ih =>
    intro n t x y H locs ls h1 h2 h3 hI hW hS hl
    have hL := C.hL
    refine lv_iload_n C.hx C.hb lf_18 rfl (lv_at hl 3 rfl) ?_
    refine lv_aload_n C.hx C.hb lf_19 rfl (lv_at hl 0 rfl) ?_
    refine va_slen C.hx C.hb C.hX C.hbl (Nat.not_le.mpr C.hbl) hS lf_20 ?_
    refine lv_bipush (v := 6) C.hx C.hb lf_21 (by decide) ?_
    refine lv_isub C.hx C.hb lf_23 ?_
    refine lv_icmp_gt (tgt := 1381) C.hx C.hb lf_24 (by decide) (fun _ => KE H locs ls hS) (fun hz => ?_)
    have hn6 : n + 6 ≤ L := by
      have := (la_sub6 (L := L) (n := n) hL h3).mpr
      apply Decidable.of_not_not
      intro z
      exact hz (this (by omega))
    have ht : t < 1000 := by omega
    -- the next round
    have K1 : ∀ (x' y' : ma_S) (H1 : Heap) (locs1 : List Loc), ma_Iv (t + 1) x' y' → la_Wd φ cA D x' y' H1 → va_S (fun q : Nat => s.heap.size ≤ q) s.heap H1 locs1 → W p l e room_1 s m #[Value.ref b] below meth c H1 locs1 cells slots Q (F0 m 1375 ls []) := by
      intro x' y' H1 locs1 hI' hW' hS'
      refine lv_iinc (v := nI (n + 6)) (lv' := [(3, .int (nI (n + 6))), (0, .ref b), (1, .ref qX), (2, .ref qM)]) C.hx C.hb lf_1375 hl (k := 3) rfl (nI_add n 6) (by decide) rfl (fun ls hl => ?_)
      refine lv_goto (tgt := 18) C.hx C.hb lf_1378 (by decide) ?_
      exact ih (n + 6) (t + 1) x' y' H1 locs1 ls (by omega) (by omega) hn6 hI' hW' hS' (lv_sub hl [1, 2, 3, 0] rfl)
    refine lv_aload_n C.hx C.hb lf_27 rfl (lv_at hl 0 rfl) ?_
    refine lv_iload_n C.hx C.hb lf_28 rfl (lv_at hl 3 rfl) ?_
    refine va_sld C.hx C.hb C.hX C.hbl (Nat.not_le.mpr C.hbl) hS (vp_in_nI (by omega) (by omega)) lf_29 ?_
    refine lv_bipush (v := 63) C.hx C.hb lf_30 (by decide) ?_
    refine lv_iand C.hx C.hb lf_32 ?_
    obtain ⟨v, hv⟩ : ∃ v : Int32, v = xs (nI n).toNatClampNeg &&& 63 := ⟨_, rfl⟩
    rw [← hv]
    by_cases ho : v.toInt < 0 ∨ 37 < v.toInt
    · refine lv_tableOut (tgt := 1375) C.hx C.hb lf_33 ho (by decide) ?_
      exact K1 x y H locs (ma_Iv_s hI) hW hS
    · obtain ⟨j, hj⟩ : ∃ j : Nat, v.toInt = j := ⟨v.toInt.toNat, by omega⟩
      have hj2 : j < 38 := by omega
      have go : ∀ (off : Int) (tgt : Nat), (#[167, 210, 283, 346, 380, 413, 436, 469, 502, 535, 578, 611, 644, 667, 680, 703, 726, 749, 782, 815, 838, 861, 894, 937, 970, 993, 1056, 1079, 1102, 1125, 1158, 1181, 1204, 1227, 1270, 1293, 1306, 1319] : Array Int)[j]? = some off → ((33 : Nat) : Int) + off = (tgt : Int) → W p l e room_1 s m #[Value.ref b] below meth c H locs cells slots Q (F0 m tgt ls []) → W p l e room_1 s m #[Value.ref b] below meth c H locs cells slots Q (F0 m 33 ls [.int v]) := fun off tgt h1 h2 h3 => lv_tableIn C.hx C.hb lf_33 (by omega) (by omega) (by rw [show (v.toInt - 0).toNat = j by omega]; exact h1) h2 h3
      clear hj ho
      match j, hj2 with
      | 0, _ => exact go 167 200 rfl (by decide) (lwc_0 C hf hn6 ht hI hW hS hl K1)
      | 1, _ => exact go 210 243 rfl (by decide) (lwc_1 C hf hn6 ht hI hW hS hl K1)
      | 2, _ => exact go 283 316 rfl (by decide) (lwc_2 C hf hn6 ht hI hW hS hl K1)
      | 3, _ => exact go 346 379 rfl (by decide) (lwc_3 C hf hn6 ht hI hW hS hl K1)
      | 4, _ => exact go 380 413 rfl (by decide) (lwc_4 C hf hn6 ht hI hW hS hl K1)
      | 5, _ => exact go 413 446 rfl (by decide) (lwc_5 C hf hn6 ht hI hW hS hl K1)
      | 6, _ => exact go 436 469 rfl (by decide) (lwc_6 C hf hn6 ht hI hW hS hl K1)
      | 7, _ => exact go 469 502 rfl (by decide) (lwc_7 C hf hn6 ht hI hW hS hl K1)
      | 8, _ => exact go 502 535 rfl (by decide) (lwc_8 C hf hn6 ht hI hW hS hl K1)
      | 9, _ => exact go 535 568 rfl (by decide) (lwc_9 C hf hn6 ht hI hW hS hl K1)
      | 10, _ => exact go 578 611 rfl (by decide) (lwc_10 C hf hn6 ht hI hW hS hl K1)
      | 11, _ => exact go 611 644 rfl (by decide) (lwc_11 C hf hn6 ht hI hW hS hl K1)
      | 12, _ => exact go 644 677 rfl (by decide) (lwc_12 C hf hn6 ht hI hW hS hl K1)
      | 13, _ => exact go 667 700 rfl (by decide) (lwc_13 C hf hn6 ht hI hW hS hl K1)
      | 14, _ => exact go 680 713 rfl (by decide) (lwc_14 C hf hn6 ht hI hW hS hl K1)
      | 15, _ => exact go 703 736 rfl (by decide) (lwc_15 C hf hn6 ht hI hW hS hl K1)
      | 16, _ => exact go 726 759 rfl (by decide) (lwc_16 C hf hn6 ht hI hW hS hl K1)
      | 17, _ => exact go 749 782 rfl (by decide) (lwc_17 C hf hn6 ht hI hW hS hl K1)
      | 18, _ => exact go 782 815 rfl (by decide) (lwc_18 C hf hn6 ht hI hW hS hl K1)
      | 19, _ => exact go 815 848 rfl (by decide) (lwc_19 C hf hn6 ht hI hW hS hl K1)
      | 20, _ => exact go 838 871 rfl (by decide) (lwc_20 C hf hn6 ht hI hW hS hl K1)
      | 21, _ => exact go 861 894 rfl (by decide) (lwc_21 C hf hn6 ht hI hW hS hl K1)
      | 22, _ => exact go 894 927 rfl (by decide) (lwc_22 C hf hn6 ht hI hW hS hl K1)
      | 23, _ => exact go 937 970 rfl (by decide) (lwc_23 C hf hn6 ht hI hW hS hl K1)
      | 24, _ => exact go 970 1003 rfl (by decide) (lwc_24 C hf hn6 ht hI hW hS hl K1)
      | 25, _ => exact go 993 1026 rfl (by decide) (lwc_25 C hf hn6 ht hI hW hS hl K1)
      | 26, _ => exact go 1056 1089 rfl (by decide) (lwc_26 C hf hn6 ht hI hW hS hl K1)
      | 27, _ => exact go 1079 1112 rfl (by decide) (lwc_27 C hf hn6 ht hI hW hS hl K1)
      | 28, _ => exact go 1102 1135 rfl (by decide) (lwc_28 C hf hn6 ht hI hW hS hl K1)
      | 29, _ => exact go 1125 1158 rfl (by decide) (lwc_29 C hf hn6 ht hI hW hS hl K1)
      | 30, _ => exact go 1158 1191 rfl (by decide) (lwc_30 C hf hn6 ht hI hW hS hl K1)
      | 31, _ => exact go 1181 1214 rfl (by decide) (lwc_31 C hf hn6 ht hI hW hS hl K1)
      | 32, _ => exact go 1204 1237 rfl (by decide) (lwc_32 C hf hn6 ht hI hW hS hl K1)
      | 33, _ => exact go 1227 1260 rfl (by decide) (lwc_33 C hf hn6 ht hI hW hS hl K1)
      | 34, _ => exact go 1270 1303 rfl (by decide) (lwc_34 C hf hn6 ht hI hW hS hl K1)
      | 35, _ => exact go 1293 1326 rfl (by decide) (lwc_35 C hf hn6 ht hI hW hS hl K1)
      | 36, _ => exact go 1306 1339 rfl (by decide) (lwc_36 C hf hn6 ht hI hW hS hl K1)
      | 37, _ => exact go 1319 1352 rfl (by decide) (lwc_37 C hf hn6 ht hI hW hS hl K1)
      | j + 38, hj => exact absurd hj (by omega)
end LL
