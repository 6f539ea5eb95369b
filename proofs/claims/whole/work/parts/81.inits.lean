/-! PART 81 (printed by wip/whole/gen/inits.py): the constructors. -/
def na_ri (k : Int32) (q : Nat) (_ : Unit) : va_W := [(q, .inr (3, [.int k, .int 0, .int 0, .int 0, .int 0, .int 0, .int 0]))]
def na_hill (cA : Nat → ClassId) (q : Nat) (u : Nat → Nat) : va_W := [(q, .inr (0, [.ref (u 0), .int 0, .int 1, .int 0, .int 60, .int 0, .int 6, .int 3, .int 1, .ref (u 5)])), (u 0, .inl (cA 2, 4, .inr (.inr (.inr (.inr (fun k => some (u (k + 1)))))))), (u 5, .inl (cA 0, 40, .inl (fun _ => 0))), (u 1, .inr (3, [.int 0, .int 0, .int 0, .int 0, .int 0, .int 0, .int 0])), (u 2, .inr (3, [.int 1, .int 0, .int 0, .int 0, .int 0, .int 0, .int 0])), (u 3, .inr (3, [.int 2, .int 0, .int 0, .int 0, .int 0, .int 0, .int 0])), (u 4, .inr (3, [.int 3, .int 0, .int 0, .int 0, .int 0, .int 0, .int 0]))]
def na_sharing (cA : Nat → ClassId) (q : Nat) (u : Nat × (Nat → Nat)) : va_W := (q, .inr (4, [.ref u.1, .int 0, .int 0])) :: na_hill cA u.1 u.2
def na_reader (cA : Nat → ClassId) (q : Nat) (u : Nat × Nat × (Nat → Nat)) : va_W := (q, .inr (2, [.ref u.1, .ref u.2.1, .int 0, .int 0, .int (-1), .int 0])) :: (u.2.1, .inl (cA 0, 160, .inl (fun _ => 0))) :: na_hill cA u.1 u.2.2
def na_look (cA : Nat → ClassId) (q : Nat) (u : (Nat → Nat) × (Nat → Nat) × (Nat → Nat → Nat)) : va_W := (q, .inr (1, [.ref (u.1 0), .ref (u.1 1), .ref (u.1 2), .int 0, .int 0, .int 0])) :: (u.1 0, .inl (cA 3, 3, .inr (.inr (.inr (.inr (fun k => some (u.2.1 k))))))) :: (u.1 1, .inl (cA 0, 3, .inl (fun _ => 0))) :: (u.1 2, .inl (cA 0, 3, .inl (fun _ => 0))) :: (na_hill cA (u.2.1 2) (u.2.2 2) ++ (na_hill cA (u.2.1 1) (u.2.2 1) ++ na_hill cA (u.2.1 0) (u.2.2 0)))
def na_trace (cA : Nat → ClassId) (q : Nat) (u : Nat) : va_W := [(q, .inr (6, [.ref u, .int 0])), (u, .inl (cA 0, 20, .inl (fun _ => 0)))]
def na_shelf (cA : Nat → ClassId) (q : Nat) (u : Nat) : va_W := [(q, .inr (5, [.ref u, .int (-1), .int 0])), (u, .inl (cA 1, 160, .inr (.inl (fun _ => 0))))]
theorem nd_3_0 : decode prog_5_method_1_code 0 = .ok (.aload_n 0, 1) := by decide +kernel
theorem nd_3_1 : decode prog_5_method_1_code 1 = .ok (.invokespecial 3, 3) := by decide +kernel
theorem nd_3_4 : decode prog_5_method_1_code 4 = .ok (.aload_n 0, 1) := by decide +kernel
theorem nd_3_5 : decode prog_5_method_1_code 5 = .ok (.iload_n 1, 1) := by decide +kernel
theorem nd_3_6 : decode prog_5_method_1_code 6 = .ok (.putfield 9, 3) := by decide +kernel
theorem nd_3_9 : decode prog_5_method_1_code 9 = .ok (.return_, 1) := by decide +kernel
def ny_3 : MethodName := ⟨"OneSledgeForTwo$Rider", "<init>", "(I)V"⟩
theorem ng_3 : GoodIn ma_tb (na_ws ny_3 prog_5_method_1_code 2) := na_g (wi_1 _ (List.mem_of_getElem? (i := 35) rfl) rfl)
set_option maxHeartbeats 4000000 in
set_option maxRecDepth 100000 in
theorem nc_rider (l : Launch) (cA : Nat → ClassId) (D : va_G) (k : Int32) : na_Ct l cA D ny_3 prog_5_method_1_code 2 3 [.int 0, .int 0, .int 0, .int 0, .int 0, .int 0, .int 0] [.int k] (na_ri k) (fun _ => True) 1 12 0 0 := by
  intro h0 sz
  refine Met.ofW (cc := prog_5_method_1_code) (maxL := 2) (ret := none) (by decide) rfl ?_
  intro p e s m args below meth c s₁ B hml hv
  obtain ⟨rfl, hsz, hP, hK, hD0, hO⟩ := hv
  have hx := B.exec
  have hb := B.bytes
  have hr := B.returns
  have hts := atoms_spec (ws := na_ws ny_3 prog_5_method_1_code 2) B.pre
  have ht2 : ∀ w ∈ ma_tb, w.before ([.ref h0, .int k]).toArray s = true := fun w h => hts w (List.mem_cons_of_mem _ h)
  have hown : s.vm.findClass "OneSledgeForTwo$Rider" = some m.cls := findClass_of_methodNamed B.named
  have hlocks := B.notSynchronized
  have hin : meth.name = "<init>" := (name_of_methodNamed B.named B.method).1
  subst hsz
  have hD := hD0.self (sz := s.heap.size)
  generalize hAe : va_A [(h0, (.inr (3, [.int 0, .int 0, .int 0, .int 0, .int 0, .int 0, .int 0]) : va_E))] s.heap.size = A at hD ⊢
  have hA : ∀ q : Nat, s.heap.size ≤ q → A q := fun q h => by rw [← hAe]; exact Or.inr h
  have hS : va_S A s.heap s.heap [] := va_S.rf
  have hl := lv_entry [.ref h0, .int k] (n := 2) (Nat.le_of_ble_eq_true rfl)
  rw [lg_entry_eq]
  generalize (lg_sl [.ref h0, .int k] ++ List.replicate (2 - (lg_sl [.ref h0, .int k]).length) Slot.unset).toArray = ls at hl ⊢
  have hl : lv_has ls 2 [(0, .ref h0), (1, .int k)] := hl
  have hP : va_P D ma_cls [(h0, .inr (3, [.int 0, .int 0, .int 0, .int 0, .int 0, .int 0, .int 0]))] s.heap := hP
  refine lv_aload_n hx hb nd_3_0 rfl (lv_at hl 0 rfl) ?_
  refine W.objInit hx hb hown (ht2 _ (wi_1 _ (List.mem_of_getElem? (i := 36) rfl) rfl)) (ht2 _ (wi_1 _ (List.mem_of_getElem? (i := 22) rfl) rfl)) (ht2 _ (wi_1 _ (List.mem_of_getElem? (i := 23) rfl) rfl)) rfl (by rw [hml]; exact hl.1) rfl nd_3_1 (Nat.le_of_ble_eq_true rfl) (Nat.le_of_ble_eq_true rfl) ?_
  refine W.eq (g2 := F0 m 4 ls []) rfl ?_
  refine lv_aload_n hx hb nd_3_4 rfl (lv_at hl 0 rfl) ?_
  refine lv_iload_n hx hb nd_3_5 rfl (lv_at hl 1 rfl) ?_
  refine va_putF (D := D) (ci := 3) (v := .int k) (ty := .int) (C := "OneSledgeForTwo$Rider") (T := tf_3) (N := 7) hx hb ht2 in_3 ty_3 tyo_3 nm_3 hown hK hP hD hS 0 rfl rfl 0 (by decide) (ht2 _ (wi_1 _ (List.mem_of_getElem? (i := 37) rfl) rfl)) (fun _ h9 => h9) rfl hin rfl (by decide +kernel) rfl rfl (Nat.le_of_ble_eq_true rfl) nd_3_6 (fun H locs hP hD hS => ?_)
  have hP : va_P D ma_cls [(h0, .inr (3, [.int k, .int 0, .int 0, .int 0, .int 0, .int 0, .int 0]))] H := hP
  have hD : va_D A [(h0, .inr (3, [.int k, .int 0, .int 0, .int 0, .int 0, .int 0, .int 0]))] := hD
  exact W.vret hx hb hr (fun t ht hW => ⟨⟨(), rfl, trivial, by rw [ht]; exact hP, hD⟩, hS.F ht⟩) hS.2.2 nd_3_9
theorem nd_0_0 : decode prog_2_method_1_code 0 = .ok (.aload_n 0, 1) := by decide +kernel
theorem nd_0_1 : decode prog_2_method_1_code 1 = .ok (.invokespecial 3, 3) := by decide +kernel
theorem nd_0_4 : decode prog_2_method_1_code 4 = .ok (.aload_n 0, 1) := by decide +kernel
theorem nd_0_5 : decode prog_2_method_1_code 5 = .ok (.iconst 4, 1) := by decide +kernel
theorem nd_0_6 : decode prog_2_method_1_code 6 = .ok (.anewarray 9, 3) := by decide +kernel
theorem nd_0_9 : decode prog_2_method_1_code 9 = .ok (.putfield 11, 3) := by decide +kernel
theorem nd_0_12 : decode prog_2_method_1_code 12 = .ok (.aload_n 0, 1) := by decide +kernel
theorem nd_0_13 : decode prog_2_method_1_code 13 = .ok (.iconst 1, 1) := by decide +kernel
theorem nd_0_14 : decode prog_2_method_1_code 14 = .ok (.putfield 17, 3) := by decide +kernel
theorem nd_0_17 : decode prog_2_method_1_code 17 = .ok (.aload_n 0, 1) := by decide +kernel
theorem nd_0_18 : decode prog_2_method_1_code 18 = .ok (.bipush 60, 2) := by decide +kernel
theorem nd_0_20 : decode prog_2_method_1_code 20 = .ok (.putfield 21, 3) := by decide +kernel
theorem nd_0_23 : decode prog_2_method_1_code 23 = .ok (.aload_n 0, 1) := by decide +kernel
theorem nd_0_24 : decode prog_2_method_1_code 24 = .ok (.bipush 6, 2) := by decide +kernel
theorem nd_0_26 : decode prog_2_method_1_code 26 = .ok (.putfield 24, 3) := by decide +kernel
theorem nd_0_29 : decode prog_2_method_1_code 29 = .ok (.aload_n 0, 1) := by decide +kernel
theorem nd_0_30 : decode prog_2_method_1_code 30 = .ok (.iconst 3, 1) := by decide +kernel
theorem nd_0_31 : decode prog_2_method_1_code 31 = .ok (.putfield 27, 3) := by decide +kernel
theorem nd_0_34 : decode prog_2_method_1_code 34 = .ok (.aload_n 0, 1) := by decide +kernel
theorem nd_0_35 : decode prog_2_method_1_code 35 = .ok (.iconst 1, 1) := by decide +kernel
theorem nd_0_36 : decode prog_2_method_1_code 36 = .ok (.putfield 30, 3) := by decide +kernel
theorem nd_0_39 : decode prog_2_method_1_code 39 = .ok (.aload_n 0, 1) := by decide +kernel
theorem nd_0_40 : decode prog_2_method_1_code 40 = .ok (.bipush 40, 2) := by decide +kernel
theorem nd_0_42 : decode prog_2_method_1_code 42 = .ok (.newarray .int, 2) := by decide +kernel
theorem nd_0_44 : decode prog_2_method_1_code 44 = .ok (.putfield 33, 3) := by decide +kernel
theorem nd_0_47 : decode prog_2_method_1_code 47 = .ok (.iconst 0, 1) := by decide +kernel
theorem nd_0_48 : decode prog_2_method_1_code 48 = .ok (.istore_n 1, 1) := by decide +kernel
theorem nd_0_49 : decode prog_2_method_1_code 49 = .ok (.iload_n 1, 1) := by decide +kernel
theorem nd_0_50 : decode prog_2_method_1_code 50 = .ok (.iconst 4, 1) := by decide +kernel
theorem nd_0_51 : decode prog_2_method_1_code 51 = .ok (.if_icmp .ge 23, 3) := by decide +kernel
theorem nd_0_54 : decode prog_2_method_1_code 54 = .ok (.aload_n 0, 1) := by decide +kernel
theorem nd_0_55 : decode prog_2_method_1_code 55 = .ok (.getfield 11, 3) := by decide +kernel
theorem nd_0_58 : decode prog_2_method_1_code 58 = .ok (.iload_n 1, 1) := by decide +kernel
theorem nd_0_59 : decode prog_2_method_1_code 59 = .ok (.new 9, 3) := by decide +kernel
theorem nd_0_62 : decode prog_2_method_1_code 62 = .ok (.dup, 1) := by decide +kernel
theorem nd_0_63 : decode prog_2_method_1_code 63 = .ok (.iload_n 1, 1) := by decide +kernel
theorem nd_0_64 : decode prog_2_method_1_code 64 = .ok (.invokespecial 37, 3) := by decide +kernel
theorem nd_0_67 : decode prog_2_method_1_code 67 = .ok (.aastore, 1) := by decide +kernel
theorem nd_0_68 : decode prog_2_method_1_code 68 = .ok (.iinc 1 1, 3) := by decide +kernel
theorem nd_0_71 : decode prog_2_method_1_code 71 = .ok (.goto (-22), 3) := by decide +kernel
theorem nd_0_74 : decode prog_2_method_1_code 74 = .ok (.return_, 1) := by decide +kernel
def ny_0 : MethodName := ⟨"OneSledgeForTwo$Hill", "<init>", "()V"⟩
theorem ng_0 : GoodIn ma_tb (na_ws ny_0 prog_2_method_1_code 2) := na_g (wi_1 _ (List.mem_of_getElem? (i := 28) rfl) rfl)
set_option maxHeartbeats 4000000 in
set_option maxRecDepth 100000 in
theorem nc_hill (l : Launch) (cA : Nat → ClassId) (D : va_G) : na_Ct l cA D ny_0 prog_2_method_1_code 2 0 [.null, .int 0, .int 0, .int 0, .int 0, .int 0, .int 0, .int 0, .int 0, .null] [] (na_hill cA) (fun _ => True) 2 33 6 72 := by
  intro h0 sz
  refine Met.ofW (cc := prog_2_method_1_code) (maxL := 2) (ret := none) (by decide) rfl ?_
  intro p e s m args below meth c s₁ B hml hv
  obtain ⟨rfl, hsz, hP, hK, hD0, hO⟩ := hv
  have hx := B.exec
  have hb := B.bytes
  have hr := B.returns
  have hts := atoms_spec (ws := na_ws ny_0 prog_2_method_1_code 2) B.pre
  have ht2 : ∀ w ∈ ma_tb, w.before ([.ref h0]).toArray s = true := fun w h => hts w (List.mem_cons_of_mem _ h)
  have hown : s.vm.findClass "OneSledgeForTwo$Hill" = some m.cls := findClass_of_methodNamed B.named
  have hlocks := B.notSynchronized
  have hin : meth.name = "<init>" := (name_of_methodNamed B.named B.method).1
  subst hsz
  have hD := hD0.self (sz := s.heap.size)
  generalize hAe : va_A [(h0, (.inr (0, [.null, .int 0, .int 0, .int 0, .int 0, .int 0, .int 0, .int 0, .int 0, .null]) : va_E))] s.heap.size = A at hD ⊢
  have hA : ∀ q : Nat, s.heap.size ≤ q → A q := fun q h => by rw [← hAe]; exact Or.inr h
  have hS : va_S A s.heap s.heap [] := va_S.rf
  have hl := lv_entry [.ref h0] (n := 2) (Nat.le_of_ble_eq_true rfl)
  rw [lg_entry_eq]
  generalize (lg_sl [.ref h0] ++ List.replicate (2 - (lg_sl [.ref h0]).length) Slot.unset).toArray = ls at hl ⊢
  have hl : lv_has ls 2 [(0, .ref h0)] := hl
  have hP : va_P D ma_cls [(h0, .inr (0, [.null, .int 0, .int 0, .int 0, .int 0, .int 0, .int 0, .int 0, .int 0, .null]))] s.heap := hP
  refine lv_aload_n hx hb nd_0_0 rfl (lv_at hl 0 rfl) ?_
  refine W.objInit hx hb hown (ht2 _ (wi_1 _ (List.mem_of_getElem? (i := 29) rfl) rfl)) (ht2 _ (wi_1 _ (List.mem_of_getElem? (i := 22) rfl) rfl)) (ht2 _ (wi_1 _ (List.mem_of_getElem? (i := 23) rfl) rfl)) rfl (by rw [hml]; exact hl.1) rfl nd_0_1 (Nat.le_of_ble_eq_true rfl) (Nat.le_of_ble_eq_true rfl) ?_
  refine W.eq (g2 := F0 m 4 ls []) rfl ?_
  refine lv_aload_n hx hb nd_0_4 rfl (lv_at hl 0 rfl) ?_
  refine lv_iconst (v := 4) hx hb nd_0_5 (by decide) ?_
  refine va_newq (C := "OneSledgeForTwo$Rider") (N' := 4) hx hb hown (ht2 _ (wi_1 _ (List.mem_of_getElem? (i := 30) rfl) rfl)) hO.1 hK hP hD hS hA (by decide) (by decide) (Nat.le_of_ble_eq_true rfl) (Nat.le_of_ble_eq_true rfl) (Nat.le_of_ble_eq_true rfl) nd_0_6 (fun a6_1 c6_2 H hK1 hP hD hS => ?_)
  have e_c6_2 := na_one (c1 := cA 2) hK1 (List.mem_of_getElem? (i := 2) rfl)
  subst e_c6_2
  refine W.widen (k := 1) (n := 4) (Nat.le_of_ble_eq_true rfl) (Nat.le_of_ble_eq_true rfl) ?_
  have hP : va_P D ma_cls [(h0, .inr (0, [.null, .int 0, .int 0, .int 0, .int 0, .int 0, .int 0, .int 0, .int 0, .null])), (a6_1, .inl (cA 2, 4, .inr (.inr (.inr (.inr (fun _ => none))))))] H := hP
  have hD : va_D A [(h0, .inr (0, [.null, .int 0, .int 0, .int 0, .int 0, .int 0, .int 0, .int 0, .int 0, .null])), (a6_1, .inl (cA 2, 4, .inr (.inr (.inr (.inr (fun _ => none))))))] := hD
  refine va_putF (D := D) (ci := 0) (v := .ref a6_1) (ty := .array (.object "OneSledgeForTwo$Rider")) (C := "OneSledgeForTwo$Hill") (T := tf_0) (N := 10) hx hb ht2 in_0 ty_0 tyo_0 nm_0 hown hK hP hD hS 0 rfl rfl 0 (by decide) (ht2 _ (wi_1 _ (List.mem_of_getElem? (i := 72) rfl) rfl)) (fun _ h9 => h9) rfl hin rfl (by decide +kernel) rfl rfl (Nat.le_of_ble_eq_true rfl) nd_0_9 (fun H locs hP hD hS => ?_)
  have hP : va_P D ma_cls [(h0, .inr (0, [.ref a6_1, .int 0, .int 0, .int 0, .int 0, .int 0, .int 0, .int 0, .int 0, .null])), (a6_1, .inl (cA 2, 4, .inr (.inr (.inr (.inr (fun _ => none))))))] H := hP
  have hD : va_D A [(h0, .inr (0, [.ref a6_1, .int 0, .int 0, .int 0, .int 0, .int 0, .int 0, .int 0, .int 0, .null])), (a6_1, .inl (cA 2, 4, .inr (.inr (.inr (.inr (fun _ => none))))))] := hD
  refine lv_aload_n hx hb nd_0_12 rfl (lv_at hl 0 rfl) ?_
  refine lv_iconst (v := 1) hx hb nd_0_13 (by decide) ?_
  refine va_put (D := D) (ci := 0) (v := .int 1) (ty := .int) (C := "OneSledgeForTwo$Hill") (T := tf_0) (N := 10) hx hb ht2 in_0 ty_0 tyo_0 nm_0 hown hK hP hD hS 0 rfl rfl 2 (by decide) (ht2 _ (wi_1 _ (List.mem_of_getElem? (i := 80) rfl) rfl)) (fun _ h9 => h9) rfl (by decide +kernel) rfl rfl (Nat.le_of_ble_eq_true rfl) nd_0_14 (fun H locs hP hD hS => ?_)
  have hP : va_P D ma_cls [(h0, .inr (0, [.ref a6_1, .int 0, .int 1, .int 0, .int 0, .int 0, .int 0, .int 0, .int 0, .null])), (a6_1, .inl (cA 2, 4, .inr (.inr (.inr (.inr (fun _ => none))))))] H := hP
  have hD : va_D A [(h0, .inr (0, [.ref a6_1, .int 0, .int 1, .int 0, .int 0, .int 0, .int 0, .int 0, .int 0, .null])), (a6_1, .inl (cA 2, 4, .inr (.inr (.inr (.inr (fun _ => none))))))] := hD
  refine lv_aload_n hx hb nd_0_17 rfl (lv_at hl 0 rfl) ?_
  refine lv_bipush (v := 60) hx hb nd_0_18 (by decide) ?_
  refine va_put (D := D) (ci := 0) (v := .int 60) (ty := .int) (C := "OneSledgeForTwo$Hill") (T := tf_0) (N := 10) hx hb ht2 in_0 ty_0 tyo_0 nm_0 hown hK hP hD hS 0 rfl rfl 4 (by decide) (ht2 _ (wi_1 _ (List.mem_of_getElem? (i := 86) rfl) rfl)) (fun _ h9 => h9) rfl (by decide +kernel) rfl rfl (Nat.le_of_ble_eq_true rfl) nd_0_20 (fun H locs hP hD hS => ?_)
  have hP : va_P D ma_cls [(h0, .inr (0, [.ref a6_1, .int 0, .int 1, .int 0, .int 60, .int 0, .int 0, .int 0, .int 0, .null])), (a6_1, .inl (cA 2, 4, .inr (.inr (.inr (.inr (fun _ => none))))))] H := hP
  have hD : va_D A [(h0, .inr (0, [.ref a6_1, .int 0, .int 1, .int 0, .int 60, .int 0, .int 0, .int 0, .int 0, .null])), (a6_1, .inl (cA 2, 4, .inr (.inr (.inr (.inr (fun _ => none))))))] := hD
  refine lv_aload_n hx hb nd_0_23 rfl (lv_at hl 0 rfl) ?_
  refine lv_bipush (v := 6) hx hb nd_0_24 (by decide) ?_
  refine va_put (D := D) (ci := 0) (v := .int 6) (ty := .int) (C := "OneSledgeForTwo$Hill") (T := tf_0) (N := 10) hx hb ht2 in_0 ty_0 tyo_0 nm_0 hown hK hP hD hS 0 rfl rfl 6 (by decide) (ht2 _ (wi_1 _ (List.mem_of_getElem? (i := 93) rfl) rfl)) (fun _ h9 => h9) rfl (by decide +kernel) rfl rfl (Nat.le_of_ble_eq_true rfl) nd_0_26 (fun H locs hP hD hS => ?_)
  have hP : va_P D ma_cls [(h0, .inr (0, [.ref a6_1, .int 0, .int 1, .int 0, .int 60, .int 0, .int 6, .int 0, .int 0, .null])), (a6_1, .inl (cA 2, 4, .inr (.inr (.inr (.inr (fun _ => none))))))] H := hP
  have hD : va_D A [(h0, .inr (0, [.ref a6_1, .int 0, .int 1, .int 0, .int 60, .int 0, .int 6, .int 0, .int 0, .null])), (a6_1, .inl (cA 2, 4, .inr (.inr (.inr (.inr (fun _ => none))))))] := hD
  refine lv_aload_n hx hb nd_0_29 rfl (lv_at hl 0 rfl) ?_
  refine lv_iconst (v := 3) hx hb nd_0_30 (by decide) ?_
  refine va_put (D := D) (ci := 0) (v := .int 3) (ty := .int) (C := "OneSledgeForTwo$Hill") (T := tf_0) (N := 10) hx hb ht2 in_0 ty_0 tyo_0 nm_0 hown hK hP hD hS 0 rfl rfl 7 (by decide) (ht2 _ (wi_1 _ (List.mem_of_getElem? (i := 96) rfl) rfl)) (fun _ h9 => h9) rfl (by decide +kernel) rfl rfl (Nat.le_of_ble_eq_true rfl) nd_0_31 (fun H locs hP hD hS => ?_)
  have hP : va_P D ma_cls [(h0, .inr (0, [.ref a6_1, .int 0, .int 1, .int 0, .int 60, .int 0, .int 6, .int 3, .int 0, .null])), (a6_1, .inl (cA 2, 4, .inr (.inr (.inr (.inr (fun _ => none))))))] H := hP
  have hD : va_D A [(h0, .inr (0, [.ref a6_1, .int 0, .int 1, .int 0, .int 60, .int 0, .int 6, .int 3, .int 0, .null])), (a6_1, .inl (cA 2, 4, .inr (.inr (.inr (.inr (fun _ => none))))))] := hD
  refine lv_aload_n hx hb nd_0_34 rfl (lv_at hl 0 rfl) ?_
  refine lv_iconst (v := 1) hx hb nd_0_35 (by decide) ?_
  refine va_put (D := D) (ci := 0) (v := .int 1) (ty := .int) (C := "OneSledgeForTwo$Hill") (T := tf_0) (N := 10) hx hb ht2 in_0 ty_0 tyo_0 nm_0 hown hK hP hD hS 0 rfl rfl 8 (by decide) (ht2 _ (wi_1 _ (List.mem_of_getElem? (i := 99) rfl) rfl)) (fun _ h9 => h9) rfl (by decide +kernel) rfl rfl (Nat.le_of_ble_eq_true rfl) nd_0_36 (fun H locs hP hD hS => ?_)
  have hP : va_P D ma_cls [(h0, .inr (0, [.ref a6_1, .int 0, .int 1, .int 0, .int 60, .int 0, .int 6, .int 3, .int 1, .null])), (a6_1, .inl (cA 2, 4, .inr (.inr (.inr (.inr (fun _ => none))))))] H := hP
  have hD : va_D A [(h0, .inr (0, [.ref a6_1, .int 0, .int 1, .int 0, .int 60, .int 0, .int 6, .int 3, .int 1, .null])), (a6_1, .inl (cA 2, 4, .inr (.inr (.inr (.inr (fun _ => none))))))] := hD
  refine lv_aload_n hx hb nd_0_39 rfl (lv_at hl 0 rfl) ?_
  refine lv_bipush (v := 40) hx hb nd_0_40 (by decide) ?_
  refine va_newa (atype := .int) (ty := .int) (a0 := (40, .inl (fun _ => 0))) hx hb (ht2 _ (wi_1 _ (List.mem_of_getElem? (i := 71) rfl) rfl)) rfl hK hP hD hS hA (fun _ => rfl) (by decide) (by decide) (Nat.le_of_ble_eq_true rfl) (Nat.le_of_ble_eq_true rfl) (Nat.le_of_ble_eq_true rfl) nd_0_42 (fun a42_3 c42_4 H hK1 hP hD hS => ?_)
  have e_c42_4 := na_one (c1 := cA 0) hK1 List.mem_cons_self
  subst e_c42_4
  refine W.widen (k := 2) (n := 44) (Nat.le_of_ble_eq_true rfl) (Nat.le_of_ble_eq_true rfl) ?_
  have hP : va_P D ma_cls [(h0, .inr (0, [.ref a6_1, .int 0, .int 1, .int 0, .int 60, .int 0, .int 6, .int 3, .int 1, .null])), (a6_1, .inl (cA 2, 4, .inr (.inr (.inr (.inr (fun _ => none)))))), (a42_3, .inl (cA 0, 40, .inl (fun _ => 0)))] H := hP
  have hD : va_D A [(h0, .inr (0, [.ref a6_1, .int 0, .int 1, .int 0, .int 60, .int 0, .int 6, .int 3, .int 1, .null])), (a6_1, .inl (cA 2, 4, .inr (.inr (.inr (.inr (fun _ => none)))))), (a42_3, .inl (cA 0, 40, .inl (fun _ => 0)))] := hD
  refine va_putF (D := D) (ci := 0) (v := .ref a42_3) (ty := .array .int) (C := "OneSledgeForTwo$Hill") (T := tf_0) (N := 10) hx hb ht2 in_0 ty_0 tyo_0 nm_0 hown hK hP hD hS 0 rfl rfl 9 (by decide) (ht2 _ (wi_1 _ (List.mem_of_getElem? (i := 101) rfl) rfl)) (fun _ h9 => h9) rfl hin rfl (by decide +kernel) rfl rfl (Nat.le_of_ble_eq_true rfl) nd_0_44 (fun H locs hP hD hS => ?_)
  have hP : va_P D ma_cls [(h0, .inr (0, [.ref a6_1, .int 0, .int 1, .int 0, .int 60, .int 0, .int 6, .int 3, .int 1, .ref a42_3])), (a6_1, .inl (cA 2, 4, .inr (.inr (.inr (.inr (fun _ => none)))))), (a42_3, .inl (cA 0, 40, .inl (fun _ => 0)))] H := hP
  have hD : va_D A [(h0, .inr (0, [.ref a6_1, .int 0, .int 1, .int 0, .int 60, .int 0, .int 6, .int 3, .int 1, .ref a42_3])), (a6_1, .inl (cA 2, 4, .inr (.inr (.inr (.inr (fun _ => none)))))), (a42_3, .inl (cA 0, 40, .inl (fun _ => 0)))] := hD
  refine lv_iconst (v := 0) hx hb nd_0_47 (by decide) ?_
  refine lv_istore_n (lv' := [(1, .int 0), (0, .ref h0)]) hx hb nd_0_48 rfl hl (by decide) rfl (fun ls hl => ?_)
  refine lv_iload_n hx hb nd_0_49 rfl (lv_at hl 0 rfl) ?_
  refine lv_iconst (v := 4) hx hb nd_0_50 (by decide) ?_
  refine lv_icmp_ge (tgt := 74) hx hb nd_0_51 (by decide) (fun z => absurd z (by decide)) (fun _ => ?_)
  refine lv_aload_n hx hb nd_0_54 rfl (lv_at hl 1 rfl) ?_
  refine va_get (D := D) (ci := 0) (v := .ref a6_1) (C := "OneSledgeForTwo$Hill") (T := tf_0) (N := 10) hx hb ht2 in_0 hown hK hP 0 rfl rfl 0 (by decide) (ht2 _ (wi_1 _ (List.mem_of_getElem? (i := 72) rfl) rfl)) (fun _ h9 => h9) rfl nd_0_55 ?_
  refine lv_iload_n hx hb nd_0_58 rfl (lv_at hl 0 rfl) ?_
  refine va_new (ci := 3) (fs := [.int 0, .int 0, .int 0, .int 0, .int 0, .int 0, .int 0]) (C := "OneSledgeForTwo$Rider") (T := tf_3) (N := 7) hx hb ht2 in_3 ty_3 tyo_3 hown (ht2 _ (wi_1 _ (List.mem_of_getElem? (i := 30) rfl) rfl)) (ht2 _ (wi_1 _ (List.mem_of_getElem? (i := 32) rfl) rfl)) (ht2 _ (wi_1 _ (List.mem_of_getElem? (i := 3) rfl) rfl)) hK hP hD hS hA rfl (fun j hj => match j, hj with
    | 0, _ => rfl
    | 1, _ => rfl
    | 2, _ => rfl
    | 3, _ => rfl
    | 4, _ => rfl
    | 5, _ => rfl
    | 6, _ => rfl
    | j + 7, hj => absurd hj (by omega)) (Nat.le_of_ble_eq_true rfl) (Nat.le_of_ble_eq_true rfl) nd_0_59 (fun q59_5 H hP hD hS => ?_)
  refine W.widen (k := 3) (n := 51) (Nat.le_of_ble_eq_true rfl) (Nat.le_of_ble_eq_true rfl) ?_
  refine lv_dup hx hb nd_0_62 rfl ?_
  refine lv_iload_n hx hb nd_0_63 rfl (lv_at hl 0 rfl) ?_
  refine na_init (ws := [(h0, .inr (0, [.ref a6_1, .int 0, .int 1, .int 0, .int 60, .int 0, .int 6, .int 3, .int 1, .ref a42_3])), (a6_1, .inl (cA 2, 4, .inr (.inr (.inr (.inr (fun _ => none)))))), (a42_3, .inl (cA 0, 40, .inl (fun _ => 0)))]) (As := [.int 0]) (q := q59_5) (cc := prog_2_method_1_code) (own := "OneSledgeForTwo$Hill") (nc_rider l cA D (0)) ⟨hx, hb, hml, hown, ht2⟩ rfl ng_3 (wi_1 _ (List.mem_of_getElem? (i := 3) rfl) rfl) (Or.inl (wi_1 _ (List.mem_of_getElem? (i := 33) rfl) rfl)) (wi_1 _ (List.mem_of_getElem? (i := 34) rfl) rfl) ⟨rfl, by decide, by decide, by decide +kernel⟩ ⟨Nat.le_of_ble_eq_true rfl, Nat.le_of_ble_eq_true rfl⟩ hK hO hP hD hS hA hl.1 (Nat.le_of_ble_eq_true rfl) nd_0_64 ⟨Nat.le_of_ble_eq_true rfl, Nat.le_of_ble_eq_true rfl⟩ (fun u64_6 H locs _ hP hD hS => ?_)
  refine W.widen (k := 3) (n := 51) (Nat.le_of_ble_eq_true rfl) (Nat.le_of_ble_eq_true rfl) ?_
  have hP : va_P D ma_cls [(h0, .inr (0, [.ref a6_1, .int 0, .int 1, .int 0, .int 60, .int 0, .int 6, .int 3, .int 1, .ref a42_3])), (a6_1, .inl (cA 2, 4, .inr (.inr (.inr (.inr (fun _ => none)))))), (a42_3, .inl (cA 0, 40, .inl (fun _ => 0))), (q59_5, .inr (3, [.int 0, .int 0, .int 0, .int 0, .int 0, .int 0, .int 0]))] H := hP
  have hD : va_D A [(h0, .inr (0, [.ref a6_1, .int 0, .int 1, .int 0, .int 60, .int 0, .int 6, .int 3, .int 1, .ref a42_3])), (a6_1, .inl (cA 2, 4, .inr (.inr (.inr (.inr (fun _ => none)))))), (a42_3, .inl (cA 0, 40, .inl (fun _ => 0))), (q59_5, .inr (3, [.int 0, .int 0, .int 0, .int 0, .int 0, .int 0, .int 0]))] := hD
  refine va_astq hx hb hK hP hD hS 1 2 3 3 rfl rfl rfl rfl (by unfold vp_in; decide) nd_0_67 (fun H locs hP hD hS => ?_)
  have hP : va_P D ma_cls [(h0, .inr (0, [.ref a6_1, .int 0, .int 1, .int 0, .int 60, .int 0, .int 6, .int 3, .int 1, .ref a42_3])), (a6_1, .inl (cA 2, 4, .inr (.inr (.inr (.inr (va_up (fun _ => none) (0 : Int32).toNatClampNeg (some q59_5))))))), (a42_3, .inl (cA 0, 40, .inl (fun _ => 0))), (q59_5, .inr (3, [.int 0, .int 0, .int 0, .int 0, .int 0, .int 0, .int 0]))] H := hP
  have hD : va_D A [(h0, .inr (0, [.ref a6_1, .int 0, .int 1, .int 0, .int 60, .int 0, .int 6, .int 3, .int 1, .ref a42_3])), (a6_1, .inl (cA 2, 4, .inr (.inr (.inr (.inr (va_up (fun _ => none) (0 : Int32).toNatClampNeg (some q59_5))))))), (a42_3, .inl (cA 0, 40, .inl (fun _ => 0))), (q59_5, .inr (3, [.int 0, .int 0, .int 0, .int 0, .int 0, .int 0, .int 0]))] := hD
  refine lv_iinc (v := 1) (lv' := [(1, .int 1), (0, .ref h0)]) hx hb nd_0_68 hl (k := 0) rfl (by decide) (by decide) rfl (fun ls hl => ?_)
  refine lv_goto (tgt := 49) hx hb nd_0_71 (by decide) ?_
  refine lv_iload_n hx hb nd_0_49 rfl (lv_at hl 0 rfl) ?_
  refine lv_iconst (v := 4) hx hb nd_0_50 (by decide) ?_
  refine lv_icmp_ge (tgt := 74) hx hb nd_0_51 (by decide) (fun z => absurd z (by decide)) (fun _ => ?_)
  refine lv_aload_n hx hb nd_0_54 rfl (lv_at hl 1 rfl) ?_
  refine va_get (D := D) (ci := 0) (v := .ref a6_1) (C := "OneSledgeForTwo$Hill") (T := tf_0) (N := 10) hx hb ht2 in_0 hown hK hP 0 rfl rfl 0 (by decide) (ht2 _ (wi_1 _ (List.mem_of_getElem? (i := 72) rfl) rfl)) (fun _ h9 => h9) rfl nd_0_55 ?_
  refine lv_iload_n hx hb nd_0_58 rfl (lv_at hl 0 rfl) ?_
  refine va_new (ci := 3) (fs := [.int 0, .int 0, .int 0, .int 0, .int 0, .int 0, .int 0]) (C := "OneSledgeForTwo$Rider") (T := tf_3) (N := 7) hx hb ht2 in_3 ty_3 tyo_3 hown (ht2 _ (wi_1 _ (List.mem_of_getElem? (i := 30) rfl) rfl)) (ht2 _ (wi_1 _ (List.mem_of_getElem? (i := 32) rfl) rfl)) (ht2 _ (wi_1 _ (List.mem_of_getElem? (i := 3) rfl) rfl)) hK hP hD hS hA rfl (fun j hj => match j, hj with
    | 0, _ => rfl
    | 1, _ => rfl
    | 2, _ => rfl
    | 3, _ => rfl
    | 4, _ => rfl
    | 5, _ => rfl
    | 6, _ => rfl
    | j + 7, hj => absurd hj (by omega)) (Nat.le_of_ble_eq_true rfl) (Nat.le_of_ble_eq_true rfl) nd_0_59 (fun q59_7 H hP hD hS => ?_)
  refine W.widen (k := 4) (n := 58) (Nat.le_of_ble_eq_true rfl) (Nat.le_of_ble_eq_true rfl) ?_
  refine lv_dup hx hb nd_0_62 rfl ?_
  refine lv_iload_n hx hb nd_0_63 rfl (lv_at hl 0 rfl) ?_
  refine na_init (ws := [(h0, .inr (0, [.ref a6_1, .int 0, .int 1, .int 0, .int 60, .int 0, .int 6, .int 3, .int 1, .ref a42_3])), (a6_1, .inl (cA 2, 4, .inr (.inr (.inr (.inr (va_up (fun _ => none) (0 : Int32).toNatClampNeg (some q59_5))))))), (a42_3, .inl (cA 0, 40, .inl (fun _ => 0))), (q59_5, .inr (3, [.int 0, .int 0, .int 0, .int 0, .int 0, .int 0, .int 0]))]) (As := [.int 1]) (q := q59_7) (cc := prog_2_method_1_code) (own := "OneSledgeForTwo$Hill") (nc_rider l cA D (1)) ⟨hx, hb, hml, hown, ht2⟩ rfl ng_3 (wi_1 _ (List.mem_of_getElem? (i := 3) rfl) rfl) (Or.inl (wi_1 _ (List.mem_of_getElem? (i := 33) rfl) rfl)) (wi_1 _ (List.mem_of_getElem? (i := 34) rfl) rfl) ⟨rfl, by decide, by decide, by decide +kernel⟩ ⟨Nat.le_of_ble_eq_true rfl, Nat.le_of_ble_eq_true rfl⟩ hK hO hP hD hS hA hl.1 (Nat.le_of_ble_eq_true rfl) nd_0_64 ⟨Nat.le_of_ble_eq_true rfl, Nat.le_of_ble_eq_true rfl⟩ (fun u64_8 H locs _ hP hD hS => ?_)
  refine W.widen (k := 4) (n := 58) (Nat.le_of_ble_eq_true rfl) (Nat.le_of_ble_eq_true rfl) ?_
  have hP : va_P D ma_cls [(h0, .inr (0, [.ref a6_1, .int 0, .int 1, .int 0, .int 60, .int 0, .int 6, .int 3, .int 1, .ref a42_3])), (a6_1, .inl (cA 2, 4, .inr (.inr (.inr (.inr (va_up (fun _ => none) (0 : Int32).toNatClampNeg (some q59_5))))))), (a42_3, .inl (cA 0, 40, .inl (fun _ => 0))), (q59_5, .inr (3, [.int 0, .int 0, .int 0, .int 0, .int 0, .int 0, .int 0])), (q59_7, .inr (3, [.int 1, .int 0, .int 0, .int 0, .int 0, .int 0, .int 0]))] H := hP
  have hD : va_D A [(h0, .inr (0, [.ref a6_1, .int 0, .int 1, .int 0, .int 60, .int 0, .int 6, .int 3, .int 1, .ref a42_3])), (a6_1, .inl (cA 2, 4, .inr (.inr (.inr (.inr (va_up (fun _ => none) (0 : Int32).toNatClampNeg (some q59_5))))))), (a42_3, .inl (cA 0, 40, .inl (fun _ => 0))), (q59_5, .inr (3, [.int 0, .int 0, .int 0, .int 0, .int 0, .int 0, .int 0])), (q59_7, .inr (3, [.int 1, .int 0, .int 0, .int 0, .int 0, .int 0, .int 0]))] := hD
  refine va_astq hx hb hK hP hD hS 1 2 4 3 rfl rfl rfl rfl (by unfold vp_in; decide) nd_0_67 (fun H locs hP hD hS => ?_)
  have hP : va_P D ma_cls [(h0, .inr (0, [.ref a6_1, .int 0, .int 1, .int 0, .int 60, .int 0, .int 6, .int 3, .int 1, .ref a42_3])), (a6_1, .inl (cA 2, 4, .inr (.inr (.inr (.inr (va_up (va_up (fun _ => none) (0 : Int32).toNatClampNeg (some q59_5)) (1 : Int32).toNatClampNeg (some q59_7))))))), (a42_3, .inl (cA 0, 40, .inl (fun _ => 0))), (q59_5, .inr (3, [.int 0, .int 0, .int 0, .int 0, .int 0, .int 0, .int 0])), (q59_7, .inr (3, [.int 1, .int 0, .int 0, .int 0, .int 0, .int 0, .int 0]))] H := hP
  have hD : va_D A [(h0, .inr (0, [.ref a6_1, .int 0, .int 1, .int 0, .int 60, .int 0, .int 6, .int 3, .int 1, .ref a42_3])), (a6_1, .inl (cA 2, 4, .inr (.inr (.inr (.inr (va_up (va_up (fun _ => none) (0 : Int32).toNatClampNeg (some q59_5)) (1 : Int32).toNatClampNeg (some q59_7))))))), (a42_3, .inl (cA 0, 40, .inl (fun _ => 0))), (q59_5, .inr (3, [.int 0, .int 0, .int 0, .int 0, .int 0, .int 0, .int 0])), (q59_7, .inr (3, [.int 1, .int 0, .int 0, .int 0, .int 0, .int 0, .int 0]))] := hD
  refine lv_iinc (v := 2) (lv' := [(1, .int 2), (0, .ref h0)]) hx hb nd_0_68 hl (k := 0) rfl (by decide) (by decide) rfl (fun ls hl => ?_)
  refine lv_goto (tgt := 49) hx hb nd_0_71 (by decide) ?_
  refine lv_iload_n hx hb nd_0_49 rfl (lv_at hl 0 rfl) ?_
  refine lv_iconst (v := 4) hx hb nd_0_50 (by decide) ?_
  refine lv_icmp_ge (tgt := 74) hx hb nd_0_51 (by decide) (fun z => absurd z (by decide)) (fun _ => ?_)
  refine lv_aload_n hx hb nd_0_54 rfl (lv_at hl 1 rfl) ?_
  refine va_get (D := D) (ci := 0) (v := .ref a6_1) (C := "OneSledgeForTwo$Hill") (T := tf_0) (N := 10) hx hb ht2 in_0 hown hK hP 0 rfl rfl 0 (by decide) (ht2 _ (wi_1 _ (List.mem_of_getElem? (i := 72) rfl) rfl)) (fun _ h9 => h9) rfl nd_0_55 ?_
  refine lv_iload_n hx hb nd_0_58 rfl (lv_at hl 0 rfl) ?_
  refine va_new (ci := 3) (fs := [.int 0, .int 0, .int 0, .int 0, .int 0, .int 0, .int 0]) (C := "OneSledgeForTwo$Rider") (T := tf_3) (N := 7) hx hb ht2 in_3 ty_3 tyo_3 hown (ht2 _ (wi_1 _ (List.mem_of_getElem? (i := 30) rfl) rfl)) (ht2 _ (wi_1 _ (List.mem_of_getElem? (i := 32) rfl) rfl)) (ht2 _ (wi_1 _ (List.mem_of_getElem? (i := 3) rfl) rfl)) hK hP hD hS hA rfl (fun j hj => match j, hj with
    | 0, _ => rfl
    | 1, _ => rfl
    | 2, _ => rfl
    | 3, _ => rfl
    | 4, _ => rfl
    | 5, _ => rfl
    | 6, _ => rfl
    | j + 7, hj => absurd hj (by omega)) (Nat.le_of_ble_eq_true rfl) (Nat.le_of_ble_eq_true rfl) nd_0_59 (fun q59_9 H hP hD hS => ?_)
  refine W.widen (k := 5) (n := 65) (Nat.le_of_ble_eq_true rfl) (Nat.le_of_ble_eq_true rfl) ?_
  refine lv_dup hx hb nd_0_62 rfl ?_
  refine lv_iload_n hx hb nd_0_63 rfl (lv_at hl 0 rfl) ?_
  refine na_init (ws := [(h0, .inr (0, [.ref a6_1, .int 0, .int 1, .int 0, .int 60, .int 0, .int 6, .int 3, .int 1, .ref a42_3])), (a6_1, .inl (cA 2, 4, .inr (.inr (.inr (.inr (va_up (va_up (fun _ => none) (0 : Int32).toNatClampNeg (some q59_5)) (1 : Int32).toNatClampNeg (some q59_7))))))), (a42_3, .inl (cA 0, 40, .inl (fun _ => 0))), (q59_5, .inr (3, [.int 0, .int 0, .int 0, .int 0, .int 0, .int 0, .int 0])), (q59_7, .inr (3, [.int 1, .int 0, .int 0, .int 0, .int 0, .int 0, .int 0]))]) (As := [.int 2]) (q := q59_9) (cc := prog_2_method_1_code) (own := "OneSledgeForTwo$Hill") (nc_rider l cA D (2)) ⟨hx, hb, hml, hown, ht2⟩ rfl ng_3 (wi_1 _ (List.mem_of_getElem? (i := 3) rfl) rfl) (Or.inl (wi_1 _ (List.mem_of_getElem? (i := 33) rfl) rfl)) (wi_1 _ (List.mem_of_getElem? (i := 34) rfl) rfl) ⟨rfl, by decide, by decide, by decide +kernel⟩ ⟨Nat.le_of_ble_eq_true rfl, Nat.le_of_ble_eq_true rfl⟩ hK hO hP hD hS hA hl.1 (Nat.le_of_ble_eq_true rfl) nd_0_64 ⟨Nat.le_of_ble_eq_true rfl, Nat.le_of_ble_eq_true rfl⟩ (fun u64_10 H locs _ hP hD hS => ?_)
  refine W.widen (k := 5) (n := 65) (Nat.le_of_ble_eq_true rfl) (Nat.le_of_ble_eq_true rfl) ?_
  have hP : va_P D ma_cls [(h0, .inr (0, [.ref a6_1, .int 0, .int 1, .int 0, .int 60, .int 0, .int 6, .int 3, .int 1, .ref a42_3])), (a6_1, .inl (cA 2, 4, .inr (.inr (.inr (.inr (va_up (va_up (fun _ => none) (0 : Int32).toNatClampNeg (some q59_5)) (1 : Int32).toNatClampNeg (some q59_7))))))), (a42_3, .inl (cA 0, 40, .inl (fun _ => 0))), (q59_5, .inr (3, [.int 0, .int 0, .int 0, .int 0, .int 0, .int 0, .int 0])), (q59_7, .inr (3, [.int 1, .int 0, .int 0, .int 0, .int 0, .int 0, .int 0])), (q59_9, .inr (3, [.int 2, .int 0, .int 0, .int 0, .int 0, .int 0, .int 0]))] H := hP
  have hD : va_D A [(h0, .inr (0, [.ref a6_1, .int 0, .int 1, .int 0, .int 60, .int 0, .int 6, .int 3, .int 1, .ref a42_3])), (a6_1, .inl (cA 2, 4, .inr (.inr (.inr (.inr (va_up (va_up (fun _ => none) (0 : Int32).toNatClampNeg (some q59_5)) (1 : Int32).toNatClampNeg (some q59_7))))))), (a42_3, .inl (cA 0, 40, .inl (fun _ => 0))), (q59_5, .inr (3, [.int 0, .int 0, .int 0, .int 0, .int 0, .int 0, .int 0])), (q59_7, .inr (3, [.int 1, .int 0, .int 0, .int 0, .int 0, .int 0, .int 0])), (q59_9, .inr (3, [.int 2, .int 0, .int 0, .int 0, .int 0, .int 0, .int 0]))] := hD
  refine va_astq hx hb hK hP hD hS 1 2 5 3 rfl rfl rfl rfl (by unfold vp_in; decide) nd_0_67 (fun H locs hP hD hS => ?_)
  have hP : va_P D ma_cls [(h0, .inr (0, [.ref a6_1, .int 0, .int 1, .int 0, .int 60, .int 0, .int 6, .int 3, .int 1, .ref a42_3])), (a6_1, .inl (cA 2, 4, .inr (.inr (.inr (.inr (va_up (va_up (va_up (fun _ => none) (0 : Int32).toNatClampNeg (some q59_5)) (1 : Int32).toNatClampNeg (some q59_7)) (2 : Int32).toNatClampNeg (some q59_9))))))), (a42_3, .inl (cA 0, 40, .inl (fun _ => 0))), (q59_5, .inr (3, [.int 0, .int 0, .int 0, .int 0, .int 0, .int 0, .int 0])), (q59_7, .inr (3, [.int 1, .int 0, .int 0, .int 0, .int 0, .int 0, .int 0])), (q59_9, .inr (3, [.int 2, .int 0, .int 0, .int 0, .int 0, .int 0, .int 0]))] H := hP
  have hD : va_D A [(h0, .inr (0, [.ref a6_1, .int 0, .int 1, .int 0, .int 60, .int 0, .int 6, .int 3, .int 1, .ref a42_3])), (a6_1, .inl (cA 2, 4, .inr (.inr (.inr (.inr (va_up (va_up (va_up (fun _ => none) (0 : Int32).toNatClampNeg (some q59_5)) (1 : Int32).toNatClampNeg (some q59_7)) (2 : Int32).toNatClampNeg (some q59_9))))))), (a42_3, .inl (cA 0, 40, .inl (fun _ => 0))), (q59_5, .inr (3, [.int 0, .int 0, .int 0, .int 0, .int 0, .int 0, .int 0])), (q59_7, .inr (3, [.int 1, .int 0, .int 0, .int 0, .int 0, .int 0, .int 0])), (q59_9, .inr (3, [.int 2, .int 0, .int 0, .int 0, .int 0, .int 0, .int 0]))] := hD
  refine lv_iinc (v := 3) (lv' := [(1, .int 3), (0, .ref h0)]) hx hb nd_0_68 hl (k := 0) rfl (by decide) (by decide) rfl (fun ls hl => ?_)
  refine lv_goto (tgt := 49) hx hb nd_0_71 (by decide) ?_
  refine lv_iload_n hx hb nd_0_49 rfl (lv_at hl 0 rfl) ?_
  refine lv_iconst (v := 4) hx hb nd_0_50 (by decide) ?_
  refine lv_icmp_ge (tgt := 74) hx hb nd_0_51 (by decide) (fun z => absurd z (by decide)) (fun _ => ?_)
  refine lv_aload_n hx hb nd_0_54 rfl (lv_at hl 1 rfl) ?_
  refine va_get (D := D) (ci := 0) (v := .ref a6_1) (C := "OneSledgeForTwo$Hill") (T := tf_0) (N := 10) hx hb ht2 in_0 hown hK hP 0 rfl rfl 0 (by decide) (ht2 _ (wi_1 _ (List.mem_of_getElem? (i := 72) rfl) rfl)) (fun _ h9 => h9) rfl nd_0_55 ?_
  refine lv_iload_n hx hb nd_0_58 rfl (lv_at hl 0 rfl) ?_
  refine va_new (ci := 3) (fs := [.int 0, .int 0, .int 0, .int 0, .int 0, .int 0, .int 0]) (C := "OneSledgeForTwo$Rider") (T := tf_3) (N := 7) hx hb ht2 in_3 ty_3 tyo_3 hown (ht2 _ (wi_1 _ (List.mem_of_getElem? (i := 30) rfl) rfl)) (ht2 _ (wi_1 _ (List.mem_of_getElem? (i := 32) rfl) rfl)) (ht2 _ (wi_1 _ (List.mem_of_getElem? (i := 3) rfl) rfl)) hK hP hD hS hA rfl (fun j hj => match j, hj with
    | 0, _ => rfl
    | 1, _ => rfl
    | 2, _ => rfl
    | 3, _ => rfl
    | 4, _ => rfl
    | 5, _ => rfl
    | 6, _ => rfl
    | j + 7, hj => absurd hj (by omega)) (Nat.le_of_ble_eq_true rfl) (Nat.le_of_ble_eq_true rfl) nd_0_59 (fun q59_11 H hP hD hS => ?_)
  refine W.widen (k := 6) (n := 72) (Nat.le_of_ble_eq_true rfl) (Nat.le_of_ble_eq_true rfl) ?_
  refine lv_dup hx hb nd_0_62 rfl ?_
  refine lv_iload_n hx hb nd_0_63 rfl (lv_at hl 0 rfl) ?_
  refine na_init (ws := [(h0, .inr (0, [.ref a6_1, .int 0, .int 1, .int 0, .int 60, .int 0, .int 6, .int 3, .int 1, .ref a42_3])), (a6_1, .inl (cA 2, 4, .inr (.inr (.inr (.inr (va_up (va_up (va_up (fun _ => none) (0 : Int32).toNatClampNeg (some q59_5)) (1 : Int32).toNatClampNeg (some q59_7)) (2 : Int32).toNatClampNeg (some q59_9))))))), (a42_3, .inl (cA 0, 40, .inl (fun _ => 0))), (q59_5, .inr (3, [.int 0, .int 0, .int 0, .int 0, .int 0, .int 0, .int 0])), (q59_7, .inr (3, [.int 1, .int 0, .int 0, .int 0, .int 0, .int 0, .int 0])), (q59_9, .inr (3, [.int 2, .int 0, .int 0, .int 0, .int 0, .int 0, .int 0]))]) (As := [.int 3]) (q := q59_11) (cc := prog_2_method_1_code) (own := "OneSledgeForTwo$Hill") (nc_rider l cA D (3)) ⟨hx, hb, hml, hown, ht2⟩ rfl ng_3 (wi_1 _ (List.mem_of_getElem? (i := 3) rfl) rfl) (Or.inl (wi_1 _ (List.mem_of_getElem? (i := 33) rfl) rfl)) (wi_1 _ (List.mem_of_getElem? (i := 34) rfl) rfl) ⟨rfl, by decide, by decide, by decide +kernel⟩ ⟨Nat.le_of_ble_eq_true rfl, Nat.le_of_ble_eq_true rfl⟩ hK hO hP hD hS hA hl.1 (Nat.le_of_ble_eq_true rfl) nd_0_64 ⟨Nat.le_of_ble_eq_true rfl, Nat.le_of_ble_eq_true rfl⟩ (fun u64_12 H locs _ hP hD hS => ?_)
  refine W.widen (k := 6) (n := 72) (Nat.le_of_ble_eq_true rfl) (Nat.le_of_ble_eq_true rfl) ?_
  have hP : va_P D ma_cls [(h0, .inr (0, [.ref a6_1, .int 0, .int 1, .int 0, .int 60, .int 0, .int 6, .int 3, .int 1, .ref a42_3])), (a6_1, .inl (cA 2, 4, .inr (.inr (.inr (.inr (va_up (va_up (va_up (fun _ => none) (0 : Int32).toNatClampNeg (some q59_5)) (1 : Int32).toNatClampNeg (some q59_7)) (2 : Int32).toNatClampNeg (some q59_9))))))), (a42_3, .inl (cA 0, 40, .inl (fun _ => 0))), (q59_5, .inr (3, [.int 0, .int 0, .int 0, .int 0, .int 0, .int 0, .int 0])), (q59_7, .inr (3, [.int 1, .int 0, .int 0, .int 0, .int 0, .int 0, .int 0])), (q59_9, .inr (3, [.int 2, .int 0, .int 0, .int 0, .int 0, .int 0, .int 0])), (q59_11, .inr (3, [.int 3, .int 0, .int 0, .int 0, .int 0, .int 0, .int 0]))] H := hP
  have hD : va_D A [(h0, .inr (0, [.ref a6_1, .int 0, .int 1, .int 0, .int 60, .int 0, .int 6, .int 3, .int 1, .ref a42_3])), (a6_1, .inl (cA 2, 4, .inr (.inr (.inr (.inr (va_up (va_up (va_up (fun _ => none) (0 : Int32).toNatClampNeg (some q59_5)) (1 : Int32).toNatClampNeg (some q59_7)) (2 : Int32).toNatClampNeg (some q59_9))))))), (a42_3, .inl (cA 0, 40, .inl (fun _ => 0))), (q59_5, .inr (3, [.int 0, .int 0, .int 0, .int 0, .int 0, .int 0, .int 0])), (q59_7, .inr (3, [.int 1, .int 0, .int 0, .int 0, .int 0, .int 0, .int 0])), (q59_9, .inr (3, [.int 2, .int 0, .int 0, .int 0, .int 0, .int 0, .int 0])), (q59_11, .inr (3, [.int 3, .int 0, .int 0, .int 0, .int 0, .int 0, .int 0]))] := hD
  refine va_astq hx hb hK hP hD hS 1 2 6 3 rfl rfl rfl rfl (by unfold vp_in; decide) nd_0_67 (fun H locs hP hD hS => ?_)
  have hP : va_P D ma_cls [(h0, .inr (0, [.ref a6_1, .int 0, .int 1, .int 0, .int 60, .int 0, .int 6, .int 3, .int 1, .ref a42_3])), (a6_1, .inl (cA 2, 4, .inr (.inr (.inr (.inr (va_up (va_up (va_up (va_up (fun _ => none) (0 : Int32).toNatClampNeg (some q59_5)) (1 : Int32).toNatClampNeg (some q59_7)) (2 : Int32).toNatClampNeg (some q59_9)) (3 : Int32).toNatClampNeg (some q59_11))))))), (a42_3, .inl (cA 0, 40, .inl (fun _ => 0))), (q59_5, .inr (3, [.int 0, .int 0, .int 0, .int 0, .int 0, .int 0, .int 0])), (q59_7, .inr (3, [.int 1, .int 0, .int 0, .int 0, .int 0, .int 0, .int 0])), (q59_9, .inr (3, [.int 2, .int 0, .int 0, .int 0, .int 0, .int 0, .int 0])), (q59_11, .inr (3, [.int 3, .int 0, .int 0, .int 0, .int 0, .int 0, .int 0]))] H := hP
  have hD : va_D A [(h0, .inr (0, [.ref a6_1, .int 0, .int 1, .int 0, .int 60, .int 0, .int 6, .int 3, .int 1, .ref a42_3])), (a6_1, .inl (cA 2, 4, .inr (.inr (.inr (.inr (va_up (va_up (va_up (va_up (fun _ => none) (0 : Int32).toNatClampNeg (some q59_5)) (1 : Int32).toNatClampNeg (some q59_7)) (2 : Int32).toNatClampNeg (some q59_9)) (3 : Int32).toNatClampNeg (some q59_11))))))), (a42_3, .inl (cA 0, 40, .inl (fun _ => 0))), (q59_5, .inr (3, [.int 0, .int 0, .int 0, .int 0, .int 0, .int 0, .int 0])), (q59_7, .inr (3, [.int 1, .int 0, .int 0, .int 0, .int 0, .int 0, .int 0])), (q59_9, .inr (3, [.int 2, .int 0, .int 0, .int 0, .int 0, .int 0, .int 0])), (q59_11, .inr (3, [.int 3, .int 0, .int 0, .int 0, .int 0, .int 0, .int 0]))] := hD
  refine lv_iinc (v := 4) (lv' := [(1, .int 4), (0, .ref h0)]) hx hb nd_0_68 hl (k := 0) rfl (by decide) (by decide) rfl (fun ls hl => ?_)
  refine lv_goto (tgt := 49) hx hb nd_0_71 (by decide) ?_
  refine lv_iload_n hx hb nd_0_49 rfl (lv_at hl 0 rfl) ?_
  refine lv_iconst (v := 4) hx hb nd_0_50 (by decide) ?_
  refine lv_icmp_ge (tgt := 74) hx hb nd_0_51 (by decide) (fun _ => ?_) (fun z => absurd (by decide) z)
  have hP := na_ext (g := fun k => some ((fun k => (fun k => match k with | 0 => a6_1 | 1 => q59_5 | 2 => q59_7 | 3 => q59_9 | 4 => q59_11 | _ => a42_3) (k + 1)) k)) 1 hP rfl (fun k hk => match k, hk with
    | 0, _ => rfl
    | 1, _ => rfl
    | 2, _ => rfl
    | 3, _ => rfl
    | k + 4, hk => absurd hk (by omega))
  have hD := va_D.set (p := 1) (e := .inl (cA 2, 4, .inr (.inr (.inr (.inr (fun k => some ((fun k => (fun k => match k with | 0 => a6_1 | 1 => q59_5 | 2 => q59_7 | 3 => q59_9 | 4 => q59_11 | _ => a42_3) (k + 1)) k))))))) hD rfl
  have hP : va_P D ma_cls [(h0, .inr (0, [.ref a6_1, .int 0, .int 1, .int 0, .int 60, .int 0, .int 6, .int 3, .int 1, .ref a42_3])), (a6_1, .inl (cA 2, 4, .inr (.inr (.inr (.inr (fun k => some ((fun k => (fun k => match k with | 0 => a6_1 | 1 => q59_5 | 2 => q59_7 | 3 => q59_9 | 4 => q59_11 | _ => a42_3) (k + 1)) k))))))), (a42_3, .inl (cA 0, 40, .inl (fun _ => 0))), (q59_5, .inr (3, [.int 0, .int 0, .int 0, .int 0, .int 0, .int 0, .int 0])), (q59_7, .inr (3, [.int 1, .int 0, .int 0, .int 0, .int 0, .int 0, .int 0])), (q59_9, .inr (3, [.int 2, .int 0, .int 0, .int 0, .int 0, .int 0, .int 0])), (q59_11, .inr (3, [.int 3, .int 0, .int 0, .int 0, .int 0, .int 0, .int 0]))] H := hP
  have hD : va_D A [(h0, .inr (0, [.ref a6_1, .int 0, .int 1, .int 0, .int 60, .int 0, .int 6, .int 3, .int 1, .ref a42_3])), (a6_1, .inl (cA 2, 4, .inr (.inr (.inr (.inr (fun k => some ((fun k => (fun k => match k with | 0 => a6_1 | 1 => q59_5 | 2 => q59_7 | 3 => q59_9 | 4 => q59_11 | _ => a42_3) (k + 1)) k))))))), (a42_3, .inl (cA 0, 40, .inl (fun _ => 0))), (q59_5, .inr (3, [.int 0, .int 0, .int 0, .int 0, .int 0, .int 0, .int 0])), (q59_7, .inr (3, [.int 1, .int 0, .int 0, .int 0, .int 0, .int 0, .int 0])), (q59_9, .inr (3, [.int 2, .int 0, .int 0, .int 0, .int 0, .int 0, .int 0])), (q59_11, .inr (3, [.int 3, .int 0, .int 0, .int 0, .int 0, .int 0, .int 0]))] := hD
  exact W.vret hx hb hr (fun t ht hW => ⟨⟨(fun k => match k with | 0 => a6_1 | 1 => q59_5 | 2 => q59_7 | 3 => q59_9 | 4 => q59_11 | _ => a42_3), rfl, trivial, by rw [ht]; exact hP, hD⟩, hS.F ht⟩) hS.2.2 nd_0_74
theorem nd_4_0 : decode prog_6_method_1_code 0 = .ok (.aload_n 0, 1) := by decide +kernel
theorem nd_4_1 : decode prog_6_method_1_code 1 = .ok (.invokespecial 3, 3) := by decide +kernel
theorem nd_4_4 : decode prog_6_method_1_code 4 = .ok (.aload_n 0, 1) := by decide +kernel
theorem nd_4_5 : decode prog_6_method_1_code 5 = .ok (.new 9, 3) := by decide +kernel
theorem nd_4_8 : decode prog_6_method_1_code 8 = .ok (.dup, 1) := by decide +kernel
theorem nd_4_9 : decode prog_6_method_1_code 9 = .ok (.invokespecial 11, 3) := by decide +kernel
theorem nd_4_12 : decode prog_6_method_1_code 12 = .ok (.putfield 12, 3) := by decide +kernel
theorem nd_4_15 : decode prog_6_method_1_code 15 = .ok (.return_, 1) := by decide +kernel
def ny_4 : MethodName := ⟨"OneSledgeForTwo$Sharing", "<init>", "()V"⟩
theorem ng_4 : GoodIn ma_tb (na_ws ny_4 prog_6_method_1_code 1) := na_g (wi_1 _ (List.mem_of_getElem? (i := 130) rfl) rfl)
set_option maxHeartbeats 4000000 in
set_option maxRecDepth 100000 in
theorem nc_sharing (l : Launch) (cA : Nat → ClassId) (D : va_G) : na_Ct l cA D ny_4 prog_6_method_1_code 1 4 [.null, .int 0, .int 0] [] (na_sharing cA) (fun _ => True) 3 54 7 82 := by
  intro h0 sz
  refine Met.ofW (cc := prog_6_method_1_code) (maxL := 1) (ret := none) (by decide) rfl ?_
  intro p e s m args below meth c s₁ B hml hv
  obtain ⟨rfl, hsz, hP, hK, hD0, hO⟩ := hv
  have hx := B.exec
  have hb := B.bytes
  have hr := B.returns
  have hts := atoms_spec (ws := na_ws ny_4 prog_6_method_1_code 1) B.pre
  have ht2 : ∀ w ∈ ma_tb, w.before ([.ref h0]).toArray s = true := fun w h => hts w (List.mem_cons_of_mem _ h)
  have hown : s.vm.findClass "OneSledgeForTwo$Sharing" = some m.cls := findClass_of_methodNamed B.named
  have hlocks := B.notSynchronized
  have hin : meth.name = "<init>" := (name_of_methodNamed B.named B.method).1
  subst hsz
  have hD := hD0.self (sz := s.heap.size)
  generalize hAe : va_A [(h0, (.inr (4, [.null, .int 0, .int 0]) : va_E))] s.heap.size = A at hD ⊢
  have hA : ∀ q : Nat, s.heap.size ≤ q → A q := fun q h => by rw [← hAe]; exact Or.inr h
  have hS : va_S A s.heap s.heap [] := va_S.rf
  have hl := lv_entry [.ref h0] (n := 1) (Nat.le_of_ble_eq_true rfl)
  rw [lg_entry_eq]
  generalize (lg_sl [.ref h0] ++ List.replicate (1 - (lg_sl [.ref h0]).length) Slot.unset).toArray = ls at hl ⊢
  have hl : lv_has ls 1 [(0, .ref h0)] := hl
  have hP : va_P D ma_cls [(h0, .inr (4, [.null, .int 0, .int 0]))] s.heap := hP
  refine lv_aload_n hx hb nd_4_0 rfl (lv_at hl 0 rfl) ?_
  refine W.objInit hx hb hown (ht2 _ (wi_1 _ (List.mem_of_getElem? (i := 131) rfl) rfl)) (ht2 _ (wi_1 _ (List.mem_of_getElem? (i := 22) rfl) rfl)) (ht2 _ (wi_1 _ (List.mem_of_getElem? (i := 23) rfl) rfl)) rfl (by rw [hml]; exact hl.1) rfl nd_4_1 (Nat.le_of_ble_eq_true rfl) (Nat.le_of_ble_eq_true rfl) ?_
  refine W.eq (g2 := F0 m 4 ls []) rfl ?_
  refine lv_aload_n hx hb nd_4_4 rfl (lv_at hl 0 rfl) ?_
  refine va_new (ci := 0) (fs := [.null, .int 0, .int 0, .int 0, .int 0, .int 0, .int 0, .int 0, .int 0, .null]) (C := "OneSledgeForTwo$Hill") (T := tf_0) (N := 10) hx hb ht2 in_0 ty_0 tyo_0 hown (ht2 _ (wi_1 _ (List.mem_of_getElem? (i := 132) rfl) rfl)) (ht2 _ (wi_1 _ (List.mem_of_getElem? (i := 25) rfl) rfl)) (ht2 _ (wi_1 _ (List.mem_of_getElem? (i := 2) rfl) rfl)) hK hP hD hS hA rfl (fun j hj => match j, hj with
    | 0, _ => rfl
    | 1, _ => rfl
    | 2, _ => rfl
    | 3, _ => rfl
    | 4, _ => rfl
    | 5, _ => rfl
    | 6, _ => rfl
    | 7, _ => rfl
    | 8, _ => rfl
    | 9, _ => rfl
    | j + 10, hj => absurd hj (by omega)) (Nat.le_of_ble_eq_true rfl) (Nat.le_of_ble_eq_true rfl) nd_4_5 (fun q5_1 H hP hD hS => ?_)
  refine W.widen (k := 1) (n := 10) (Nat.le_of_ble_eq_true rfl) (Nat.le_of_ble_eq_true rfl) ?_
  refine lv_dup hx hb nd_4_8 rfl ?_
  refine na_init (ws := [(h0, .inr (4, [.null, .int 0, .int 0]))]) (As := []) (q := q5_1) (cc := prog_6_method_1_code) (own := "OneSledgeForTwo$Sharing") (nc_hill l cA D) ⟨hx, hb, hml, hown, ht2⟩ rfl ng_0 (wi_1 _ (List.mem_of_getElem? (i := 2) rfl) rfl) (Or.inl (wi_1 _ (List.mem_of_getElem? (i := 133) rfl) rfl)) (wi_1 _ (List.mem_of_getElem? (i := 27) rfl) rfl) ⟨rfl, by decide, by decide, by decide +kernel⟩ ⟨Nat.le_of_ble_eq_true rfl, Nat.le_of_ble_eq_true rfl⟩ hK hO hP hD hS hA hl.1 (Nat.le_of_ble_eq_true rfl) nd_4_9 ⟨Nat.le_of_ble_eq_true rfl, Nat.le_of_ble_eq_true rfl⟩ (fun u9_2 H locs _ hP hD hS => ?_)
  refine W.widen (k := 7) (n := 82) (Nat.le_of_ble_eq_true rfl) (Nat.le_of_ble_eq_true rfl) ?_
  have hP : va_P D ma_cls ((h0, .inr (4, [.null, .int 0, .int 0])) :: na_hill cA q5_1 u9_2) H := hP
  have hD : va_D A ((h0, .inr (4, [.null, .int 0, .int 0])) :: na_hill cA q5_1 u9_2) := hD
  refine va_putF (D := D) (ci := 4) (v := .ref q5_1) (ty := .object "OneSledgeForTwo$Hill") (C := "OneSledgeForTwo$Sharing") (T := tf_4) (N := 3) hx hb ht2 in_4 ty_4 tyo_4 nm_4 hown hK hP hD hS 0 rfl rfl 0 (by decide) (ht2 _ (wi_1 _ (List.mem_of_getElem? (i := 134) rfl) rfl)) (fun _ h9 => h9) rfl hin rfl (by decide +kernel) rfl rfl (Nat.le_of_ble_eq_true rfl) nd_4_12 (fun H locs hP hD hS => ?_)
  have hP : va_P D ma_cls ((h0, .inr (4, [.ref q5_1, .int 0, .int 0])) :: na_hill cA q5_1 u9_2) H := hP
  have hD : va_D A ((h0, .inr (4, [.ref q5_1, .int 0, .int 0])) :: na_hill cA q5_1 u9_2) := hD
  exact W.vret hx hb hr (fun t ht hW => ⟨⟨(q5_1, u9_2), rfl, trivial, by rw [ht]; exact hP, hD⟩, hS.F ht⟩) hS.2.2 nd_4_15
theorem nd_2_0 : decode prog_4_method_1_code 0 = .ok (.aload_n 0, 1) := by decide +kernel
theorem nd_2_1 : decode prog_4_method_1_code 1 = .ok (.invokespecial 3, 3) := by decide +kernel
theorem nd_2_4 : decode prog_4_method_1_code 4 = .ok (.aload_n 0, 1) := by decide +kernel
theorem nd_2_5 : decode prog_4_method_1_code 5 = .ok (.new 9, 3) := by decide +kernel
theorem nd_2_8 : decode prog_4_method_1_code 8 = .ok (.dup, 1) := by decide +kernel
theorem nd_2_9 : decode prog_4_method_1_code 9 = .ok (.invokespecial 11, 3) := by decide +kernel
theorem nd_2_12 : decode prog_4_method_1_code 12 = .ok (.putfield 12, 3) := by decide +kernel
theorem nd_2_15 : decode prog_4_method_1_code 15 = .ok (.aload_n 0, 1) := by decide +kernel
theorem nd_2_16 : decode prog_4_method_1_code 16 = .ok (.sipush 160, 3) := by decide +kernel
theorem nd_2_19 : decode prog_4_method_1_code 19 = .ok (.newarray .int, 2) := by decide +kernel
theorem nd_2_21 : decode prog_4_method_1_code 21 = .ok (.putfield 18, 3) := by decide +kernel
theorem nd_2_24 : decode prog_4_method_1_code 24 = .ok (.aload_n 0, 1) := by decide +kernel
theorem nd_2_25 : decode prog_4_method_1_code 25 = .ok (.iconst (-1), 1) := by decide +kernel
theorem nd_2_26 : decode prog_4_method_1_code 26 = .ok (.putfield 22, 3) := by decide +kernel
theorem nd_2_29 : decode prog_4_method_1_code 29 = .ok (.return_, 1) := by decide +kernel
def ny_2 : MethodName := ⟨"OneSledgeForTwo$Reader", "<init>", "()V"⟩
theorem ng_2 : GoodIn ma_tb (na_ws ny_2 prog_4_method_1_code 1) := na_g (wi_1 _ (List.mem_of_getElem? (i := 149) rfl) rfl)
set_option maxHeartbeats 4000000 in
set_option maxRecDepth 100000 in
theorem nc_reader (l : Launch) (cA : Nat → ClassId) (D : va_G) : na_Ct l cA D ny_2 prog_4_method_1_code 1 2 [.null, .null, .int 0, .int 0, .int 0, .int 0] [] (na_reader cA) (fun _ => True) 3 54 8 242 := by
  intro h0 sz
  refine Met.ofW (cc := prog_4_method_1_code) (maxL := 1) (ret := none) (by decide) rfl ?_
  intro p e s m args below meth c s₁ B hml hv
  obtain ⟨rfl, hsz, hP, hK, hD0, hO⟩ := hv
  have hx := B.exec
  have hb := B.bytes
  have hr := B.returns
  have hts := atoms_spec (ws := na_ws ny_2 prog_4_method_1_code 1) B.pre
  have ht2 : ∀ w ∈ ma_tb, w.before ([.ref h0]).toArray s = true := fun w h => hts w (List.mem_cons_of_mem _ h)
  have hown : s.vm.findClass "OneSledgeForTwo$Reader" = some m.cls := findClass_of_methodNamed B.named
  have hlocks := B.notSynchronized
  have hin : meth.name = "<init>" := (name_of_methodNamed B.named B.method).1
  subst hsz
  have hD := hD0.self (sz := s.heap.size)
  generalize hAe : va_A [(h0, (.inr (2, [.null, .null, .int 0, .int 0, .int 0, .int 0]) : va_E))] s.heap.size = A at hD ⊢
  have hA : ∀ q : Nat, s.heap.size ≤ q → A q := fun q h => by rw [← hAe]; exact Or.inr h
  have hS : va_S A s.heap s.heap [] := va_S.rf
  have hl := lv_entry [.ref h0] (n := 1) (Nat.le_of_ble_eq_true rfl)
  rw [lg_entry_eq]
  generalize (lg_sl [.ref h0] ++ List.replicate (1 - (lg_sl [.ref h0]).length) Slot.unset).toArray = ls at hl ⊢
  have hl : lv_has ls 1 [(0, .ref h0)] := hl
  have hP : va_P D ma_cls [(h0, .inr (2, [.null, .null, .int 0, .int 0, .int 0, .int 0]))] s.heap := hP
  refine lv_aload_n hx hb nd_2_0 rfl (lv_at hl 0 rfl) ?_
  refine W.objInit hx hb hown (ht2 _ (wi_1 _ (List.mem_of_getElem? (i := 150) rfl) rfl)) (ht2 _ (wi_1 _ (List.mem_of_getElem? (i := 22) rfl) rfl)) (ht2 _ (wi_1 _ (List.mem_of_getElem? (i := 23) rfl) rfl)) rfl (by rw [hml]; exact hl.1) rfl nd_2_1 (Nat.le_of_ble_eq_true rfl) (Nat.le_of_ble_eq_true rfl) ?_
  refine W.eq (g2 := F0 m 4 ls []) rfl ?_
  refine lv_aload_n hx hb nd_2_4 rfl (lv_at hl 0 rfl) ?_
  refine va_new (ci := 0) (fs := [.null, .int 0, .int 0, .int 0, .int 0, .int 0, .int 0, .int 0, .int 0, .null]) (C := "OneSledgeForTwo$Hill") (T := tf_0) (N := 10) hx hb ht2 in_0 ty_0 tyo_0 hown (ht2 _ (wi_1 _ (List.mem_of_getElem? (i := 151) rfl) rfl)) (ht2 _ (wi_1 _ (List.mem_of_getElem? (i := 25) rfl) rfl)) (ht2 _ (wi_1 _ (List.mem_of_getElem? (i := 2) rfl) rfl)) hK hP hD hS hA rfl (fun j hj => match j, hj with
    | 0, _ => rfl
    | 1, _ => rfl
    | 2, _ => rfl
    | 3, _ => rfl
    | 4, _ => rfl
    | 5, _ => rfl
    | 6, _ => rfl
    | 7, _ => rfl
    | 8, _ => rfl
    | 9, _ => rfl
    | j + 10, hj => absurd hj (by omega)) (Nat.le_of_ble_eq_true rfl) (Nat.le_of_ble_eq_true rfl) nd_2_5 (fun q5_1 H hP hD hS => ?_)
  refine W.widen (k := 1) (n := 10) (Nat.le_of_ble_eq_true rfl) (Nat.le_of_ble_eq_true rfl) ?_
  refine lv_dup hx hb nd_2_8 rfl ?_
  refine na_init (ws := [(h0, .inr (2, [.null, .null, .int 0, .int 0, .int 0, .int 0]))]) (As := []) (q := q5_1) (cc := prog_4_method_1_code) (own := "OneSledgeForTwo$Reader") (nc_hill l cA D) ⟨hx, hb, hml, hown, ht2⟩ rfl ng_0 (wi_1 _ (List.mem_of_getElem? (i := 2) rfl) rfl) (Or.inl (wi_1 _ (List.mem_of_getElem? (i := 152) rfl) rfl)) (wi_1 _ (List.mem_of_getElem? (i := 27) rfl) rfl) ⟨rfl, by decide, by decide, by decide +kernel⟩ ⟨Nat.le_of_ble_eq_true rfl, Nat.le_of_ble_eq_true rfl⟩ hK hO hP hD hS hA hl.1 (Nat.le_of_ble_eq_true rfl) nd_2_9 ⟨Nat.le_of_ble_eq_true rfl, Nat.le_of_ble_eq_true rfl⟩ (fun u9_2 H locs _ hP hD hS => ?_)
  refine W.widen (k := 7) (n := 82) (Nat.le_of_ble_eq_true rfl) (Nat.le_of_ble_eq_true rfl) ?_
  have hP : va_P D ma_cls ((h0, .inr (2, [.null, .null, .int 0, .int 0, .int 0, .int 0])) :: na_hill cA q5_1 u9_2) H := hP
  have hD : va_D A ((h0, .inr (2, [.null, .null, .int 0, .int 0, .int 0, .int 0])) :: na_hill cA q5_1 u9_2) := hD
  refine va_putF (D := D) (ci := 2) (v := .ref q5_1) (ty := .object "OneSledgeForTwo$Hill") (C := "OneSledgeForTwo$Reader") (T := tf_2) (N := 6) hx hb ht2 in_2 ty_2 tyo_2 nm_2 hown hK hP hD hS 0 rfl rfl 0 (by decide) (ht2 _ (wi_1 _ (List.mem_of_getElem? (i := 153) rfl) rfl)) (fun _ h9 => h9) rfl hin rfl (by decide +kernel) rfl rfl (Nat.le_of_ble_eq_true rfl) nd_2_12 (fun H locs hP hD hS => ?_)
  have hP : va_P D ma_cls ((h0, .inr (2, [.ref q5_1, .null, .int 0, .int 0, .int 0, .int 0])) :: na_hill cA q5_1 u9_2) H := hP
  have hD : va_D A ((h0, .inr (2, [.ref q5_1, .null, .int 0, .int 0, .int 0, .int 0])) :: na_hill cA q5_1 u9_2) := hD
  refine lv_aload_n hx hb nd_2_15 rfl (lv_at hl 0 rfl) ?_
  refine lv_sipush (v := 160) hx hb nd_2_16 (by decide) ?_
  refine va_newa (atype := .int) (ty := .int) (a0 := (160, .inl (fun _ => 0))) hx hb (ht2 _ (wi_1 _ (List.mem_of_getElem? (i := 71) rfl) rfl)) rfl hK hP hD hS hA (fun _ => rfl) (by decide) (by decide) (Nat.le_of_ble_eq_true rfl) (Nat.le_of_ble_eq_true rfl) (Nat.le_of_ble_eq_true rfl) nd_2_19 (fun a19_3 c19_4 H hK1 hP hD hS => ?_)
  have e_c19_4 := na_one (c1 := cA 0) hK1 List.mem_cons_self
  subst e_c19_4
  refine W.widen (k := 8) (n := 242) (Nat.le_of_ble_eq_true rfl) (Nat.le_of_ble_eq_true rfl) ?_
  have hP : va_P D ma_cls ((h0, .inr (2, [.ref q5_1, .null, .int 0, .int 0, .int 0, .int 0])) :: (a19_3, .inl (cA 0, 160, .inl (fun _ => 0))) :: na_hill cA q5_1 u9_2) H := na_rotP [(h0, .inr (2, [.ref q5_1, .null, .int 0, .int 0, .int 0, .int 0]))] hP
  have hD : va_D A ((h0, .inr (2, [.ref q5_1, .null, .int 0, .int 0, .int 0, .int 0])) :: (a19_3, .inl (cA 0, 160, .inl (fun _ => 0))) :: na_hill cA q5_1 u9_2) := na_rotD [(h0, .inr (2, [.ref q5_1, .null, .int 0, .int 0, .int 0, .int 0]))] hD
  refine va_putF (D := D) (ci := 2) (v := .ref a19_3) (ty := .array .int) (C := "OneSledgeForTwo$Reader") (T := tf_2) (N := 6) hx hb ht2 in_2 ty_2 tyo_2 nm_2 hown hK hP hD hS 0 rfl rfl 1 (by decide) (ht2 _ (wi_1 _ (List.mem_of_getElem? (i := 155) rfl) rfl)) (fun _ h9 => h9) rfl hin rfl (by decide +kernel) rfl rfl (Nat.le_of_ble_eq_true rfl) nd_2_21 (fun H locs hP hD hS => ?_)
  have hP : va_P D ma_cls ((h0, .inr (2, [.ref q5_1, .ref a19_3, .int 0, .int 0, .int 0, .int 0])) :: (a19_3, .inl (cA 0, 160, .inl (fun _ => 0))) :: na_hill cA q5_1 u9_2) H := hP
  have hD : va_D A ((h0, .inr (2, [.ref q5_1, .ref a19_3, .int 0, .int 0, .int 0, .int 0])) :: (a19_3, .inl (cA 0, 160, .inl (fun _ => 0))) :: na_hill cA q5_1 u9_2) := hD
  refine lv_aload_n hx hb nd_2_24 rfl (lv_at hl 0 rfl) ?_
  refine lv_iconst (v := -1) hx hb nd_2_25 (by decide) ?_
  refine va_put (D := D) (ci := 2) (v := .int (-1)) (ty := .int) (C := "OneSledgeForTwo$Reader") (T := tf_2) (N := 6) hx hb ht2 in_2 ty_2 tyo_2 nm_2 hown hK hP hD hS 0 rfl rfl 4 (by decide) (ht2 _ (wi_1 _ (List.mem_of_getElem? (i := 158) rfl) rfl)) (fun _ h9 => h9) rfl (by decide +kernel) rfl rfl (Nat.le_of_ble_eq_true rfl) nd_2_26 (fun H locs hP hD hS => ?_)
  have hP : va_P D ma_cls ((h0, .inr (2, [.ref q5_1, .ref a19_3, .int 0, .int 0, .int (-1), .int 0])) :: (a19_3, .inl (cA 0, 160, .inl (fun _ => 0))) :: na_hill cA q5_1 u9_2) H := hP
  have hD : va_D A ((h0, .inr (2, [.ref q5_1, .ref a19_3, .int 0, .int 0, .int (-1), .int 0])) :: (a19_3, .inl (cA 0, 160, .inl (fun _ => 0))) :: na_hill cA q5_1 u9_2) := hD
  exact W.vret hx hb hr (fun t ht hW => ⟨⟨(q5_1, a19_3, u9_2), rfl, trivial, by rw [ht]; exact hP, hD⟩, hS.F ht⟩) hS.2.2 nd_2_29
theorem nd_1_0 : decode prog_3_method_1_code 0 = .ok (.aload_n 0, 1) := by decide +kernel
theorem nd_1_1 : decode prog_3_method_1_code 1 = .ok (.invokespecial 3, 3) := by decide +kernel
theorem nd_1_4 : decode prog_3_method_1_code 4 = .ok (.aload_n 0, 1) := by decide +kernel
theorem nd_1_5 : decode prog_3_method_1_code 5 = .ok (.iconst 3, 1) := by decide +kernel
theorem nd_1_6 : decode prog_3_method_1_code 6 = .ok (.anewarray 9, 3) := by decide +kernel
theorem nd_1_9 : decode prog_3_method_1_code 9 = .ok (.putfield 11, 3) := by decide +kernel
theorem nd_1_12 : decode prog_3_method_1_code 12 = .ok (.aload_n 0, 1) := by decide +kernel
theorem nd_1_13 : decode prog_3_method_1_code 13 = .ok (.iconst 3, 1) := by decide +kernel
theorem nd_1_14 : decode prog_3_method_1_code 14 = .ok (.newarray .int, 2) := by decide +kernel
theorem nd_1_16 : decode prog_3_method_1_code 16 = .ok (.putfield 17, 3) := by decide +kernel
theorem nd_1_19 : decode prog_3_method_1_code 19 = .ok (.aload_n 0, 1) := by decide +kernel
theorem nd_1_20 : decode prog_3_method_1_code 20 = .ok (.iconst 3, 1) := by decide +kernel
theorem nd_1_21 : decode prog_3_method_1_code 21 = .ok (.newarray .int, 2) := by decide +kernel
theorem nd_1_23 : decode prog_3_method_1_code 23 = .ok (.putfield 21, 3) := by decide +kernel
theorem nd_1_26 : decode prog_3_method_1_code 26 = .ok (.iconst 0, 1) := by decide +kernel
theorem nd_1_27 : decode prog_3_method_1_code 27 = .ok (.istore_n 1, 1) := by decide +kernel
theorem nd_1_28 : decode prog_3_method_1_code 28 = .ok (.iload_n 1, 1) := by decide +kernel
theorem nd_1_29 : decode prog_3_method_1_code 29 = .ok (.iconst 3, 1) := by decide +kernel
theorem nd_1_30 : decode prog_3_method_1_code 30 = .ok (.if_icmp .ge 22, 3) := by decide +kernel
theorem nd_1_33 : decode prog_3_method_1_code 33 = .ok (.aload_n 0, 1) := by decide +kernel
theorem nd_1_34 : decode prog_3_method_1_code 34 = .ok (.getfield 11, 3) := by decide +kernel
theorem nd_1_37 : decode prog_3_method_1_code 37 = .ok (.iload_n 1, 1) := by decide +kernel
theorem nd_1_38 : decode prog_3_method_1_code 38 = .ok (.new 9, 3) := by decide +kernel
theorem nd_1_41 : decode prog_3_method_1_code 41 = .ok (.dup, 1) := by decide +kernel
theorem nd_1_42 : decode prog_3_method_1_code 42 = .ok (.invokespecial 24, 3) := by decide +kernel
theorem nd_1_45 : decode prog_3_method_1_code 45 = .ok (.aastore, 1) := by decide +kernel
theorem nd_1_46 : decode prog_3_method_1_code 46 = .ok (.iinc 1 1, 3) := by decide +kernel
theorem nd_1_49 : decode prog_3_method_1_code 49 = .ok (.goto (-21), 3) := by decide +kernel
theorem nd_1_52 : decode prog_3_method_1_code 52 = .ok (.return_, 1) := by decide +kernel
def ny_1 : MethodName := ⟨"OneSledgeForTwo$Lookahead", "<init>", "()V"⟩
theorem ng_1 : GoodIn ma_tb (na_ws ny_1 prog_3_method_1_code 2) := na_g (wi_1 _ (List.mem_of_getElem? (i := 178) rfl) rfl)
set_option maxHeartbeats 4000000 in
set_option maxRecDepth 100000 in
theorem nc_look (l : Launch) (cA : Nat → ClassId) (D : va_G) : na_Ct l cA D ny_1 prog_3_method_1_code 2 1 [.null, .null, .null, .int 0, .int 0, .int 0] [] (na_look cA) (fun _ => True) 3 54 24 255 := by
  intro h0 sz
  refine Met.ofW (cc := prog_3_method_1_code) (maxL := 2) (ret := none) (by decide) rfl ?_
  intro p e s m args below meth c s₁ B hml hv
  obtain ⟨rfl, hsz, hP, hK, hD0, hO⟩ := hv
  have hx := B.exec
  have hb := B.bytes
  have hr := B.returns
  have hts := atoms_spec (ws := na_ws ny_1 prog_3_method_1_code 2) B.pre
  have ht2 : ∀ w ∈ ma_tb, w.before ([.ref h0]).toArray s = true := fun w h => hts w (List.mem_cons_of_mem _ h)
  have hown : s.vm.findClass "OneSledgeForTwo$Lookahead" = some m.cls := findClass_of_methodNamed B.named
  have hlocks := B.notSynchronized
  have hin : meth.name = "<init>" := (name_of_methodNamed B.named B.method).1
  subst hsz
  have hD := hD0.self (sz := s.heap.size)
  generalize hAe : va_A [(h0, (.inr (1, [.null, .null, .null, .int 0, .int 0, .int 0]) : va_E))] s.heap.size = A at hD ⊢
  have hA : ∀ q : Nat, s.heap.size ≤ q → A q := fun q h => by rw [← hAe]; exact Or.inr h
  have hS : va_S A s.heap s.heap [] := va_S.rf
  have hl := lv_entry [.ref h0] (n := 2) (Nat.le_of_ble_eq_true rfl)
  rw [lg_entry_eq]
  generalize (lg_sl [.ref h0] ++ List.replicate (2 - (lg_sl [.ref h0]).length) Slot.unset).toArray = ls at hl ⊢
  have hl : lv_has ls 2 [(0, .ref h0)] := hl
  have hP : va_P D ma_cls [(h0, .inr (1, [.null, .null, .null, .int 0, .int 0, .int 0]))] s.heap := hP
  refine lv_aload_n hx hb nd_1_0 rfl (lv_at hl 0 rfl) ?_
  refine W.objInit hx hb hown (ht2 _ (wi_1 _ (List.mem_of_getElem? (i := 179) rfl) rfl)) (ht2 _ (wi_1 _ (List.mem_of_getElem? (i := 22) rfl) rfl)) (ht2 _ (wi_1 _ (List.mem_of_getElem? (i := 23) rfl) rfl)) rfl (by rw [hml]; exact hl.1) rfl nd_1_1 (Nat.le_of_ble_eq_true rfl) (Nat.le_of_ble_eq_true rfl) ?_
  refine W.eq (g2 := F0 m 4 ls []) rfl ?_
  refine lv_aload_n hx hb nd_1_4 rfl (lv_at hl 0 rfl) ?_
  refine lv_iconst (v := 3) hx hb nd_1_5 (by decide) ?_
  refine va_newq (C := "OneSledgeForTwo$Hill") (N' := 3) hx hb hown (ht2 _ (wi_1 _ (List.mem_of_getElem? (i := 180) rfl) rfl)) hO.2.1 hK hP hD hS hA (by decide) (by decide) (Nat.le_of_ble_eq_true rfl) (Nat.le_of_ble_eq_true rfl) (Nat.le_of_ble_eq_true rfl) nd_1_6 (fun a6_1 c6_2 H hK1 hP hD hS => ?_)
  have e_c6_2 := na_one (c1 := cA 3) hK1 (List.mem_of_getElem? (i := 3) rfl)
  subst e_c6_2
  refine W.widen (k := 1) (n := 3) (Nat.le_of_ble_eq_true rfl) (Nat.le_of_ble_eq_true rfl) ?_
  have hP : va_P D ma_cls [(h0, .inr (1, [.null, .null, .null, .int 0, .int 0, .int 0])), (a6_1, .inl (cA 3, 3, .inr (.inr (.inr (.inr (fun _ => none))))))] H := hP
  have hD : va_D A [(h0, .inr (1, [.null, .null, .null, .int 0, .int 0, .int 0])), (a6_1, .inl (cA 3, 3, .inr (.inr (.inr (.inr (fun _ => none))))))] := hD
  refine va_putF (D := D) (ci := 1) (v := .ref a6_1) (ty := .array (.object "OneSledgeForTwo$Hill")) (C := "OneSledgeForTwo$Lookahead") (T := tf_1) (N := 6) hx hb ht2 in_1 ty_1 tyo_1 nm_1 hown hK hP hD hS 0 rfl rfl 0 (by decide) (ht2 _ (wi_1 _ (List.mem_of_getElem? (i := 183) rfl) rfl)) (fun _ h9 => h9) rfl hin rfl (by decide +kernel) rfl rfl (Nat.le_of_ble_eq_true rfl) nd_1_9 (fun H locs hP hD hS => ?_)
  have hP : va_P D ma_cls [(h0, .inr (1, [.ref a6_1, .null, .null, .int 0, .int 0, .int 0])), (a6_1, .inl (cA 3, 3, .inr (.inr (.inr (.inr (fun _ => none))))))] H := hP
  have hD : va_D A [(h0, .inr (1, [.ref a6_1, .null, .null, .int 0, .int 0, .int 0])), (a6_1, .inl (cA 3, 3, .inr (.inr (.inr (.inr (fun _ => none))))))] := hD
  refine lv_aload_n hx hb nd_1_12 rfl (lv_at hl 0 rfl) ?_
  refine lv_iconst (v := 3) hx hb nd_1_13 (by decide) ?_
  refine va_newa (atype := .int) (ty := .int) (a0 := (3, .inl (fun _ => 0))) hx hb (ht2 _ (wi_1 _ (List.mem_of_getElem? (i := 71) rfl) rfl)) rfl hK hP hD hS hA (fun _ => rfl) (by decide) (by decide) (Nat.le_of_ble_eq_true rfl) (Nat.le_of_ble_eq_true rfl) (Nat.le_of_ble_eq_true rfl) nd_1_14 (fun a14_3 c14_4 H hK1 hP hD hS => ?_)
  have e_c14_4 := na_one (c1 := cA 0) hK1 List.mem_cons_self
  subst e_c14_4
  refine W.widen (k := 2) (n := 6) (Nat.le_of_ble_eq_true rfl) (Nat.le_of_ble_eq_true rfl) ?_
  have hP : va_P D ma_cls [(h0, .inr (1, [.ref a6_1, .null, .null, .int 0, .int 0, .int 0])), (a6_1, .inl (cA 3, 3, .inr (.inr (.inr (.inr (fun _ => none)))))), (a14_3, .inl (cA 0, 3, .inl (fun _ => 0)))] H := hP
  have hD : va_D A [(h0, .inr (1, [.ref a6_1, .null, .null, .int 0, .int 0, .int 0])), (a6_1, .inl (cA 3, 3, .inr (.inr (.inr (.inr (fun _ => none)))))), (a14_3, .inl (cA 0, 3, .inl (fun _ => 0)))] := hD
  refine va_putF (D := D) (ci := 1) (v := .ref a14_3) (ty := .array .int) (C := "OneSledgeForTwo$Lookahead") (T := tf_1) (N := 6) hx hb ht2 in_1 ty_1 tyo_1 nm_1 hown hK hP hD hS 0 rfl rfl 1 (by decide) (ht2 _ (wi_1 _ (List.mem_of_getElem? (i := 184) rfl) rfl)) (fun _ h9 => h9) rfl hin rfl (by decide +kernel) rfl rfl (Nat.le_of_ble_eq_true rfl) nd_1_16 (fun H locs hP hD hS => ?_)
  have hP : va_P D ma_cls [(h0, .inr (1, [.ref a6_1, .ref a14_3, .null, .int 0, .int 0, .int 0])), (a6_1, .inl (cA 3, 3, .inr (.inr (.inr (.inr (fun _ => none)))))), (a14_3, .inl (cA 0, 3, .inl (fun _ => 0)))] H := hP
  have hD : va_D A [(h0, .inr (1, [.ref a6_1, .ref a14_3, .null, .int 0, .int 0, .int 0])), (a6_1, .inl (cA 3, 3, .inr (.inr (.inr (.inr (fun _ => none)))))), (a14_3, .inl (cA 0, 3, .inl (fun _ => 0)))] := hD
  refine lv_aload_n hx hb nd_1_19 rfl (lv_at hl 0 rfl) ?_
  refine lv_iconst (v := 3) hx hb nd_1_20 (by decide) ?_
  refine va_newa (atype := .int) (ty := .int) (a0 := (3, .inl (fun _ => 0))) hx hb (ht2 _ (wi_1 _ (List.mem_of_getElem? (i := 71) rfl) rfl)) rfl hK hP hD hS hA (fun _ => rfl) (by decide) (by decide) (Nat.le_of_ble_eq_true rfl) (Nat.le_of_ble_eq_true rfl) (Nat.le_of_ble_eq_true rfl) nd_1_21 (fun a21_5 c21_6 H hK1 hP hD hS => ?_)
  have e_c21_6 := na_one (c1 := cA 0) hK1 List.mem_cons_self
  subst e_c21_6
  refine W.widen (k := 3) (n := 9) (Nat.le_of_ble_eq_true rfl) (Nat.le_of_ble_eq_true rfl) ?_
  have hP : va_P D ma_cls [(h0, .inr (1, [.ref a6_1, .ref a14_3, .null, .int 0, .int 0, .int 0])), (a6_1, .inl (cA 3, 3, .inr (.inr (.inr (.inr (fun _ => none)))))), (a14_3, .inl (cA 0, 3, .inl (fun _ => 0))), (a21_5, .inl (cA 0, 3, .inl (fun _ => 0)))] H := hP
  have hD : va_D A [(h0, .inr (1, [.ref a6_1, .ref a14_3, .null, .int 0, .int 0, .int 0])), (a6_1, .inl (cA 3, 3, .inr (.inr (.inr (.inr (fun _ => none)))))), (a14_3, .inl (cA 0, 3, .inl (fun _ => 0))), (a21_5, .inl (cA 0, 3, .inl (fun _ => 0)))] := hD
  refine va_putF (D := D) (ci := 1) (v := .ref a21_5) (ty := .array .int) (C := "OneSledgeForTwo$Lookahead") (T := tf_1) (N := 6) hx hb ht2 in_1 ty_1 tyo_1 nm_1 hown hK hP hD hS 0 rfl rfl 2 (by decide) (ht2 _ (wi_1 _ (List.mem_of_getElem? (i := 185) rfl) rfl)) (fun _ h9 => h9) rfl hin rfl (by decide +kernel) rfl rfl (Nat.le_of_ble_eq_true rfl) nd_1_23 (fun H locs hP hD hS => ?_)
  have hP : va_P D ma_cls [(h0, .inr (1, [.ref a6_1, .ref a14_3, .ref a21_5, .int 0, .int 0, .int 0])), (a6_1, .inl (cA 3, 3, .inr (.inr (.inr (.inr (fun _ => none)))))), (a14_3, .inl (cA 0, 3, .inl (fun _ => 0))), (a21_5, .inl (cA 0, 3, .inl (fun _ => 0)))] H := hP
  have hD : va_D A [(h0, .inr (1, [.ref a6_1, .ref a14_3, .ref a21_5, .int 0, .int 0, .int 0])), (a6_1, .inl (cA 3, 3, .inr (.inr (.inr (.inr (fun _ => none)))))), (a14_3, .inl (cA 0, 3, .inl (fun _ => 0))), (a21_5, .inl (cA 0, 3, .inl (fun _ => 0)))] := hD
  refine lv_iconst (v := 0) hx hb nd_1_26 (by decide) ?_
  refine lv_istore_n (lv' := [(1, .int 0), (0, .ref h0)]) hx hb nd_1_27 rfl hl (by decide) rfl (fun ls hl => ?_)
  refine lv_iload_n hx hb nd_1_28 rfl (lv_at hl 0 rfl) ?_
  refine lv_iconst (v := 3) hx hb nd_1_29 (by decide) ?_
  refine lv_icmp_ge (tgt := 52) hx hb nd_1_30 (by decide) (fun z => absurd z (by decide)) (fun _ => ?_)
  refine lv_aload_n hx hb nd_1_33 rfl (lv_at hl 1 rfl) ?_
  refine va_get (D := D) (ci := 1) (v := .ref a6_1) (C := "OneSledgeForTwo$Lookahead") (T := tf_1) (N := 6) hx hb ht2 in_1 hown hK hP 0 rfl rfl 0 (by decide) (ht2 _ (wi_1 _ (List.mem_of_getElem? (i := 183) rfl) rfl)) (fun _ h9 => h9) rfl nd_1_34 ?_
  refine lv_iload_n hx hb nd_1_37 rfl (lv_at hl 0 rfl) ?_
  refine va_new (ci := 0) (fs := [.null, .int 0, .int 0, .int 0, .int 0, .int 0, .int 0, .int 0, .int 0, .null]) (C := "OneSledgeForTwo$Hill") (T := tf_0) (N := 10) hx hb ht2 in_0 ty_0 tyo_0 hown (ht2 _ (wi_1 _ (List.mem_of_getElem? (i := 180) rfl) rfl)) (ht2 _ (wi_1 _ (List.mem_of_getElem? (i := 25) rfl) rfl)) (ht2 _ (wi_1 _ (List.mem_of_getElem? (i := 2) rfl) rfl)) hK hP hD hS hA rfl (fun j hj => match j, hj with
    | 0, _ => rfl
    | 1, _ => rfl
    | 2, _ => rfl
    | 3, _ => rfl
    | 4, _ => rfl
    | 5, _ => rfl
    | 6, _ => rfl
    | 7, _ => rfl
    | 8, _ => rfl
    | 9, _ => rfl
    | j + 10, hj => absurd hj (by omega)) (Nat.le_of_ble_eq_true rfl) (Nat.le_of_ble_eq_true rfl) nd_1_38 (fun q38_7 H hP hD hS => ?_)
  refine W.widen (k := 4) (n := 19) (Nat.le_of_ble_eq_true rfl) (Nat.le_of_ble_eq_true rfl) ?_
  refine lv_dup hx hb nd_1_41 rfl ?_
  refine na_init (ws := [(h0, .inr (1, [.ref a6_1, .ref a14_3, .ref a21_5, .int 0, .int 0, .int 0])), (a6_1, .inl (cA 3, 3, .inr (.inr (.inr (.inr (fun _ => none)))))), (a14_3, .inl (cA 0, 3, .inl (fun _ => 0))), (a21_5, .inl (cA 0, 3, .inl (fun _ => 0)))]) (As := []) (q := q38_7) (cc := prog_3_method_1_code) (own := "OneSledgeForTwo$Lookahead") (nc_hill l cA D) ⟨hx, hb, hml, hown, ht2⟩ rfl ng_0 (wi_1 _ (List.mem_of_getElem? (i := 2) rfl) rfl) (Or.inl (wi_1 _ (List.mem_of_getElem? (i := 182) rfl) rfl)) (wi_1 _ (List.mem_of_getElem? (i := 27) rfl) rfl) ⟨rfl, by decide, by decide, by decide +kernel⟩ ⟨Nat.le_of_ble_eq_true rfl, Nat.le_of_ble_eq_true rfl⟩ hK hO hP hD hS hA hl.1 (Nat.le_of_ble_eq_true rfl) nd_1_42 ⟨Nat.le_of_ble_eq_true rfl, Nat.le_of_ble_eq_true rfl⟩ (fun u42_8 H locs _ hP hD hS => ?_)
  refine W.widen (k := 10) (n := 91) (Nat.le_of_ble_eq_true rfl) (Nat.le_of_ble_eq_true rfl) ?_
  have hP : va_P D ma_cls ((h0, .inr (1, [.ref a6_1, .ref a14_3, .ref a21_5, .int 0, .int 0, .int 0])) :: (a6_1, .inl (cA 3, 3, .inr (.inr (.inr (.inr (fun _ => none)))))) :: (a14_3, .inl (cA 0, 3, .inl (fun _ => 0))) :: (a21_5, .inl (cA 0, 3, .inl (fun _ => 0))) :: na_hill cA q38_7 u42_8) H := hP
  have hD : va_D A ((h0, .inr (1, [.ref a6_1, .ref a14_3, .ref a21_5, .int 0, .int 0, .int 0])) :: (a6_1, .inl (cA 3, 3, .inr (.inr (.inr (.inr (fun _ => none)))))) :: (a14_3, .inl (cA 0, 3, .inl (fun _ => 0))) :: (a21_5, .inl (cA 0, 3, .inl (fun _ => 0))) :: na_hill cA q38_7 u42_8) := hD
  refine va_astq hx hb hK hP hD hS 1 3 4 0 rfl rfl rfl rfl (by unfold vp_in; decide) nd_1_45 (fun H locs hP hD hS => ?_)
  have hP : va_P D ma_cls ((h0, .inr (1, [.ref a6_1, .ref a14_3, .ref a21_5, .int 0, .int 0, .int 0])) :: (a6_1, .inl (cA 3, 3, .inr (.inr (.inr (.inr (va_up (fun _ => none) (0 : Int32).toNatClampNeg (some q38_7))))))) :: (a14_3, .inl (cA 0, 3, .inl (fun _ => 0))) :: (a21_5, .inl (cA 0, 3, .inl (fun _ => 0))) :: na_hill cA q38_7 u42_8) H := hP
  have hD : va_D A ((h0, .inr (1, [.ref a6_1, .ref a14_3, .ref a21_5, .int 0, .int 0, .int 0])) :: (a6_1, .inl (cA 3, 3, .inr (.inr (.inr (.inr (va_up (fun _ => none) (0 : Int32).toNatClampNeg (some q38_7))))))) :: (a14_3, .inl (cA 0, 3, .inl (fun _ => 0))) :: (a21_5, .inl (cA 0, 3, .inl (fun _ => 0))) :: na_hill cA q38_7 u42_8) := hD
  refine lv_iinc (v := 1) (lv' := [(1, .int 1), (0, .ref h0)]) hx hb nd_1_46 hl (k := 0) rfl (by decide) (by decide) rfl (fun ls hl => ?_)
  refine lv_goto (tgt := 28) hx hb nd_1_49 (by decide) ?_
  refine lv_iload_n hx hb nd_1_28 rfl (lv_at hl 0 rfl) ?_
  refine lv_iconst (v := 3) hx hb nd_1_29 (by decide) ?_
  refine lv_icmp_ge (tgt := 52) hx hb nd_1_30 (by decide) (fun z => absurd z (by decide)) (fun _ => ?_)
  refine lv_aload_n hx hb nd_1_33 rfl (lv_at hl 1 rfl) ?_
  refine va_get (D := D) (ci := 1) (v := .ref a6_1) (C := "OneSledgeForTwo$Lookahead") (T := tf_1) (N := 6) hx hb ht2 in_1 hown hK hP 0 rfl rfl 0 (by decide) (ht2 _ (wi_1 _ (List.mem_of_getElem? (i := 183) rfl) rfl)) (fun _ h9 => h9) rfl nd_1_34 ?_
  refine lv_iload_n hx hb nd_1_37 rfl (lv_at hl 0 rfl) ?_
  refine va_new (ci := 0) (fs := [.null, .int 0, .int 0, .int 0, .int 0, .int 0, .int 0, .int 0, .int 0, .null]) (C := "OneSledgeForTwo$Hill") (T := tf_0) (N := 10) hx hb ht2 in_0 ty_0 tyo_0 hown (ht2 _ (wi_1 _ (List.mem_of_getElem? (i := 180) rfl) rfl)) (ht2 _ (wi_1 _ (List.mem_of_getElem? (i := 25) rfl) rfl)) (ht2 _ (wi_1 _ (List.mem_of_getElem? (i := 2) rfl) rfl)) hK hP hD hS hA rfl (fun j hj => match j, hj with
    | 0, _ => rfl
    | 1, _ => rfl
    | 2, _ => rfl
    | 3, _ => rfl
    | 4, _ => rfl
    | 5, _ => rfl
    | 6, _ => rfl
    | 7, _ => rfl
    | 8, _ => rfl
    | 9, _ => rfl
    | j + 10, hj => absurd hj (by omega)) (Nat.le_of_ble_eq_true rfl) (Nat.le_of_ble_eq_true rfl) nd_1_38 (fun q38_9 H hP hD hS => ?_)
  refine W.widen (k := 11) (n := 101) (Nat.le_of_ble_eq_true rfl) (Nat.le_of_ble_eq_true rfl) ?_
  refine lv_dup hx hb nd_1_41 rfl ?_
  refine na_init (ws := ((h0, .inr (1, [.ref a6_1, .ref a14_3, .ref a21_5, .int 0, .int 0, .int 0])) :: (a6_1, .inl (cA 3, 3, .inr (.inr (.inr (.inr (va_up (fun _ => none) (0 : Int32).toNatClampNeg (some q38_7))))))) :: (a14_3, .inl (cA 0, 3, .inl (fun _ => 0))) :: (a21_5, .inl (cA 0, 3, .inl (fun _ => 0))) :: na_hill cA q38_7 u42_8)) (As := []) (q := q38_9) (cc := prog_3_method_1_code) (own := "OneSledgeForTwo$Lookahead") (nc_hill l cA D) ⟨hx, hb, hml, hown, ht2⟩ rfl ng_0 (wi_1 _ (List.mem_of_getElem? (i := 2) rfl) rfl) (Or.inl (wi_1 _ (List.mem_of_getElem? (i := 182) rfl) rfl)) (wi_1 _ (List.mem_of_getElem? (i := 27) rfl) rfl) ⟨rfl, by decide, by decide, by decide +kernel⟩ ⟨Nat.le_of_ble_eq_true rfl, Nat.le_of_ble_eq_true rfl⟩ hK hO hP hD hS hA hl.1 (Nat.le_of_ble_eq_true rfl) nd_1_42 ⟨Nat.le_of_ble_eq_true rfl, Nat.le_of_ble_eq_true rfl⟩ (fun u42_10 H locs _ hP hD hS => ?_)
  refine W.widen (k := 17) (n := 173) (Nat.le_of_ble_eq_true rfl) (Nat.le_of_ble_eq_true rfl) ?_
  have hP : va_P D ma_cls ((h0, .inr (1, [.ref a6_1, .ref a14_3, .ref a21_5, .int 0, .int 0, .int 0])) :: (a6_1, .inl (cA 3, 3, .inr (.inr (.inr (.inr (va_up (fun _ => none) (0 : Int32).toNatClampNeg (some q38_7))))))) :: (a14_3, .inl (cA 0, 3, .inl (fun _ => 0))) :: (a21_5, .inl (cA 0, 3, .inl (fun _ => 0))) :: (na_hill cA q38_9 u42_10 ++ na_hill cA q38_7 u42_8)) H := na_rotP [(h0, .inr (1, [.ref a6_1, .ref a14_3, .ref a21_5, .int 0, .int 0, .int 0])), (a6_1, .inl (cA 3, 3, .inr (.inr (.inr (.inr (va_up (fun _ => none) (0 : Int32).toNatClampNeg (some q38_7))))))), (a14_3, .inl (cA 0, 3, .inl (fun _ => 0))), (a21_5, .inl (cA 0, 3, .inl (fun _ => 0)))] hP
  have hD : va_D A ((h0, .inr (1, [.ref a6_1, .ref a14_3, .ref a21_5, .int 0, .int 0, .int 0])) :: (a6_1, .inl (cA 3, 3, .inr (.inr (.inr (.inr (va_up (fun _ => none) (0 : Int32).toNatClampNeg (some q38_7))))))) :: (a14_3, .inl (cA 0, 3, .inl (fun _ => 0))) :: (a21_5, .inl (cA 0, 3, .inl (fun _ => 0))) :: (na_hill cA q38_9 u42_10 ++ na_hill cA q38_7 u42_8)) := na_rotD [(h0, .inr (1, [.ref a6_1, .ref a14_3, .ref a21_5, .int 0, .int 0, .int 0])), (a6_1, .inl (cA 3, 3, .inr (.inr (.inr (.inr (va_up (fun _ => none) (0 : Int32).toNatClampNeg (some q38_7))))))), (a14_3, .inl (cA 0, 3, .inl (fun _ => 0))), (a21_5, .inl (cA 0, 3, .inl (fun _ => 0)))] hD
  refine va_astq hx hb hK hP hD hS 1 3 4 0 rfl rfl rfl rfl (by unfold vp_in; decide) nd_1_45 (fun H locs hP hD hS => ?_)
  have hP : va_P D ma_cls ((h0, .inr (1, [.ref a6_1, .ref a14_3, .ref a21_5, .int 0, .int 0, .int 0])) :: (a6_1, .inl (cA 3, 3, .inr (.inr (.inr (.inr (va_up (va_up (fun _ => none) (0 : Int32).toNatClampNeg (some q38_7)) (1 : Int32).toNatClampNeg (some q38_9))))))) :: (a14_3, .inl (cA 0, 3, .inl (fun _ => 0))) :: (a21_5, .inl (cA 0, 3, .inl (fun _ => 0))) :: (na_hill cA q38_9 u42_10 ++ na_hill cA q38_7 u42_8)) H := hP
  have hD : va_D A ((h0, .inr (1, [.ref a6_1, .ref a14_3, .ref a21_5, .int 0, .int 0, .int 0])) :: (a6_1, .inl (cA 3, 3, .inr (.inr (.inr (.inr (va_up (va_up (fun _ => none) (0 : Int32).toNatClampNeg (some q38_7)) (1 : Int32).toNatClampNeg (some q38_9))))))) :: (a14_3, .inl (cA 0, 3, .inl (fun _ => 0))) :: (a21_5, .inl (cA 0, 3, .inl (fun _ => 0))) :: (na_hill cA q38_9 u42_10 ++ na_hill cA q38_7 u42_8)) := hD
  refine lv_iinc (v := 2) (lv' := [(1, .int 2), (0, .ref h0)]) hx hb nd_1_46 hl (k := 0) rfl (by decide) (by decide) rfl (fun ls hl => ?_)
  refine lv_goto (tgt := 28) hx hb nd_1_49 (by decide) ?_
  refine lv_iload_n hx hb nd_1_28 rfl (lv_at hl 0 rfl) ?_
  refine lv_iconst (v := 3) hx hb nd_1_29 (by decide) ?_
  refine lv_icmp_ge (tgt := 52) hx hb nd_1_30 (by decide) (fun z => absurd z (by decide)) (fun _ => ?_)
  refine lv_aload_n hx hb nd_1_33 rfl (lv_at hl 1 rfl) ?_
  refine va_get (D := D) (ci := 1) (v := .ref a6_1) (C := "OneSledgeForTwo$Lookahead") (T := tf_1) (N := 6) hx hb ht2 in_1 hown hK hP 0 rfl rfl 0 (by decide) (ht2 _ (wi_1 _ (List.mem_of_getElem? (i := 183) rfl) rfl)) (fun _ h9 => h9) rfl nd_1_34 ?_
  refine lv_iload_n hx hb nd_1_37 rfl (lv_at hl 0 rfl) ?_
  refine va_new (ci := 0) (fs := [.null, .int 0, .int 0, .int 0, .int 0, .int 0, .int 0, .int 0, .int 0, .null]) (C := "OneSledgeForTwo$Hill") (T := tf_0) (N := 10) hx hb ht2 in_0 ty_0 tyo_0 hown (ht2 _ (wi_1 _ (List.mem_of_getElem? (i := 180) rfl) rfl)) (ht2 _ (wi_1 _ (List.mem_of_getElem? (i := 25) rfl) rfl)) (ht2 _ (wi_1 _ (List.mem_of_getElem? (i := 2) rfl) rfl)) hK hP hD hS hA rfl (fun j hj => match j, hj with
    | 0, _ => rfl
    | 1, _ => rfl
    | 2, _ => rfl
    | 3, _ => rfl
    | 4, _ => rfl
    | 5, _ => rfl
    | 6, _ => rfl
    | 7, _ => rfl
    | 8, _ => rfl
    | 9, _ => rfl
    | j + 10, hj => absurd hj (by omega)) (Nat.le_of_ble_eq_true rfl) (Nat.le_of_ble_eq_true rfl) nd_1_38 (fun q38_11 H hP hD hS => ?_)
  refine W.widen (k := 18) (n := 183) (Nat.le_of_ble_eq_true rfl) (Nat.le_of_ble_eq_true rfl) ?_
  refine lv_dup hx hb nd_1_41 rfl ?_
  refine na_init (ws := ((h0, .inr (1, [.ref a6_1, .ref a14_3, .ref a21_5, .int 0, .int 0, .int 0])) :: (a6_1, .inl (cA 3, 3, .inr (.inr (.inr (.inr (va_up (va_up (fun _ => none) (0 : Int32).toNatClampNeg (some q38_7)) (1 : Int32).toNatClampNeg (some q38_9))))))) :: (a14_3, .inl (cA 0, 3, .inl (fun _ => 0))) :: (a21_5, .inl (cA 0, 3, .inl (fun _ => 0))) :: (na_hill cA q38_9 u42_10 ++ na_hill cA q38_7 u42_8))) (As := []) (q := q38_11) (cc := prog_3_method_1_code) (own := "OneSledgeForTwo$Lookahead") (nc_hill l cA D) ⟨hx, hb, hml, hown, ht2⟩ rfl ng_0 (wi_1 _ (List.mem_of_getElem? (i := 2) rfl) rfl) (Or.inl (wi_1 _ (List.mem_of_getElem? (i := 182) rfl) rfl)) (wi_1 _ (List.mem_of_getElem? (i := 27) rfl) rfl) ⟨rfl, by decide, by decide, by decide +kernel⟩ ⟨Nat.le_of_ble_eq_true rfl, Nat.le_of_ble_eq_true rfl⟩ hK hO hP hD hS hA hl.1 (Nat.le_of_ble_eq_true rfl) nd_1_42 ⟨Nat.le_of_ble_eq_true rfl, Nat.le_of_ble_eq_true rfl⟩ (fun u42_12 H locs _ hP hD hS => ?_)
  refine W.widen (k := 24) (n := 255) (Nat.le_of_ble_eq_true rfl) (Nat.le_of_ble_eq_true rfl) ?_
  have hP : va_P D ma_cls ((h0, .inr (1, [.ref a6_1, .ref a14_3, .ref a21_5, .int 0, .int 0, .int 0])) :: (a6_1, .inl (cA 3, 3, .inr (.inr (.inr (.inr (va_up (va_up (fun _ => none) (0 : Int32).toNatClampNeg (some q38_7)) (1 : Int32).toNatClampNeg (some q38_9))))))) :: (a14_3, .inl (cA 0, 3, .inl (fun _ => 0))) :: (a21_5, .inl (cA 0, 3, .inl (fun _ => 0))) :: (na_hill cA q38_11 u42_12 ++ (na_hill cA q38_9 u42_10 ++ na_hill cA q38_7 u42_8))) H := na_rotP [(h0, .inr (1, [.ref a6_1, .ref a14_3, .ref a21_5, .int 0, .int 0, .int 0])), (a6_1, .inl (cA 3, 3, .inr (.inr (.inr (.inr (va_up (va_up (fun _ => none) (0 : Int32).toNatClampNeg (some q38_7)) (1 : Int32).toNatClampNeg (some q38_9))))))), (a14_3, .inl (cA 0, 3, .inl (fun _ => 0))), (a21_5, .inl (cA 0, 3, .inl (fun _ => 0)))] hP
  have hD : va_D A ((h0, .inr (1, [.ref a6_1, .ref a14_3, .ref a21_5, .int 0, .int 0, .int 0])) :: (a6_1, .inl (cA 3, 3, .inr (.inr (.inr (.inr (va_up (va_up (fun _ => none) (0 : Int32).toNatClampNeg (some q38_7)) (1 : Int32).toNatClampNeg (some q38_9))))))) :: (a14_3, .inl (cA 0, 3, .inl (fun _ => 0))) :: (a21_5, .inl (cA 0, 3, .inl (fun _ => 0))) :: (na_hill cA q38_11 u42_12 ++ (na_hill cA q38_9 u42_10 ++ na_hill cA q38_7 u42_8))) := na_rotD [(h0, .inr (1, [.ref a6_1, .ref a14_3, .ref a21_5, .int 0, .int 0, .int 0])), (a6_1, .inl (cA 3, 3, .inr (.inr (.inr (.inr (va_up (va_up (fun _ => none) (0 : Int32).toNatClampNeg (some q38_7)) (1 : Int32).toNatClampNeg (some q38_9))))))), (a14_3, .inl (cA 0, 3, .inl (fun _ => 0))), (a21_5, .inl (cA 0, 3, .inl (fun _ => 0)))] hD
  refine va_astq hx hb hK hP hD hS 1 3 4 0 rfl rfl rfl rfl (by unfold vp_in; decide) nd_1_45 (fun H locs hP hD hS => ?_)
  have hP : va_P D ma_cls ((h0, .inr (1, [.ref a6_1, .ref a14_3, .ref a21_5, .int 0, .int 0, .int 0])) :: (a6_1, .inl (cA 3, 3, .inr (.inr (.inr (.inr (va_up (va_up (va_up (fun _ => none) (0 : Int32).toNatClampNeg (some q38_7)) (1 : Int32).toNatClampNeg (some q38_9)) (2 : Int32).toNatClampNeg (some q38_11))))))) :: (a14_3, .inl (cA 0, 3, .inl (fun _ => 0))) :: (a21_5, .inl (cA 0, 3, .inl (fun _ => 0))) :: (na_hill cA q38_11 u42_12 ++ (na_hill cA q38_9 u42_10 ++ na_hill cA q38_7 u42_8))) H := hP
  have hD : va_D A ((h0, .inr (1, [.ref a6_1, .ref a14_3, .ref a21_5, .int 0, .int 0, .int 0])) :: (a6_1, .inl (cA 3, 3, .inr (.inr (.inr (.inr (va_up (va_up (va_up (fun _ => none) (0 : Int32).toNatClampNeg (some q38_7)) (1 : Int32).toNatClampNeg (some q38_9)) (2 : Int32).toNatClampNeg (some q38_11))))))) :: (a14_3, .inl (cA 0, 3, .inl (fun _ => 0))) :: (a21_5, .inl (cA 0, 3, .inl (fun _ => 0))) :: (na_hill cA q38_11 u42_12 ++ (na_hill cA q38_9 u42_10 ++ na_hill cA q38_7 u42_8))) := hD
  refine lv_iinc (v := 3) (lv' := [(1, .int 3), (0, .ref h0)]) hx hb nd_1_46 hl (k := 0) rfl (by decide) (by decide) rfl (fun ls hl => ?_)
  refine lv_goto (tgt := 28) hx hb nd_1_49 (by decide) ?_
  refine lv_iload_n hx hb nd_1_28 rfl (lv_at hl 0 rfl) ?_
  refine lv_iconst (v := 3) hx hb nd_1_29 (by decide) ?_
  refine lv_icmp_ge (tgt := 52) hx hb nd_1_30 (by decide) (fun _ => ?_) (fun z => absurd (by decide) z)
  have hP := na_ext (g := fun k => some ((fun k => match k with | 0 => q38_7 | 1 => q38_9 | _ => q38_11) k)) 1 hP rfl (fun k hk => match k, hk with
    | 0, _ => rfl
    | 1, _ => rfl
    | 2, _ => rfl
    | k + 3, hk => absurd hk (by omega))
  have hD := va_D.set (p := 1) (e := .inl (cA 3, 3, .inr (.inr (.inr (.inr (fun k => some ((fun k => match k with | 0 => q38_7 | 1 => q38_9 | _ => q38_11) k))))))) hD rfl
  have hP : va_P D ma_cls ((h0, .inr (1, [.ref a6_1, .ref a14_3, .ref a21_5, .int 0, .int 0, .int 0])) :: (a6_1, .inl (cA 3, 3, .inr (.inr (.inr (.inr (fun k => some ((fun k => match k with | 0 => q38_7 | 1 => q38_9 | _ => q38_11) k))))))) :: (a14_3, .inl (cA 0, 3, .inl (fun _ => 0))) :: (a21_5, .inl (cA 0, 3, .inl (fun _ => 0))) :: (na_hill cA q38_11 u42_12 ++ (na_hill cA q38_9 u42_10 ++ na_hill cA q38_7 u42_8))) H := hP
  have hD : va_D A ((h0, .inr (1, [.ref a6_1, .ref a14_3, .ref a21_5, .int 0, .int 0, .int 0])) :: (a6_1, .inl (cA 3, 3, .inr (.inr (.inr (.inr (fun k => some ((fun k => match k with | 0 => q38_7 | 1 => q38_9 | _ => q38_11) k))))))) :: (a14_3, .inl (cA 0, 3, .inl (fun _ => 0))) :: (a21_5, .inl (cA 0, 3, .inl (fun _ => 0))) :: (na_hill cA q38_11 u42_12 ++ (na_hill cA q38_9 u42_10 ++ na_hill cA q38_7 u42_8))) := hD
  exact W.vret hx hb hr (fun t ht hW => ⟨⟨((fun k => match k with | 0 => a6_1 | 1 => a14_3 | _ => a21_5), (fun k => match k with | 0 => q38_7 | 1 => q38_9 | _ => q38_11), (fun k => match k with | 0 => u42_8 | 1 => u42_10 | _ => u42_12)), rfl, trivial, by rw [ht]; exact hP, hD⟩, hS.F ht⟩) hS.2.2 nd_1_52
theorem nd_6_0 : decode prog_8_method_1_code 0 = .ok (.aload_n 0, 1) := by decide +kernel
theorem nd_6_1 : decode prog_8_method_1_code 1 = .ok (.invokespecial 3, 3) := by decide +kernel
theorem nd_6_4 : decode prog_8_method_1_code 4 = .ok (.aload_n 0, 1) := by decide +kernel
theorem nd_6_5 : decode prog_8_method_1_code 5 = .ok (.bipush 20, 2) := by decide +kernel
theorem nd_6_7 : decode prog_8_method_1_code 7 = .ok (.newarray .int, 2) := by decide +kernel
theorem nd_6_9 : decode prog_8_method_1_code 9 = .ok (.putfield 9, 3) := by decide +kernel
theorem nd_6_12 : decode prog_8_method_1_code 12 = .ok (.return_, 1) := by decide +kernel
def ny_6 : MethodName := ⟨"OneSledgeForTwo$Trace", "<init>", "()V"⟩
theorem ng_6 : GoodIn ma_tb (na_ws ny_6 prog_8_method_1_code 1) := na_g (wi_1 _ (List.mem_of_getElem? (i := 209) rfl) rfl)
set_option maxHeartbeats 4000000 in
set_option maxRecDepth 100000 in
theorem nc_trace (l : Launch) (cA : Nat → ClassId) (D : va_G) : na_Ct l cA D ny_6 prog_8_method_1_code 1 6 [.null, .int 0] [] (na_trace cA) (fun _ => True) 1 12 1 20 := by
  intro h0 sz
  refine Met.ofW (cc := prog_8_method_1_code) (maxL := 1) (ret := none) (by decide) rfl ?_
  intro p e s m args below meth c s₁ B hml hv
  obtain ⟨rfl, hsz, hP, hK, hD0, hO⟩ := hv
  have hx := B.exec
  have hb := B.bytes
  have hr := B.returns
  have hts := atoms_spec (ws := na_ws ny_6 prog_8_method_1_code 1) B.pre
  have ht2 : ∀ w ∈ ma_tb, w.before ([.ref h0]).toArray s = true := fun w h => hts w (List.mem_cons_of_mem _ h)
  have hown : s.vm.findClass "OneSledgeForTwo$Trace" = some m.cls := findClass_of_methodNamed B.named
  have hlocks := B.notSynchronized
  have hin : meth.name = "<init>" := (name_of_methodNamed B.named B.method).1
  subst hsz
  have hD := hD0.self (sz := s.heap.size)
  generalize hAe : va_A [(h0, (.inr (6, [.null, .int 0]) : va_E))] s.heap.size = A at hD ⊢
  have hA : ∀ q : Nat, s.heap.size ≤ q → A q := fun q h => by rw [← hAe]; exact Or.inr h
  have hS : va_S A s.heap s.heap [] := va_S.rf
  have hl := lv_entry [.ref h0] (n := 1) (Nat.le_of_ble_eq_true rfl)
  rw [lg_entry_eq]
  generalize (lg_sl [.ref h0] ++ List.replicate (1 - (lg_sl [.ref h0]).length) Slot.unset).toArray = ls at hl ⊢
  have hl : lv_has ls 1 [(0, .ref h0)] := hl
  have hP : va_P D ma_cls [(h0, .inr (6, [.null, .int 0]))] s.heap := hP
  refine lv_aload_n hx hb nd_6_0 rfl (lv_at hl 0 rfl) ?_
  refine W.objInit hx hb hown (ht2 _ (wi_1 _ (List.mem_of_getElem? (i := 210) rfl) rfl)) (ht2 _ (wi_1 _ (List.mem_of_getElem? (i := 22) rfl) rfl)) (ht2 _ (wi_1 _ (List.mem_of_getElem? (i := 23) rfl) rfl)) rfl (by rw [hml]; exact hl.1) rfl nd_6_1 (Nat.le_of_ble_eq_true rfl) (Nat.le_of_ble_eq_true rfl) ?_
  refine W.eq (g2 := F0 m 4 ls []) rfl ?_
  refine lv_aload_n hx hb nd_6_4 rfl (lv_at hl 0 rfl) ?_
  refine lv_bipush (v := 20) hx hb nd_6_5 (by decide) ?_
  refine va_newa (atype := .int) (ty := .int) (a0 := (20, .inl (fun _ => 0))) hx hb (ht2 _ (wi_1 _ (List.mem_of_getElem? (i := 71) rfl) rfl)) rfl hK hP hD hS hA (fun _ => rfl) (by decide) (by decide) (Nat.le_of_ble_eq_true rfl) (Nat.le_of_ble_eq_true rfl) (Nat.le_of_ble_eq_true rfl) nd_6_7 (fun a7_1 c7_2 H hK1 hP hD hS => ?_)
  have e_c7_2 := na_one (c1 := cA 0) hK1 List.mem_cons_self
  subst e_c7_2
  refine W.widen (k := 1) (n := 20) (Nat.le_of_ble_eq_true rfl) (Nat.le_of_ble_eq_true rfl) ?_
  have hP : va_P D ma_cls [(h0, .inr (6, [.null, .int 0])), (a7_1, .inl (cA 0, 20, .inl (fun _ => 0)))] H := hP
  have hD : va_D A [(h0, .inr (6, [.null, .int 0])), (a7_1, .inl (cA 0, 20, .inl (fun _ => 0)))] := hD
  refine va_putF (D := D) (ci := 6) (v := .ref a7_1) (ty := .array .int) (C := "OneSledgeForTwo$Trace") (T := tf_6) (N := 2) hx hb ht2 in_6 ty_6 tyo_6 nm_6 hown hK hP hD hS 0 rfl rfl 0 (by decide) (ht2 _ (wi_1 _ (List.mem_of_getElem? (i := 211) rfl) rfl)) (fun _ h9 => h9) rfl hin rfl (by decide +kernel) rfl rfl (Nat.le_of_ble_eq_true rfl) nd_6_9 (fun H locs hP hD hS => ?_)
  have hP : va_P D ma_cls [(h0, .inr (6, [.ref a7_1, .int 0])), (a7_1, .inl (cA 0, 20, .inl (fun _ => 0)))] H := hP
  have hD : va_D A [(h0, .inr (6, [.ref a7_1, .int 0])), (a7_1, .inl (cA 0, 20, .inl (fun _ => 0)))] := hD
  exact W.vret hx hb hr (fun t ht hW => ⟨⟨a7_1, rfl, trivial, by rw [ht]; exact hP, hD⟩, hS.F ht⟩) hS.2.2 nd_6_12
theorem nd_5_0 : decode prog_7_method_1_code 0 = .ok (.aload_n 0, 1) := by decide +kernel
theorem nd_5_1 : decode prog_7_method_1_code 1 = .ok (.invokespecial 3, 3) := by decide +kernel
theorem nd_5_4 : decode prog_7_method_1_code 4 = .ok (.aload_n 0, 1) := by decide +kernel
theorem nd_5_5 : decode prog_7_method_1_code 5 = .ok (.sipush 160, 3) := by decide +kernel
theorem nd_5_8 : decode prog_7_method_1_code 8 = .ok (.newarray .long, 2) := by decide +kernel
theorem nd_5_10 : decode prog_7_method_1_code 10 = .ok (.putfield 9, 3) := by decide +kernel
theorem nd_5_13 : decode prog_7_method_1_code 13 = .ok (.aload_n 0, 1) := by decide +kernel
theorem nd_5_14 : decode prog_7_method_1_code 14 = .ok (.iconst (-1), 1) := by decide +kernel
theorem nd_5_15 : decode prog_7_method_1_code 15 = .ok (.putfield 15, 3) := by decide +kernel
theorem nd_5_18 : decode prog_7_method_1_code 18 = .ok (.return_, 1) := by decide +kernel
def ny_5 : MethodName := ⟨"OneSledgeForTwo$Shelf", "<init>", "()V"⟩
theorem ng_5 : GoodIn ma_tb (na_ws ny_5 prog_7_method_1_code 1) := na_g (wi_1 _ (List.mem_of_getElem? (i := 224) rfl) rfl)
set_option maxHeartbeats 4000000 in
set_option maxRecDepth 100000 in
theorem nc_shelf (l : Launch) (cA : Nat → ClassId) (D : va_G) : na_Ct l cA D ny_5 prog_7_method_1_code 1 5 [.null, .int 0, .int 0] [] (na_shelf cA) (fun _ => True) 1 12 1 160 := by
  intro h0 sz
  refine Met.ofW (cc := prog_7_method_1_code) (maxL := 1) (ret := none) (by decide) rfl ?_
  intro p e s m args below meth c s₁ B hml hv
  obtain ⟨rfl, hsz, hP, hK, hD0, hO⟩ := hv
  have hx := B.exec
  have hb := B.bytes
  have hr := B.returns
  have hts := atoms_spec (ws := na_ws ny_5 prog_7_method_1_code 1) B.pre
  have ht2 : ∀ w ∈ ma_tb, w.before ([.ref h0]).toArray s = true := fun w h => hts w (List.mem_cons_of_mem _ h)
  have hown : s.vm.findClass "OneSledgeForTwo$Shelf" = some m.cls := findClass_of_methodNamed B.named
  have hlocks := B.notSynchronized
  have hin : meth.name = "<init>" := (name_of_methodNamed B.named B.method).1
  subst hsz
  have hD := hD0.self (sz := s.heap.size)
  generalize hAe : va_A [(h0, (.inr (5, [.null, .int 0, .int 0]) : va_E))] s.heap.size = A at hD ⊢
  have hA : ∀ q : Nat, s.heap.size ≤ q → A q := fun q h => by rw [← hAe]; exact Or.inr h
  have hS : va_S A s.heap s.heap [] := va_S.rf
  have hl := lv_entry [.ref h0] (n := 1) (Nat.le_of_ble_eq_true rfl)
  rw [lg_entry_eq]
  generalize (lg_sl [.ref h0] ++ List.replicate (1 - (lg_sl [.ref h0]).length) Slot.unset).toArray = ls at hl ⊢
  have hl : lv_has ls 1 [(0, .ref h0)] := hl
  have hP : va_P D ma_cls [(h0, .inr (5, [.null, .int 0, .int 0]))] s.heap := hP
  refine lv_aload_n hx hb nd_5_0 rfl (lv_at hl 0 rfl) ?_
  refine W.objInit hx hb hown (ht2 _ (wi_1 _ (List.mem_of_getElem? (i := 225) rfl) rfl)) (ht2 _ (wi_1 _ (List.mem_of_getElem? (i := 22) rfl) rfl)) (ht2 _ (wi_1 _ (List.mem_of_getElem? (i := 23) rfl) rfl)) rfl (by rw [hml]; exact hl.1) rfl nd_5_1 (Nat.le_of_ble_eq_true rfl) (Nat.le_of_ble_eq_true rfl) ?_
  refine W.eq (g2 := F0 m 4 ls []) rfl ?_
  refine lv_aload_n hx hb nd_5_4 rfl (lv_at hl 0 rfl) ?_
  refine lv_sipush (v := 160) hx hb nd_5_5 (by decide) ?_
  refine va_newa (atype := .long) (ty := .long) (a0 := (160, .inr (.inl (fun _ => 0)))) hx hb (ht2 _ (wi_2 _ (List.mem_of_getElem? (i := 0) rfl) rfl)) rfl hK hP hD hS hA (fun _ => rfl) (by decide) (by decide) (Nat.le_of_ble_eq_true rfl) (Nat.le_of_ble_eq_true rfl) (Nat.le_of_ble_eq_true rfl) nd_5_8 (fun a8_1 c8_2 H hK1 hP hD hS => ?_)
  have e_c8_2 := na_one (c1 := cA 1) hK1 (List.mem_cons_of_mem _ List.mem_cons_self)
  subst e_c8_2
  refine W.widen (k := 1) (n := 160) (Nat.le_of_ble_eq_true rfl) (Nat.le_of_ble_eq_true rfl) ?_
  have hP : va_P D ma_cls [(h0, .inr (5, [.null, .int 0, .int 0])), (a8_1, .inl (cA 1, 160, .inr (.inl (fun _ => 0))))] H := hP
  have hD : va_D A [(h0, .inr (5, [.null, .int 0, .int 0])), (a8_1, .inl (cA 1, 160, .inr (.inl (fun _ => 0))))] := hD
  refine va_putF (D := D) (ci := 5) (v := .ref a8_1) (ty := .array .long) (C := "OneSledgeForTwo$Shelf") (T := tf_5) (N := 3) hx hb ht2 in_5 ty_5 tyo_5 nm_5 hown hK hP hD hS 0 rfl rfl 0 (by decide) (ht2 _ (wi_1 _ (List.mem_of_getElem? (i := 226) rfl) rfl)) (fun _ h9 => h9) rfl hin rfl (by decide +kernel) rfl rfl (Nat.le_of_ble_eq_true rfl) nd_5_10 (fun H locs hP hD hS => ?_)
  have hP : va_P D ma_cls [(h0, .inr (5, [.ref a8_1, .int 0, .int 0])), (a8_1, .inl (cA 1, 160, .inr (.inl (fun _ => 0))))] H := hP
  have hD : va_D A [(h0, .inr (5, [.ref a8_1, .int 0, .int 0])), (a8_1, .inl (cA 1, 160, .inr (.inl (fun _ => 0))))] := hD
  refine lv_aload_n hx hb nd_5_13 rfl (lv_at hl 0 rfl) ?_
  refine lv_iconst (v := -1) hx hb nd_5_14 (by decide) ?_
  refine va_put (D := D) (ci := 5) (v := .int (-1)) (ty := .int) (C := "OneSledgeForTwo$Shelf") (T := tf_5) (N := 3) hx hb ht2 in_5 ty_5 tyo_5 nm_5 hown hK hP hD hS 0 rfl rfl 1 (by decide) (ht2 _ (wi_1 _ (List.mem_of_getElem? (i := 228) rfl) rfl)) (fun _ h9 => h9) rfl (by decide +kernel) rfl rfl (Nat.le_of_ble_eq_true rfl) nd_5_15 (fun H locs hP hD hS => ?_)
  have hP : va_P D ma_cls [(h0, .inr (5, [.ref a8_1, .int (-1), .int 0])), (a8_1, .inl (cA 1, 160, .inr (.inl (fun _ => 0))))] H := hP
  have hD : va_D A [(h0, .inr (5, [.ref a8_1, .int (-1), .int 0])), (a8_1, .inl (cA 1, 160, .inr (.inl (fun _ => 0))))] := hD
  exact W.vret hx hb hr (fun t ht hW => ⟨⟨a8_1, rfl, trivial, by rw [ht]; exact hP, hD⟩, hS.F ht⟩) hS.2.2 nd_5_18
