/-! PART 07 (printed by wip/whole/gen/facts.py): the code as data is the code of the class files. -/
/-- the shape of an instruction's row: its length, its targets -/
def ma_iok (μ pc : Nat) (ins : Instr) (len : Nat) : Bool := match ins with
  | .iconst _ | .iload_n _ | .lload_n _ | .aload_n _ | .istore_n _ | .astore_n _ | .lconst _ | .iadd | .isub | .imul | .ior | .ixor | .iand | .ishl | .ishr | .iushr | .idiv | .irem | .ineg | .i2l | .l2i | .i2b | .i2s | .i2c | .dup | .dup2 | .dup_x1 | .pop | .iaload | .baload | .laload | .aaload | .iastore | .lastore | .arraylength | .ireturn | .lreturn | .areturn | .return_ => Nat.beq len 1
  | .bipush _ | .ldc _ | .iload _ | .aload _ | .istore _ | .astore _ => Nat.beq len 2
  | .sipush _ | .ldc_w _ | .iinc _ _ | .getfield _ | .getstatic _ | .invokevirtual _ | .invokestatic _ => Nat.beq len 3
  | .putfield i => Nat.beq len 3 && (match ma_ft (ma_cl μ) i with
    | some (g, k, _) => !(ma_tf (ma_cg g) (ma_ks g k)).2.2.2
    | none => true)
  | .ifCond _ off | .if_icmp _ off | .goto off => Nat.beq len 3 && decide (0 ≤ (pc : Int) + off)
  | .tableswitch d _ _ offs => decide (0 ≤ (pc : Int) + d) && offs.toList.all (fun o => decide (0 ≤ (pc : Int) + o))
  | .lookupswitch d ps => (ps.toList.zip (ps.toList.drop 1)).all (fun (a, next) => a.1 < next.1) && (decide (0 ≤ (pc : Int) + d) && ps.toList.all (fun o => decide (0 ≤ (pc : Int) + o.2)))
  | _ => true
theorem ck_0 : ∀ q ∈ cd_0, decode prog_2_method_2_code q.1 = .ok (q.2.1, q.2.2) ∧ ma_iok 0 q.1 q.2.1 q.2.2 = true := by decide +kernel
theorem ck_1 : ∀ q ∈ cd_1, decode prog_2_method_3_code q.1 = .ok (q.2.1, q.2.2) ∧ ma_iok 1 q.1 q.2.1 q.2.2 = true := by decide +kernel
theorem ck_2 : ∀ q ∈ cd_2, decode prog_2_method_4_code q.1 = .ok (q.2.1, q.2.2) ∧ ma_iok 2 q.1 q.2.1 q.2.2 = true := by decide +kernel
theorem ck_3 : ∀ q ∈ cd_3, decode prog_2_method_5_code q.1 = .ok (q.2.1, q.2.2) ∧ ma_iok 3 q.1 q.2.1 q.2.2 = true := by decide +kernel
theorem ck_4 : ∀ q ∈ cd_4, decode prog_2_method_6_code q.1 = .ok (q.2.1, q.2.2) ∧ ma_iok 4 q.1 q.2.1 q.2.2 = true := by decide +kernel
theorem ck_5 : ∀ q ∈ cd_5, decode prog_2_method_7_code q.1 = .ok (q.2.1, q.2.2) ∧ ma_iok 5 q.1 q.2.1 q.2.2 = true := by decide +kernel
theorem ck_6 : ∀ q ∈ cd_6, decode prog_2_method_8_code q.1 = .ok (q.2.1, q.2.2) ∧ ma_iok 6 q.1 q.2.1 q.2.2 = true := by decide +kernel
theorem ck_7 : ∀ q ∈ cd_7, decode prog_2_method_9_code q.1 = .ok (q.2.1, q.2.2) ∧ ma_iok 7 q.1 q.2.1 q.2.2 = true := by decide +kernel
theorem ck_8 : ∀ q ∈ cd_8, decode prog_2_method_10_code q.1 = .ok (q.2.1, q.2.2) ∧ ma_iok 8 q.1 q.2.1 q.2.2 = true := by decide +kernel
theorem ck_9 : ∀ q ∈ cd_9, decode prog_2_method_11_code q.1 = .ok (q.2.1, q.2.2) ∧ ma_iok 9 q.1 q.2.1 q.2.2 = true := by decide +kernel
theorem ck_10 : ∀ q ∈ cd_10, decode prog_2_method_12_code q.1 = .ok (q.2.1, q.2.2) ∧ ma_iok 10 q.1 q.2.1 q.2.2 = true := by decide +kernel
theorem ck_11 : ∀ q ∈ cd_11, decode prog_2_method_13_code q.1 = .ok (q.2.1, q.2.2) ∧ ma_iok 11 q.1 q.2.1 q.2.2 = true := by decide +kernel
theorem ck_12 : ∀ q ∈ cd_12, decode prog_2_method_14_code q.1 = .ok (q.2.1, q.2.2) ∧ ma_iok 12 q.1 q.2.1 q.2.2 = true := by decide +kernel
theorem ck_13 : ∀ q ∈ cd_13, decode prog_2_method_15_code q.1 = .ok (q.2.1, q.2.2) ∧ ma_iok 13 q.1 q.2.1 q.2.2 = true := by decide +kernel
theorem ck_14 : ∀ q ∈ cd_14, decode prog_2_method_16_code q.1 = .ok (q.2.1, q.2.2) ∧ ma_iok 14 q.1 q.2.1 q.2.2 = true := by decide +kernel
theorem ck_15 : ∀ q ∈ cd_15, decode prog_2_method_17_code q.1 = .ok (q.2.1, q.2.2) ∧ ma_iok 15 q.1 q.2.1 q.2.2 = true := by decide +kernel
theorem ck_16 : ∀ q ∈ cd_16, decode prog_2_method_18_code q.1 = .ok (q.2.1, q.2.2) ∧ ma_iok 16 q.1 q.2.1 q.2.2 = true := by decide +kernel
theorem ck_17 : ∀ q ∈ cd_17, decode prog_2_method_19_code q.1 = .ok (q.2.1, q.2.2) ∧ ma_iok 17 q.1 q.2.1 q.2.2 = true := by decide +kernel
theorem ck_18 : ∀ q ∈ cd_18, decode prog_2_method_20_code q.1 = .ok (q.2.1, q.2.2) ∧ ma_iok 18 q.1 q.2.1 q.2.2 = true := by decide +kernel
theorem ck_19 : ∀ q ∈ cd_19, decode prog_2_method_21_code q.1 = .ok (q.2.1, q.2.2) ∧ ma_iok 19 q.1 q.2.1 q.2.2 = true := by decide +kernel
theorem ck_20 : ∀ q ∈ cd_20, decode prog_2_method_22_code q.1 = .ok (q.2.1, q.2.2) ∧ ma_iok 20 q.1 q.2.1 q.2.2 = true := by decide +kernel
theorem ck_21 : ∀ q ∈ cd_21, decode prog_3_method_2_code q.1 = .ok (q.2.1, q.2.2) ∧ ma_iok 21 q.1 q.2.1 q.2.2 = true := by decide +kernel
theorem ck_22 : ∀ q ∈ cd_22, decode prog_3_method_3_code q.1 = .ok (q.2.1, q.2.2) ∧ ma_iok 22 q.1 q.2.1 q.2.2 = true := by decide +kernel
theorem ck_23 : ∀ q ∈ cd_23, decode prog_3_method_4_code q.1 = .ok (q.2.1, q.2.2) ∧ ma_iok 23 q.1 q.2.1 q.2.2 = true := by decide +kernel
theorem ck_24 : ∀ q ∈ cd_24, decode prog_4_method_2_code q.1 = .ok (q.2.1, q.2.2) ∧ ma_iok 24 q.1 q.2.1 q.2.2 = true := by decide +kernel
theorem ck_25 : ∀ q ∈ cd_25, decode prog_4_method_3_code q.1 = .ok (q.2.1, q.2.2) ∧ ma_iok 25 q.1 q.2.1 q.2.2 = true := by decide +kernel
theorem ck_26 : ∀ q ∈ cd_26, decode prog_4_method_4_code q.1 = .ok (q.2.1, q.2.2) ∧ ma_iok 26 q.1 q.2.1 q.2.2 = true := by decide +kernel
theorem ck_27 : ∀ q ∈ cd_27, decode prog_4_method_5_code q.1 = .ok (q.2.1, q.2.2) ∧ ma_iok 27 q.1 q.2.1 q.2.2 = true := by decide +kernel
theorem ck_28 : ∀ q ∈ cd_28, decode prog_4_method_6_code q.1 = .ok (q.2.1, q.2.2) ∧ ma_iok 28 q.1 q.2.1 q.2.2 = true := by decide +kernel
theorem ck_29 : ∀ q ∈ cd_29, decode prog_4_method_7_code q.1 = .ok (q.2.1, q.2.2) ∧ ma_iok 29 q.1 q.2.1 q.2.2 = true := by decide +kernel
theorem ck_30 : ∀ q ∈ cd_30, decode prog_4_method_8_code q.1 = .ok (q.2.1, q.2.2) ∧ ma_iok 30 q.1 q.2.1 q.2.2 = true := by decide +kernel
theorem ck_31 : ∀ q ∈ cd_31, decode prog_4_method_9_code q.1 = .ok (q.2.1, q.2.2) ∧ ma_iok 31 q.1 q.2.1 q.2.2 = true := by decide +kernel
theorem ck_32 : ∀ q ∈ cd_32, decode prog_4_method_10_code q.1 = .ok (q.2.1, q.2.2) ∧ ma_iok 32 q.1 q.2.1 q.2.2 = true := by decide +kernel
theorem ck_33 : ∀ q ∈ cd_33, decode prog_5_method_2_code q.1 = .ok (q.2.1, q.2.2) ∧ ma_iok 33 q.1 q.2.1 q.2.2 = true := by decide +kernel
theorem ck_34 : ∀ q ∈ cd_34, decode prog_5_method_3_code q.1 = .ok (q.2.1, q.2.2) ∧ ma_iok 34 q.1 q.2.1 q.2.2 = true := by decide +kernel
theorem ck_35 : ∀ q ∈ cd_35, decode prog_5_method_4_code q.1 = .ok (q.2.1, q.2.2) ∧ ma_iok 35 q.1 q.2.1 q.2.2 = true := by decide +kernel
theorem ck_36 : ∀ q ∈ cd_36, decode prog_5_method_5_code q.1 = .ok (q.2.1, q.2.2) ∧ ma_iok 36 q.1 q.2.1 q.2.2 = true := by decide +kernel
theorem ck_37 : ∀ q ∈ cd_37, decode prog_5_method_6_code q.1 = .ok (q.2.1, q.2.2) ∧ ma_iok 37 q.1 q.2.1 q.2.2 = true := by decide +kernel
theorem ck_38 : ∀ q ∈ cd_38, decode prog_5_method_7_code q.1 = .ok (q.2.1, q.2.2) ∧ ma_iok 38 q.1 q.2.1 q.2.2 = true := by decide +kernel
theorem ck_39 : ∀ q ∈ cd_39, decode prog_5_method_8_code q.1 = .ok (q.2.1, q.2.2) ∧ ma_iok 39 q.1 q.2.1 q.2.2 = true := by decide +kernel
theorem ck_40 : ∀ q ∈ cd_40, decode prog_5_method_9_code q.1 = .ok (q.2.1, q.2.2) ∧ ma_iok 40 q.1 q.2.1 q.2.2 = true := by decide +kernel
theorem ck_41 : ∀ q ∈ cd_41, decode prog_5_method_10_code q.1 = .ok (q.2.1, q.2.2) ∧ ma_iok 41 q.1 q.2.1 q.2.2 = true := by decide +kernel
theorem ck_42 : ∀ q ∈ cd_42, decode prog_5_method_11_code q.1 = .ok (q.2.1, q.2.2) ∧ ma_iok 42 q.1 q.2.1 q.2.2 = true := by decide +kernel
theorem ck_43 : ∀ q ∈ cd_43, decode prog_6_method_2_code q.1 = .ok (q.2.1, q.2.2) ∧ ma_iok 43 q.1 q.2.1 q.2.2 = true := by decide +kernel
theorem ck_44 : ∀ q ∈ cd_44, decode prog_6_method_3_code q.1 = .ok (q.2.1, q.2.2) ∧ ma_iok 44 q.1 q.2.1 q.2.2 = true := by decide +kernel
theorem ck_45 : ∀ q ∈ cd_45, decode prog_6_method_4_code q.1 = .ok (q.2.1, q.2.2) ∧ ma_iok 45 q.1 q.2.1 q.2.2 = true := by decide +kernel
theorem ck_46 : ∀ q ∈ cd_46, decode prog_6_method_5_code q.1 = .ok (q.2.1, q.2.2) ∧ ma_iok 46 q.1 q.2.1 q.2.2 = true := by decide +kernel
theorem ck_47 : ∀ q ∈ cd_47, decode prog_6_method_6_code q.1 = .ok (q.2.1, q.2.2) ∧ ma_iok 47 q.1 q.2.1 q.2.2 = true := by decide +kernel
theorem ck_48 : ∀ q ∈ cd_48, decode prog_6_method_7_code q.1 = .ok (q.2.1, q.2.2) ∧ ma_iok 48 q.1 q.2.1 q.2.2 = true := by decide +kernel
theorem ck_49 : ∀ q ∈ cd_49, decode prog_6_method_8_code q.1 = .ok (q.2.1, q.2.2) ∧ ma_iok 49 q.1 q.2.1 q.2.2 = true := by decide +kernel
theorem ck_50 : ∀ q ∈ cd_50, decode prog_7_method_2_code q.1 = .ok (q.2.1, q.2.2) ∧ ma_iok 50 q.1 q.2.1 q.2.2 = true := by decide +kernel
theorem ck_51 : ∀ q ∈ cd_51, decode prog_7_method_3_code q.1 = .ok (q.2.1, q.2.2) ∧ ma_iok 51 q.1 q.2.1 q.2.2 = true := by decide +kernel
theorem ck_52 : ∀ q ∈ cd_52, decode prog_7_method_4_code q.1 = .ok (q.2.1, q.2.2) ∧ ma_iok 52 q.1 q.2.1 q.2.2 = true := by decide +kernel
theorem ck_53 : ∀ q ∈ cd_53, decode prog_7_method_5_code q.1 = .ok (q.2.1, q.2.2) ∧ ma_iok 53 q.1 q.2.1 q.2.2 = true := by decide +kernel
theorem ck_54 : ∀ q ∈ cd_54, decode prog_7_method_6_code q.1 = .ok (q.2.1, q.2.2) ∧ ma_iok 54 q.1 q.2.1 q.2.2 = true := by decide +kernel
theorem ck_55 : ∀ q ∈ cd_55, decode prog_7_method_7_code q.1 = .ok (q.2.1, q.2.2) ∧ ma_iok 55 q.1 q.2.1 q.2.2 = true := by decide +kernel
theorem ck_56 : ∀ q ∈ cd_56, decode prog_7_method_8_code q.1 = .ok (q.2.1, q.2.2) ∧ ma_iok 56 q.1 q.2.1 q.2.2 = true := by decide +kernel
theorem ck_57 : ∀ q ∈ cd_57, decode prog_8_method_2_code q.1 = .ok (q.2.1, q.2.2) ∧ ma_iok 57 q.1 q.2.1 q.2.2 = true := by decide +kernel
theorem ck_58 : ∀ q ∈ cd_58, decode prog_8_method_3_code q.1 = .ok (q.2.1, q.2.2) ∧ ma_iok 58 q.1 q.2.1 q.2.2 = true := by decide +kernel
theorem ck_59 : ∀ q ∈ cd_59, decode prog_8_method_4_code q.1 = .ok (q.2.1, q.2.2) ∧ ma_iok 59 q.1 q.2.1 q.2.2 = true := by decide +kernel
theorem ck_60 : ∀ q ∈ cd_60, decode prog_1_method_2_code q.1 = .ok (q.2.1, q.2.2) ∧ ma_iok 60 q.1 q.2.1 q.2.2 = true := by decide +kernel
theorem ck_61 : ∀ q ∈ cd_61, decode prog_1_method_3_code q.1 = .ok (q.2.1, q.2.2) ∧ ma_iok 61 q.1 q.2.1 q.2.2 = true := by decide +kernel
theorem ck_62 : ∀ q ∈ cd_62, decode prog_1_method_4_code q.1 = .ok (q.2.1, q.2.2) ∧ ma_iok 62 q.1 q.2.1 q.2.2 = true := by decide +kernel
theorem ck_63 : ∀ q ∈ cd_63, decode prog_1_method_5_code q.1 = .ok (q.2.1, q.2.2) ∧ ma_iok 63 q.1 q.2.1 q.2.2 = true := by decide +kernel
theorem ck_64 : ∀ q ∈ cd_64, decode prog_1_method_6_code q.1 = .ok (q.2.1, q.2.2) ∧ ma_iok 64 q.1 q.2.1 q.2.2 = true := by decide +kernel
theorem ck_65 : ∀ q ∈ cd_65, decode prog_1_method_7_code q.1 = .ok (q.2.1, q.2.2) ∧ ma_iok 65 q.1 q.2.1 q.2.2 = true := by decide +kernel
theorem ck_66 : ∀ q ∈ cd_66, decode prog_1_method_8_code q.1 = .ok (q.2.1, q.2.2) ∧ ma_iok 66 q.1 q.2.1 q.2.2 = true := by decide +kernel
theorem ck_67 : ∀ q ∈ cd_67, decode prog_1_method_9_code q.1 = .ok (q.2.1, q.2.2) ∧ ma_iok 67 q.1 q.2.1 q.2.2 = true := by decide +kernel
theorem ck_68 : ∀ q ∈ cd_68, decode prog_1_method_10_code q.1 = .ok (q.2.1, q.2.2) ∧ ma_iok 68 q.1 q.2.1 q.2.2 = true := by decide +kernel
theorem ck_69 : ∀ q ∈ cd_69, decode prog_1_method_11_code q.1 = .ok (q.2.1, q.2.2) ∧ ma_iok 69 q.1 q.2.1 q.2.2 = true := by decide +kernel
theorem ck_70 : ∀ q ∈ cd_70, decode prog_1_method_12_code q.1 = .ok (q.2.1, q.2.2) ∧ ma_iok 70 q.1 q.2.1 q.2.2 = true := by decide +kernel
theorem ck_71 : ∀ q ∈ cd_71, decode prog_1_method_13_code q.1 = .ok (q.2.1, q.2.2) ∧ ma_iok 71 q.1 q.2.1 q.2.2 = true := by decide +kernel
theorem ck_72 : ∀ q ∈ cd_72, decode prog_1_method_14_code q.1 = .ok (q.2.1, q.2.2) ∧ ma_iok 72 q.1 q.2.1 q.2.2 = true := by decide +kernel
theorem ck_73 : ∀ q ∈ cd_73, decode prog_1_method_15_code q.1 = .ok (q.2.1, q.2.2) ∧ ma_iok 73 q.1 q.2.1 q.2.2 = true := by decide +kernel
theorem ck_74 : ∀ q ∈ cd_74, decode prog_1_method_16_code q.1 = .ok (q.2.1, q.2.2) ∧ ma_iok 74 q.1 q.2.1 q.2.2 = true := by decide +kernel
theorem ck_75 : ∀ q ∈ cd_75, decode prog_1_method_17_code q.1 = .ok (q.2.1, q.2.2) ∧ ma_iok 75 q.1 q.2.1 q.2.2 = true := by decide +kernel
theorem ck_76 : ∀ q ∈ cd_76, decode prog_1_method_18_code q.1 = .ok (q.2.1, q.2.2) ∧ ma_iok 76 q.1 q.2.1 q.2.2 = true := by decide +kernel
theorem ck_77 : ∀ q ∈ cd_77, decode prog_1_method_19_code q.1 = .ok (q.2.1, q.2.2) ∧ ma_iok 77 q.1 q.2.1 q.2.2 = true := by decide +kernel
theorem ck_78 : ∀ q ∈ cd_78, decode prog_1_method_20_code q.1 = .ok (q.2.1, q.2.2) ∧ ma_iok 78 q.1 q.2.1 q.2.2 = true := by decide +kernel
theorem ck_79 : ∀ q ∈ cd_79, decode prog_1_method_21_code q.1 = .ok (q.2.1, q.2.2) ∧ ma_iok 79 q.1 q.2.1 q.2.2 = true := by decide +kernel
theorem ck_80 : ∀ q ∈ cd_80, decode prog_1_method_22_code q.1 = .ok (q.2.1, q.2.2) ∧ ma_iok 80 q.1 q.2.1 q.2.2 = true := by decide +kernel
theorem ck_81 : ∀ q ∈ cd_81, decode prog_1_method_23_code q.1 = .ok (q.2.1, q.2.2) ∧ ma_iok 81 q.1 q.2.1 q.2.2 = true := by decide +kernel
theorem ck_82 : ∀ q ∈ cd_82, decode prog_1_method_24_code q.1 = .ok (q.2.1, q.2.2) ∧ ma_iok 82 q.1 q.2.1 q.2.2 = true := by decide +kernel
theorem ck_83 : ∀ q ∈ cd_83, decode prog_1_method_25_code q.1 = .ok (q.2.1, q.2.2) ∧ ma_iok 83 q.1 q.2.1 q.2.2 = true := by decide +kernel
theorem ck_84 : ∀ q ∈ cd_84, decode prog_1_method_26_code q.1 = .ok (q.2.1, q.2.2) ∧ ma_iok 84 q.1 q.2.1 q.2.2 = true := by decide +kernel
theorem ck_85 : ∀ q ∈ cd_85, decode prog_1_method_27_code q.1 = .ok (q.2.1, q.2.2) ∧ ma_iok 85 q.1 q.2.1 q.2.2 = true := by decide +kernel
theorem ck_86 : ∀ q ∈ cd_86, decode prog_1_method_28_code q.1 = .ok (q.2.1, q.2.2) ∧ ma_iok 86 q.1 q.2.1 q.2.2 = true := by decide +kernel
theorem ck_87 : ∀ q ∈ cd_87, decode prog_1_method_29_code q.1 = .ok (q.2.1, q.2.2) ∧ ma_iok 87 q.1 q.2.1 q.2.2 = true := by decide +kernel
theorem ck_88 : ∀ q ∈ cd_88, decode prog_1_method_30_code q.1 = .ok (q.2.1, q.2.2) ∧ ma_iok 88 q.1 q.2.1 q.2.2 = true := by decide +kernel
theorem ck_89 : ∀ q ∈ cd_89, decode prog_1_method_31_code q.1 = .ok (q.2.1, q.2.2) ∧ ma_iok 89 q.1 q.2.1 q.2.2 = true := by decide +kernel
theorem ck_90 : ∀ q ∈ cd_90, decode prog_1_method_32_code q.1 = .ok (q.2.1, q.2.2) ∧ ma_iok 90 q.1 q.2.1 q.2.2 = true := by decide +kernel
theorem ck_91 : ∀ q ∈ cd_91, decode prog_1_method_33_code q.1 = .ok (q.2.1, q.2.2) ∧ ma_iok 91 q.1 q.2.1 q.2.2 = true := by decide +kernel
theorem ck_92 : ∀ q ∈ cd_92, decode prog_1_method_34_code q.1 = .ok (q.2.1, q.2.2) ∧ ma_iok 92 q.1 q.2.1 q.2.2 = true := by decide +kernel
theorem ck_93 : ∀ q ∈ cd_93, decode prog_1_method_35_code q.1 = .ok (q.2.1, q.2.2) ∧ ma_iok 93 q.1 q.2.1 q.2.2 = true := by decide +kernel
theorem ck_94 : ∀ q ∈ cd_94, decode prog_1_method_36_code q.1 = .ok (q.2.1, q.2.2) ∧ ma_iok 94 q.1 q.2.1 q.2.2 = true := by decide +kernel
theorem ck_95 : ∀ q ∈ cd_95, decode prog_1_method_37_code q.1 = .ok (q.2.1, q.2.2) ∧ ma_iok 95 q.1 q.2.1 q.2.2 = true := by decide +kernel
theorem ck_96 : ∀ q ∈ cd_96, decode prog_1_method_38_code q.1 = .ok (q.2.1, q.2.2) ∧ ma_iok 96 q.1 q.2.1 q.2.2 = true := by decide +kernel
theorem ck_97 : ∀ q ∈ cd_97, decode prog_1_method_39_code q.1 = .ok (q.2.1, q.2.2) ∧ ma_iok 97 q.1 q.2.1 q.2.2 = true := by decide +kernel
theorem ck_98 : ∀ q ∈ cd_98, decode prog_1_method_40_code q.1 = .ok (q.2.1, q.2.2) ∧ ma_iok 98 q.1 q.2.1 q.2.2 = true := by decide +kernel
theorem ck_99 : ∀ q ∈ cd_99, decode prog_1_method_41_code q.1 = .ok (q.2.1, q.2.2) ∧ ma_iok 99 q.1 q.2.1 q.2.2 = true := by decide +kernel
theorem ck_100 : ∀ q ∈ cd_100, decode prog_1_method_42_code q.1 = .ok (q.2.1, q.2.2) ∧ ma_iok 100 q.1 q.2.1 q.2.2 = true := by decide +kernel
theorem ck_101 : ∀ q ∈ cd_101, decode prog_1_method_43_code q.1 = .ok (q.2.1, q.2.2) ∧ ma_iok 101 q.1 q.2.1 q.2.2 = true := by decide +kernel
theorem ck_102 : ∀ q ∈ cd_102, decode prog_1_method_44_code q.1 = .ok (q.2.1, q.2.2) ∧ ma_iok 102 q.1 q.2.1 q.2.2 = true := by decide +kernel
theorem ck_103 : ∀ q ∈ cd_103, decode prog_1_method_45_code q.1 = .ok (q.2.1, q.2.2) ∧ ma_iok 103 q.1 q.2.1 q.2.2 = true := by decide +kernel
theorem ck_104 : ∀ q ∈ cd_104, decode prog_1_method_46_code q.1 = .ok (q.2.1, q.2.2) ∧ ma_iok 104 q.1 q.2.1 q.2.2 = true := by decide +kernel
theorem ck_105 : ∀ q ∈ cd_105, decode prog_1_method_47_code q.1 = .ok (q.2.1, q.2.2) ∧ ma_iok 105 q.1 q.2.1 q.2.2 = true := by decide +kernel
theorem ck_106 : ∀ q ∈ cd_106, decode prog_1_method_48_code q.1 = .ok (q.2.1, q.2.2) ∧ ma_iok 106 q.1 q.2.1 q.2.2 = true := by decide +kernel
theorem ck_107 : ∀ q ∈ cd_107, decode prog_1_method_49_code q.1 = .ok (q.2.1, q.2.2) ∧ ma_iok 107 q.1 q.2.1 q.2.2 = true := by decide +kernel
theorem ck_108 : ∀ q ∈ cd_108, decode prog_1_method_50_code q.1 = .ok (q.2.1, q.2.2) ∧ ma_iok 108 q.1 q.2.1 q.2.2 = true := by decide +kernel
theorem ck_109 : ∀ q ∈ cd_109, decode prog_1_method_51_code q.1 = .ok (q.2.1, q.2.2) ∧ ma_iok 109 q.1 q.2.1 q.2.2 = true := by decide +kernel
theorem ck_110 : ∀ q ∈ cd_110, decode prog_1_method_52_code q.1 = .ok (q.2.1, q.2.2) ∧ ma_iok 110 q.1 q.2.1 q.2.2 = true := by decide +kernel
theorem ck_111 : ∀ q ∈ cd_111, decode prog_1_method_53_code q.1 = .ok (q.2.1, q.2.2) ∧ ma_iok 111 q.1 q.2.1 q.2.2 = true := by decide +kernel
theorem ck_112 : ∀ q ∈ cd_112, decode prog_1_method_54_code q.1 = .ok (q.2.1, q.2.2) ∧ ma_iok 112 q.1 q.2.1 q.2.2 = true := by decide +kernel
theorem ck_113 : ∀ q ∈ cd_113, decode prog_10_method_2_code q.1 = .ok (q.2.1, q.2.2) ∧ ma_iok 113 q.1 q.2.1 q.2.2 = true := by decide +kernel
theorem ck_114 : ∀ q ∈ cd_114, decode prog_10_method_3_code q.1 = .ok (q.2.1, q.2.2) ∧ ma_iok 114 q.1 q.2.1 q.2.2 = true := by decide +kernel
theorem ck_115 : ∀ q ∈ cd_115, decode prog_10_method_4_code q.1 = .ok (q.2.1, q.2.2) ∧ ma_iok 115 q.1 q.2.1 q.2.2 = true := by decide +kernel
theorem ck_116 : ∀ q ∈ cd_116, decode prog_10_method_5_code q.1 = .ok (q.2.1, q.2.2) ∧ ma_iok 116 q.1 q.2.1 q.2.2 = true := by decide +kernel
theorem ck_117 : ∀ q ∈ cd_117, decode prog_10_method_6_code q.1 = .ok (q.2.1, q.2.2) ∧ ma_iok 117 q.1 q.2.1 q.2.2 = true := by decide +kernel
theorem ck_118 : ∀ q ∈ cd_118, decode prog_10_method_7_code q.1 = .ok (q.2.1, q.2.2) ∧ ma_iok 118 q.1 q.2.1 q.2.2 = true := by decide +kernel
theorem ck_119 : ∀ q ∈ cd_119, decode prog_10_method_8_code q.1 = .ok (q.2.1, q.2.2) ∧ ma_iok 119 q.1 q.2.1 q.2.2 = true := by decide +kernel
theorem ck_120 : ∀ q ∈ cd_120, decode prog_10_method_9_code q.1 = .ok (q.2.1, q.2.2) ∧ ma_iok 120 q.1 q.2.1 q.2.2 = true := by decide +kernel
theorem ck_121 : ∀ q ∈ cd_121, decode prog_10_method_10_code q.1 = .ok (q.2.1, q.2.2) ∧ ma_iok 121 q.1 q.2.1 q.2.2 = true := by decide +kernel
theorem ck_122 : ∀ q ∈ cd_122, decode prog_10_method_11_code q.1 = .ok (q.2.1, q.2.2) ∧ ma_iok 122 q.1 q.2.1 q.2.2 = true := by decide +kernel
theorem ck_123 : ∀ q ∈ cd_123, decode prog_10_method_12_code q.1 = .ok (q.2.1, q.2.2) ∧ ma_iok 123 q.1 q.2.1 q.2.2 = true := by decide +kernel
theorem ck_124 : ∀ q ∈ cd_124, decode prog_10_method_13_code q.1 = .ok (q.2.1, q.2.2) ∧ ma_iok 124 q.1 q.2.1 q.2.2 = true := by decide +kernel
theorem ck_125 : ∀ q ∈ cd_125, decode prog_10_method_14_code q.1 = .ok (q.2.1, q.2.2) ∧ ma_iok 125 q.1 q.2.1 q.2.2 = true := by decide +kernel
theorem ck_126 : ∀ q ∈ cd_126, decode prog_10_method_15_code q.1 = .ok (q.2.1, q.2.2) ∧ ma_iok 126 q.1 q.2.1 q.2.2 = true := by decide +kernel
theorem ck_127 : ∀ q ∈ cd_127, decode prog_10_method_16_code q.1 = .ok (q.2.1, q.2.2) ∧ ma_iok 127 q.1 q.2.1 q.2.2 = true := by decide +kernel
theorem ck_128 : ∀ q ∈ cd_128, decode prog_10_method_17_code q.1 = .ok (q.2.1, q.2.2) ∧ ma_iok 128 q.1 q.2.1 q.2.2 = true := by decide +kernel
theorem ck_129 : ∀ q ∈ cd_129, decode prog_10_method_18_code q.1 = .ok (q.2.1, q.2.2) ∧ ma_iok 129 q.1 q.2.1 q.2.2 = true := by decide +kernel
theorem ck_130 : ∀ q ∈ cd_130, decode prog_10_method_19_code q.1 = .ok (q.2.1, q.2.2) ∧ ma_iok 130 q.1 q.2.1 q.2.2 = true := by decide +kernel
theorem ck_131 : ∀ q ∈ cd_131, decode prog_10_method_20_code q.1 = .ok (q.2.1, q.2.2) ∧ ma_iok 131 q.1 q.2.1 q.2.2 = true := by decide +kernel
theorem ck_132 : ∀ q ∈ cd_132, decode prog_10_method_21_code q.1 = .ok (q.2.1, q.2.2) ∧ ma_iok 132 q.1 q.2.1 q.2.2 = true := by decide +kernel
theorem ck_133 : ∀ q ∈ cd_133, decode prog_10_method_22_code q.1 = .ok (q.2.1, q.2.2) ∧ ma_iok 133 q.1 q.2.1 q.2.2 = true := by decide +kernel
theorem ck_134 : ∀ q ∈ cd_134, decode prog_10_method_23_code q.1 = .ok (q.2.1, q.2.2) ∧ ma_iok 134 q.1 q.2.1 q.2.2 = true := by decide +kernel
theorem ck_135 : ∀ q ∈ cd_135, decode prog_10_method_24_code q.1 = .ok (q.2.1, q.2.2) ∧ ma_iok 135 q.1 q.2.1 q.2.2 = true := by decide +kernel
theorem ck_136 : ∀ q ∈ cd_136, decode prog_10_method_25_code q.1 = .ok (q.2.1, q.2.2) ∧ ma_iok 136 q.1 q.2.1 q.2.2 = true := by decide +kernel
theorem ck_137 : ∀ q ∈ cd_137, decode prog_10_method_26_code q.1 = .ok (q.2.1, q.2.2) ∧ ma_iok 137 q.1 q.2.1 q.2.2 = true := by decide +kernel
theorem ck_138 : ∀ q ∈ cd_138, decode prog_10_method_27_code q.1 = .ok (q.2.1, q.2.2) ∧ ma_iok 138 q.1 q.2.1 q.2.2 = true := by decide +kernel
theorem ck_139 : ∀ q ∈ cd_139, decode prog_10_method_28_code q.1 = .ok (q.2.1, q.2.2) ∧ ma_iok 139 q.1 q.2.1 q.2.2 = true := by decide +kernel
theorem ck_140 : ∀ q ∈ cd_140, decode prog_10_method_29_code q.1 = .ok (q.2.1, q.2.2) ∧ ma_iok 140 q.1 q.2.1 q.2.2 = true := by decide +kernel
theorem ck_141 : ∀ q ∈ cd_141, decode prog_10_method_30_code q.1 = .ok (q.2.1, q.2.2) ∧ ma_iok 141 q.1 q.2.1 q.2.2 = true := by decide +kernel
theorem ck_142 : ∀ q ∈ cd_142, decode prog_10_method_31_code q.1 = .ok (q.2.1, q.2.2) ∧ ma_iok 142 q.1 q.2.1 q.2.2 = true := by decide +kernel
theorem ck_143 : ∀ q ∈ cd_143, decode prog_10_method_32_code q.1 = .ok (q.2.1, q.2.2) ∧ ma_iok 143 q.1 q.2.1 q.2.2 = true := by decide +kernel
theorem ck_144 : ∀ q ∈ cd_144, decode prog_10_method_33_code q.1 = .ok (q.2.1, q.2.2) ∧ ma_iok 144 q.1 q.2.1 q.2.2 = true := by decide +kernel
theorem ck_145 : ∀ q ∈ cd_145, decode prog_10_method_34_code q.1 = .ok (q.2.1, q.2.2) ∧ ma_iok 145 q.1 q.2.1 q.2.2 = true := by decide +kernel
theorem ck_146 : ∀ q ∈ cd_146, decode prog_10_method_35_code q.1 = .ok (q.2.1, q.2.2) ∧ ma_iok 146 q.1 q.2.1 q.2.2 = true := by decide +kernel
theorem ck_147 : ∀ q ∈ cd_147, decode prog_10_method_36_code q.1 = .ok (q.2.1, q.2.2) ∧ ma_iok 147 q.1 q.2.1 q.2.2 = true := by decide +kernel
theorem ck_148 : ∀ q ∈ cd_148, decode prog_10_method_37_code q.1 = .ok (q.2.1, q.2.2) ∧ ma_iok 148 q.1 q.2.1 q.2.2 = true := by decide +kernel
theorem ck_149 : ∀ q ∈ cd_149, decode prog_10_method_38_code q.1 = .ok (q.2.1, q.2.2) ∧ ma_iok 149 q.1 q.2.1 q.2.2 = true := by decide +kernel
theorem ck_150 : ∀ q ∈ cd_150, decode prog_10_method_39_code q.1 = .ok (q.2.1, q.2.2) ∧ ma_iok 150 q.1 q.2.1 q.2.2 = true := by decide +kernel
theorem ck_151 : ∀ q ∈ cd_151, decode prog_10_method_40_code q.1 = .ok (q.2.1, q.2.2) ∧ ma_iok 151 q.1 q.2.1 q.2.2 = true := by decide +kernel
theorem ck_152 : ∀ q ∈ cd_152, decode prog_10_method_41_code q.1 = .ok (q.2.1, q.2.2) ∧ ma_iok 152 q.1 q.2.1 q.2.2 = true := by decide +kernel
theorem ck_153 : ∀ q ∈ cd_153, decode prog_10_method_42_code q.1 = .ok (q.2.1, q.2.2) ∧ ma_iok 153 q.1 q.2.1 q.2.2 = true := by decide +kernel
theorem ck_154 : ∀ q ∈ cd_154, decode prog_10_method_43_code q.1 = .ok (q.2.1, q.2.2) ∧ ma_iok 154 q.1 q.2.1 q.2.2 = true := by decide +kernel
theorem ck_155 : ∀ q ∈ cd_155, decode prog_10_method_44_code q.1 = .ok (q.2.1, q.2.2) ∧ ma_iok 155 q.1 q.2.1 q.2.2 = true := by decide +kernel
theorem ck_156 : ∀ q ∈ cd_156, decode prog_10_method_45_code q.1 = .ok (q.2.1, q.2.2) ∧ ma_iok 156 q.1 q.2.1 q.2.2 = true := by decide +kernel
theorem ck_157 : ∀ q ∈ cd_157, decode prog_10_method_46_code q.1 = .ok (q.2.1, q.2.2) ∧ ma_iok 157 q.1 q.2.1 q.2.2 = true := by decide +kernel
theorem ck_158 : ∀ q ∈ cd_158, decode prog_10_method_47_code q.1 = .ok (q.2.1, q.2.2) ∧ ma_iok 158 q.1 q.2.1 q.2.2 = true := by decide +kernel
theorem ck_159 : ∀ q ∈ cd_159, decode prog_10_method_48_code q.1 = .ok (q.2.1, q.2.2) ∧ ma_iok 159 q.1 q.2.1 q.2.2 = true := by decide +kernel
theorem ck_160 : ∀ q ∈ cd_160, decode prog_10_method_49_code q.1 = .ok (q.2.1, q.2.2) ∧ ma_iok 160 q.1 q.2.1 q.2.2 = true := by decide +kernel
theorem ck_161 : ∀ q ∈ cd_161, decode prog_10_method_50_code q.1 = .ok (q.2.1, q.2.2) ∧ ma_iok 161 q.1 q.2.1 q.2.2 = true := by decide +kernel
theorem ck_162 : ∀ q ∈ cd_162, decode prog_10_method_51_code q.1 = .ok (q.2.1, q.2.2) ∧ ma_iok 162 q.1 q.2.1 q.2.2 = true := by decide +kernel
theorem ck_163 : ∀ q ∈ cd_163, decode prog_10_method_52_code q.1 = .ok (q.2.1, q.2.2) ∧ ma_iok 163 q.1 q.2.1 q.2.2 = true := by decide +kernel
theorem ck_164 : ∀ q ∈ cd_164, decode prog_10_method_53_code q.1 = .ok (q.2.1, q.2.2) ∧ ma_iok 164 q.1 q.2.1 q.2.2 = true := by decide +kernel
theorem ck_165 : ∀ q ∈ cd_165, decode prog_10_method_54_code q.1 = .ok (q.2.1, q.2.2) ∧ ma_iok 165 q.1 q.2.1 q.2.2 = true := by decide +kernel
theorem ck_166 : ∀ q ∈ cd_166, decode prog_10_method_55_code q.1 = .ok (q.2.1, q.2.2) ∧ ma_iok 166 q.1 q.2.1 q.2.2 = true := by decide +kernel
theorem ck_167 : ∀ q ∈ cd_167, decode prog_10_method_56_code q.1 = .ok (q.2.1, q.2.2) ∧ ma_iok 167 q.1 q.2.1 q.2.2 = true := by decide +kernel
theorem ck_168 : ∀ q ∈ cd_168, decode prog_10_method_57_code q.1 = .ok (q.2.1, q.2.2) ∧ ma_iok 168 q.1 q.2.1 q.2.2 = true := by decide +kernel
theorem ck_169 : ∀ q ∈ cd_169, decode prog_10_method_58_code q.1 = .ok (q.2.1, q.2.2) ∧ ma_iok 169 q.1 q.2.1 q.2.2 = true := by decide +kernel
theorem ck_170 : ∀ q ∈ cd_170, decode prog_10_method_59_code q.1 = .ok (q.2.1, q.2.2) ∧ ma_iok 170 q.1 q.2.1 q.2.2 = true := by decide +kernel
theorem ck_171 : ∀ q ∈ cd_171, decode prog_10_method_60_code q.1 = .ok (q.2.1, q.2.2) ∧ ma_iok 171 q.1 q.2.1 q.2.2 = true := by decide +kernel
theorem ck_172 : ∀ q ∈ cd_172, decode prog_10_method_61_code q.1 = .ok (q.2.1, q.2.2) ∧ ma_iok 172 q.1 q.2.1 q.2.2 = true := by decide +kernel
theorem ck_173 : ∀ q ∈ cd_173, decode prog_10_method_62_code q.1 = .ok (q.2.1, q.2.2) ∧ ma_iok 173 q.1 q.2.1 q.2.2 = true := by decide +kernel
theorem ck_174 : ∀ q ∈ cd_174, decode prog_10_method_63_code q.1 = .ok (q.2.1, q.2.2) ∧ ma_iok 174 q.1 q.2.1 q.2.2 = true := by decide +kernel
theorem ck_175 : ∀ q ∈ cd_175, decode prog_10_method_64_code q.1 = .ok (q.2.1, q.2.2) ∧ ma_iok 175 q.1 q.2.1 q.2.2 = true := by decide +kernel
theorem ck_176 : ∀ q ∈ cd_176, decode prog_10_method_65_code q.1 = .ok (q.2.1, q.2.2) ∧ ma_iok 176 q.1 q.2.1 q.2.2 = true := by decide +kernel
theorem ck_177 : ∀ q ∈ cd_177, decode prog_10_method_66_code q.1 = .ok (q.2.1, q.2.2) ∧ ma_iok 177 q.1 q.2.1 q.2.2 = true := by decide +kernel
theorem ck_178 : ∀ q ∈ cd_178, decode prog_10_method_67_code q.1 = .ok (q.2.1, q.2.2) ∧ ma_iok 178 q.1 q.2.1 q.2.2 = true := by decide +kernel
theorem ck_179 : ∀ q ∈ cd_179, decode prog_10_method_68_code q.1 = .ok (q.2.1, q.2.2) ∧ ma_iok 179 q.1 q.2.1 q.2.2 = true := by decide +kernel
theorem ck_180 : ∀ q ∈ cd_180, decode prog_10_method_69_code q.1 = .ok (q.2.1, q.2.2) ∧ ma_iok 180 q.1 q.2.1 q.2.2 = true := by decide +kernel
theorem ck_181 : ∀ q ∈ cd_181, decode prog_10_method_70_code q.1 = .ok (q.2.1, q.2.2) ∧ ma_iok 181 q.1 q.2.1 q.2.2 = true := by decide +kernel
theorem ck_182 : ∀ q ∈ cd_182, decode prog_10_method_71_code q.1 = .ok (q.2.1, q.2.2) ∧ ma_iok 182 q.1 q.2.1 q.2.2 = true := by decide +kernel
theorem ck_183 : ∀ q ∈ cd_183, decode prog_10_method_72_code q.1 = .ok (q.2.1, q.2.2) ∧ ma_iok 183 q.1 q.2.1 q.2.2 = true := by decide +kernel
theorem ck_184 : ∀ q ∈ cd_184, decode prog_10_method_73_code q.1 = .ok (q.2.1, q.2.2) ∧ ma_iok 184 q.1 q.2.1 q.2.2 = true := by decide +kernel
theorem ck_185 : ∀ q ∈ cd_185, decode prog_10_method_74_code q.1 = .ok (q.2.1, q.2.2) ∧ ma_iok 185 q.1 q.2.1 q.2.2 = true := by decide +kernel
theorem ck_186 : ∀ q ∈ cd_186, decode prog_10_method_75_code q.1 = .ok (q.2.1, q.2.2) ∧ ma_iok 186 q.1 q.2.1 q.2.2 = true := by decide +kernel
theorem ck_187 : ∀ q ∈ cd_187, decode prog_10_method_76_code q.1 = .ok (q.2.1, q.2.2) ∧ ma_iok 187 q.1 q.2.1 q.2.2 = true := by decide +kernel
theorem ck_188 : ∀ q ∈ cd_188, decode prog_10_method_77_code q.1 = .ok (q.2.1, q.2.2) ∧ ma_iok 188 q.1 q.2.1 q.2.2 = true := by decide +kernel
theorem ck_189 : ∀ q ∈ cd_189, decode prog_10_method_78_code q.1 = .ok (q.2.1, q.2.2) ∧ ma_iok 189 q.1 q.2.1 q.2.2 = true := by decide +kernel
theorem ck_190 : ∀ q ∈ cd_190, decode prog_10_method_79_code q.1 = .ok (q.2.1, q.2.2) ∧ ma_iok 190 q.1 q.2.1 q.2.2 = true := by decide +kernel
theorem ck_191 : ∀ q ∈ cd_191, decode prog_10_method_80_code q.1 = .ok (q.2.1, q.2.2) ∧ ma_iok 191 q.1 q.2.1 q.2.2 = true := by decide +kernel
theorem ck_192 : ∀ q ∈ cd_192, decode prog_10_method_81_code q.1 = .ok (q.2.1, q.2.2) ∧ ma_iok 192 q.1 q.2.1 q.2.2 = true := by decide +kernel
theorem ck_193 : ∀ q ∈ cd_193, decode prog_10_method_82_code q.1 = .ok (q.2.1, q.2.2) ∧ ma_iok 193 q.1 q.2.1 q.2.2 = true := by decide +kernel
theorem ck_194 : ∀ q ∈ cd_194, decode prog_10_method_83_code q.1 = .ok (q.2.1, q.2.2) ∧ ma_iok 194 q.1 q.2.1 q.2.2 = true := by decide +kernel
theorem ck_195 : ∀ q ∈ cd_195, decode prog_10_method_84_code q.1 = .ok (q.2.1, q.2.2) ∧ ma_iok 195 q.1 q.2.1 q.2.2 = true := by decide +kernel
theorem ck_196 : ∀ q ∈ cd_196, decode prog_10_method_85_code q.1 = .ok (q.2.1, q.2.2) ∧ ma_iok 196 q.1 q.2.1 q.2.2 = true := by decide +kernel
theorem ck_197 : ∀ q ∈ cd_197, decode prog_10_method_86_code q.1 = .ok (q.2.1, q.2.2) ∧ ma_iok 197 q.1 q.2.1 q.2.2 = true := by decide +kernel
theorem ck_198 : ∀ q ∈ cd_198, decode prog_10_method_87_code q.1 = .ok (q.2.1, q.2.2) ∧ ma_iok 198 q.1 q.2.1 q.2.2 = true := by decide +kernel
theorem ck_199 : ∀ q ∈ cd_199, decode prog_10_method_88_code q.1 = .ok (q.2.1, q.2.2) ∧ ma_iok 199 q.1 q.2.1 q.2.2 = true := by decide +kernel
theorem ck_200 : ∀ q ∈ cd_200, decode prog_10_method_89_code q.1 = .ok (q.2.1, q.2.2) ∧ ma_iok 200 q.1 q.2.1 q.2.2 = true := by decide +kernel
theorem ck_201 : ∀ q ∈ cd_201, decode prog_10_method_90_code q.1 = .ok (q.2.1, q.2.2) ∧ ma_iok 201 q.1 q.2.1 q.2.2 = true := by decide +kernel
theorem ck_202 : ∀ q ∈ cd_202, decode prog_10_method_91_code q.1 = .ok (q.2.1, q.2.2) ∧ ma_iok 202 q.1 q.2.1 q.2.2 = true := by decide +kernel
theorem ck_203 : ∀ q ∈ cd_203, decode prog_12_method_54_code q.1 = .ok (q.2.1, q.2.2) ∧ ma_iok 203 q.1 q.2.1 q.2.2 = true := by decide +kernel
theorem ck_204 : ∀ q ∈ cd_204, decode prog_12_method_56_code q.1 = .ok (q.2.1, q.2.2) ∧ ma_iok 204 q.1 q.2.1 q.2.2 = true := by decide +kernel
theorem ck_205 : ∀ q ∈ cd_205, decode prog_12_method_152_code q.1 = .ok (q.2.1, q.2.2) ∧ ma_iok 205 q.1 q.2.1 q.2.2 = true := by decide +kernel
theorem ck_206 : ∀ q ∈ cd_206, decode prog_12_method_154_code q.1 = .ok (q.2.1, q.2.2) ∧ ma_iok 206 q.1 q.2.1 q.2.2 = true := by decide +kernel
theorem ck_207 : ∀ q ∈ cd_207, decode prog_12_method_155_code q.1 = .ok (q.2.1, q.2.2) ∧ ma_iok 207 q.1 q.2.1 q.2.2 = true := by decide +kernel
theorem ck_208 : ∀ q ∈ cd_208, decode prog_13_method_2_code q.1 = .ok (q.2.1, q.2.2) ∧ ma_iok 208 q.1 q.2.1 q.2.2 = true := by decide +kernel
theorem ck_209 : ∀ q ∈ cd_209, decode prog_16_method_11_code q.1 = .ok (q.2.1, q.2.2) ∧ ma_iok 209 q.1 q.2.1 q.2.2 = true := by decide +kernel
theorem ma_ck : ∀ μ, μ < 210 → ∀ q ∈ ma_cd μ, decode (ma_by μ) q.1 = .ok (q.2.1, q.2.2) ∧ ma_iok μ q.1 q.2.1 q.2.2 = true := fun μ h => match μ, h with
  | 0, _ => ck_0
  | 1, _ => ck_1
  | 2, _ => ck_2
  | 3, _ => ck_3
  | 4, _ => ck_4
  | 5, _ => ck_5
  | 6, _ => ck_6
  | 7, _ => ck_7
  | 8, _ => ck_8
  | 9, _ => ck_9
  | 10, _ => ck_10
  | 11, _ => ck_11
  | 12, _ => ck_12
  | 13, _ => ck_13
  | 14, _ => ck_14
  | 15, _ => ck_15
  | 16, _ => ck_16
  | 17, _ => ck_17
  | 18, _ => ck_18
  | 19, _ => ck_19
  | 20, _ => ck_20
  | 21, _ => ck_21
  | 22, _ => ck_22
  | 23, _ => ck_23
  | 24, _ => ck_24
  | 25, _ => ck_25
  | 26, _ => ck_26
  | 27, _ => ck_27
  | 28, _ => ck_28
  | 29, _ => ck_29
  | 30, _ => ck_30
  | 31, _ => ck_31
  | 32, _ => ck_32
  | 33, _ => ck_33
  | 34, _ => ck_34
  | 35, _ => ck_35
  | 36, _ => ck_36
  | 37, _ => ck_37
  | 38, _ => ck_38
  | 39, _ => ck_39
  | 40, _ => ck_40
  | 41, _ => ck_41
  | 42, _ => ck_42
  | 43, _ => ck_43
  | 44, _ => ck_44
  | 45, _ => ck_45
  | 46, _ => ck_46
  | 47, _ => ck_47
  | 48, _ => ck_48
  | 49, _ => ck_49
  | 50, _ => ck_50
  | 51, _ => ck_51
  | 52, _ => ck_52
  | 53, _ => ck_53
  | 54, _ => ck_54
  | 55, _ => ck_55
  | 56, _ => ck_56
  | 57, _ => ck_57
  | 58, _ => ck_58
  | 59, _ => ck_59
  | 60, _ => ck_60
  | 61, _ => ck_61
  | 62, _ => ck_62
  | 63, _ => ck_63
  | 64, _ => ck_64
  | 65, _ => ck_65
  | 66, _ => ck_66
  | 67, _ => ck_67
  | 68, _ => ck_68
  | 69, _ => ck_69
  | 70, _ => ck_70
  | 71, _ => ck_71
  | 72, _ => ck_72
  | 73, _ => ck_73
  | 74, _ => ck_74
  | 75, _ => ck_75
  | 76, _ => ck_76
  | 77, _ => ck_77
  | 78, _ => ck_78
  | 79, _ => ck_79
  | 80, _ => ck_80
  | 81, _ => ck_81
  | 82, _ => ck_82
  | 83, _ => ck_83
  | 84, _ => ck_84
  | 85, _ => ck_85
  | 86, _ => ck_86
  | 87, _ => ck_87
  | 88, _ => ck_88
  | 89, _ => ck_89
  | 90, _ => ck_90
  | 91, _ => ck_91
  | 92, _ => ck_92
  | 93, _ => ck_93
  | 94, _ => ck_94
  | 95, _ => ck_95
  | 96, _ => ck_96
  | 97, _ => ck_97
  | 98, _ => ck_98
  | 99, _ => ck_99
  | 100, _ => ck_100
  | 101, _ => ck_101
  | 102, _ => ck_102
  | 103, _ => ck_103
  | 104, _ => ck_104
  | 105, _ => ck_105
  | 106, _ => ck_106
  | 107, _ => ck_107
  | 108, _ => ck_108
  | 109, _ => ck_109
  | 110, _ => ck_110
  | 111, _ => ck_111
  | 112, _ => ck_112
  | 113, _ => ck_113
  | 114, _ => ck_114
  | 115, _ => ck_115
  | 116, _ => ck_116
  | 117, _ => ck_117
  | 118, _ => ck_118
  | 119, _ => ck_119
  | 120, _ => ck_120
  | 121, _ => ck_121
  | 122, _ => ck_122
  | 123, _ => ck_123
  | 124, _ => ck_124
  | 125, _ => ck_125
  | 126, _ => ck_126
  | 127, _ => ck_127
  | 128, _ => ck_128
  | 129, _ => ck_129
  | 130, _ => ck_130
  | 131, _ => ck_131
  | 132, _ => ck_132
  | 133, _ => ck_133
  | 134, _ => ck_134
  | 135, _ => ck_135
  | 136, _ => ck_136
  | 137, _ => ck_137
  | 138, _ => ck_138
  | 139, _ => ck_139
  | 140, _ => ck_140
  | 141, _ => ck_141
  | 142, _ => ck_142
  | 143, _ => ck_143
  | 144, _ => ck_144
  | 145, _ => ck_145
  | 146, _ => ck_146
  | 147, _ => ck_147
  | 148, _ => ck_148
  | 149, _ => ck_149
  | 150, _ => ck_150
  | 151, _ => ck_151
  | 152, _ => ck_152
  | 153, _ => ck_153
  | 154, _ => ck_154
  | 155, _ => ck_155
  | 156, _ => ck_156
  | 157, _ => ck_157
  | 158, _ => ck_158
  | 159, _ => ck_159
  | 160, _ => ck_160
  | 161, _ => ck_161
  | 162, _ => ck_162
  | 163, _ => ck_163
  | 164, _ => ck_164
  | 165, _ => ck_165
  | 166, _ => ck_166
  | 167, _ => ck_167
  | 168, _ => ck_168
  | 169, _ => ck_169
  | 170, _ => ck_170
  | 171, _ => ck_171
  | 172, _ => ck_172
  | 173, _ => ck_173
  | 174, _ => ck_174
  | 175, _ => ck_175
  | 176, _ => ck_176
  | 177, _ => ck_177
  | 178, _ => ck_178
  | 179, _ => ck_179
  | 180, _ => ck_180
  | 181, _ => ck_181
  | 182, _ => ck_182
  | 183, _ => ck_183
  | 184, _ => ck_184
  | 185, _ => ck_185
  | 186, _ => ck_186
  | 187, _ => ck_187
  | 188, _ => ck_188
  | 189, _ => ck_189
  | 190, _ => ck_190
  | 191, _ => ck_191
  | 192, _ => ck_192
  | 193, _ => ck_193
  | 194, _ => ck_194
  | 195, _ => ck_195
  | 196, _ => ck_196
  | 197, _ => ck_197
  | 198, _ => ck_198
  | 199, _ => ck_199
  | 200, _ => ck_200
  | 201, _ => ck_201
  | 202, _ => ck_202
  | 203, _ => ck_203
  | 204, _ => ck_204
  | 205, _ => ck_205
  | 206, _ => ck_206
  | 207, _ => ck_207
  | 208, _ => ck_208
  | 209, _ => ck_209
  | n + 210, h => absurd h (by omega)
