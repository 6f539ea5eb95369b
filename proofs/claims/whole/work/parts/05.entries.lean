/-! PART 05 (printed by wip/whole/gen/entries.py): how each method begins. -/
theorem en_0 (d : Nat) (x0i x0j : Nat) (x1i x1j : Nat) (σ : ma_S) : ma_cal (d + 1) 0 [vR 2 x0i x0j, vR 2 x1i x1j] σ = ma_ex d 0 0 [some (vR 2 x0i x0j), some (vR 2 x1i x1j), none] [] σ := rfl
theorem en_1 (d : Nat) (x0i x0j : Nat) (x1 : Int32) (σ : ma_S) : ma_cal (d + 1) 1 [vR 2 x0i x0j, vI x1] σ = ma_ex d 1 0 [some (vR 2 x0i x0j), some (vI x1), none] [] σ := rfl
theorem en_2 (d : Nat) (x0i x0j : Nat) (x1 : Int32) (σ : ma_S) : ma_cal (d + 1) 2 [vR 2 x0i x0j, vI x1] σ = ma_ex d 2 0 [some (vR 2 x0i x0j), some (vI x1)] [] σ := rfl
theorem en_3 (d : Nat) (x0i x0j : Nat) (σ : ma_S) : ma_cal (d + 1) 3 [vR 2 x0i x0j] σ = ma_ex d 3 0 [some (vR 2 x0i x0j)] [] σ := rfl
theorem en_4 (d : Nat) (x0i x0j : Nat) (x1 : Int32) (x2 : Int32) (σ : ma_S) : ma_cal (d + 1) 4 [vR 2 x0i x0j, vI x1, vI x2] σ = ma_ex d 4 0 [some (vR 2 x0i x0j), some (vI x1), some (vI x2)] [] σ := rfl
theorem en_5 (d : Nat) (x0i x0j : Nat) (σ : ma_S) : ma_cal (d + 1) 5 [vR 2 x0i x0j] σ = ma_ex d 5 0 [some (vR 2 x0i x0j), none, none] [] σ := rfl
theorem en_6 (d : Nat) (x0i x0j : Nat) (σ : ma_S) : ma_cal (d + 1) 6 [vR 2 x0i x0j] σ = ma_ex d 6 0 [some (vR 2 x0i x0j), none, none] [] σ := rfl
theorem en_7 (d : Nat) (x0i x0j : Nat) (σ : ma_S) : ma_cal (d + 1) 7 [vR 2 x0i x0j] σ = ma_ex d 7 0 [some (vR 2 x0i x0j), none, none] [] σ := rfl
theorem en_8 (d : Nat) (x0i x0j : Nat) (σ : ma_S) : ma_cal (d + 1) 8 [vR 2 x0i x0j] σ = ma_ex d 8 0 [some (vR 2 x0i x0j), none, none, none] [] σ := rfl
theorem en_9 (d : Nat) (x0i x0j : Nat) (x1 : Int32) (σ : ma_S) : ma_cal (d + 1) 9 [vR 2 x0i x0j, vI x1] σ = ma_ex d 9 0 [some (vR 2 x0i x0j), some (vI x1)] [] σ := rfl
theorem en_10 (d : Nat) (x0 : Int32) (x1 : Int32) (x2 : Int32) (σ : ma_S) : ma_cal (d + 1) 10 [vI x0, vI x1, vI x2] σ = ma_ex d 10 0 [some (vI x0), some (vI x1), some (vI x2)] [] σ := rfl
theorem en_11 (d : Nat) (x0 : Int32) (σ : ma_S) : ma_cal (d + 1) 11 [vI x0] σ = ma_ex d 11 0 [some (vI x0)] [] σ := rfl
theorem en_12 (d : Nat) (x0 : Int32) (σ : ma_S) : ma_cal (d + 1) 12 [vI x0] σ = ma_ex d 12 0 [some (vI x0)] [] σ := rfl
theorem en_13 (d : Nat) (x0 : Int32) (σ : ma_S) : ma_cal (d + 1) 13 [vI x0] σ = ma_ex d 13 0 [some (vI x0)] [] σ := rfl
theorem en_14 (d : Nat) (x0i x0j : Nat) (x1 : Int32) (σ : ma_S) : ma_cal (d + 1) 14 [vR 2 x0i x0j, vI x1] σ = ma_ex d 14 0 [some (vR 2 x0i x0j), some (vI x1), none, none, none, none] [] σ := rfl
theorem en_15 (d : Nat) (x0i x0j : Nat) (x1 : Int32) (σ : ma_S) : ma_cal (d + 1) 15 [vR 2 x0i x0j, vI x1] σ = ma_ex d 15 0 [some (vR 2 x0i x0j), some (vI x1), none, none] [] σ := rfl
theorem en_16 (d : Nat) (x0i x0j : Nat) (x1 : Int32) (σ : ma_S) : ma_cal (d + 1) 16 [vR 2 x0i x0j, vI x1] σ = ma_ex d 16 0 [some (vR 2 x0i x0j), some (vI x1), none, none, none] [] σ := rfl
theorem en_17 (d : Nat) (x0i x0j : Nat) (x1 : Int32) (σ : ma_S) : ma_cal (d + 1) 17 [vR 2 x0i x0j, vI x1] σ = ma_ex d 17 0 [some (vR 2 x0i x0j), some (vI x1), none, none, none] [] σ := rfl
theorem en_18 (d : Nat) (x0 : Int32) (x1 : Int32) (σ : ma_S) : ma_cal (d + 1) 18 [vI x0, vI x1] σ = ma_ex d 18 0 [some (vI x0), some (vI x1), none] [] σ := rfl
theorem en_19 (d : Nat) (x0i x0j : Nat) (x1 : Int32) (σ : ma_S) : ma_cal (d + 1) 19 [vR 2 x0i x0j, vI x1] σ = ma_ex d 19 0 [some (vR 2 x0i x0j), some (vI x1)] [] σ := rfl
theorem en_20 (d : Nat) (x0i x0j : Nat) (x1 : Int32) (x2 : Int32) (σ : ma_S) : ma_cal (d + 1) 20 [vR 2 x0i x0j, vI x1, vI x2] σ = ma_ex d 20 0 [some (vR 2 x0i x0j), some (vI x1), some (vI x2), none, none, none, none, none, none, none] [] σ := rfl
theorem en_21 (d : Nat) (x0i x0j : Nat) (x1i x1j : Nat) (x2 : Int32) (σ : ma_S) : ma_cal (d + 1) 21 [vR 9 x0i x0j, vR 2 x1i x1j, vI x2] σ = ma_ex d 21 0 [some (vR 9 x0i x0j), some (vR 2 x1i x1j), some (vI x2)] [] σ := rfl
theorem en_22 (d : Nat) (x0i x0j : Nat) (x1 : Int32) (x2 : Int32) (x3 : Int32) (x4 : Int32) (σ : ma_S) : ma_cal (d + 1) 22 [vR 9 x0i x0j, vI x1, vI x2, vI x3, vI x4] σ = ma_ex d 22 0 [some (vR 9 x0i x0j), some (vI x1), some (vI x2), some (vI x3), some (vI x4), none, none, none, none, none, none] [] σ := rfl
theorem en_23 (d : Nat) (x0i x0j : Nat) (x1 : Int32) (x2 : Int32) (x3 : Int32) (σ : ma_S) : ma_cal (d + 1) 23 [vR 9 x0i x0j, vI x1, vI x2, vI x3] σ = ma_ex d 23 0 [some (vR 9 x0i x0j), some (vI x1), some (vI x2), some (vI x3)] [] σ := rfl
theorem en_24 (d : Nat) (x0i x0j : Nat) (x1i x1j : Nat) (x2i x2j : Nat) (σ : ma_S) : ma_cal (d + 1) 24 [vR 7 x0i x0j, vR 2 x1i x1j, vR 16 x2i x2j] σ = ma_ex d 24 0 [some (vR 7 x0i x0j), some (vR 2 x1i x1j), some (vR 16 x2i x2j), none] [] σ := rfl
theorem en_25 (d : Nat) (x0i x0j : Nat) (σ : ma_S) : ma_cal (d + 1) 25 [vR 7 x0i x0j] σ = ma_ex d 25 0 [some (vR 7 x0i x0j), none, none] [] σ := rfl
theorem en_26 (d : Nat) (x0i x0j : Nat) (x1 : Int32) (σ : ma_S) : ma_cal (d + 1) 26 [vR 7 x0i x0j, vI x1] σ = ma_ex d 26 0 [some (vR 7 x0i x0j), some (vI x1), none, none] [] σ := rfl
theorem en_27 (d : Nat) (x0i x0j : Nat) (x1 : Int32) (σ : ma_S) : ma_cal (d + 1) 27 [vR 7 x0i x0j, vI x1] σ = ma_ex d 27 0 [some (vR 7 x0i x0j), some (vI x1), none] [] σ := rfl
theorem en_28 (d : Nat) (x0 : Int32) (σ : ma_S) : ma_cal (d + 1) 28 [vI x0] σ = ma_ex d 28 0 [some (vI x0)] [] σ := rfl
theorem en_29 (d : Nat) (x0i x0j : Nat) (σ : ma_S) : ma_cal (d + 1) 29 [vR 7 x0i x0j] σ = ma_ex d 29 0 [some (vR 7 x0i x0j), none, none, none, none] [] σ := rfl
theorem en_30 (d : Nat) (x0i x0j : Nat) (x1 : Int32) (x2 : Int32) (σ : ma_S) : ma_cal (d + 1) 30 [vR 7 x0i x0j, vI x1, vI x2] σ = ma_ex d 30 0 [some (vR 7 x0i x0j), some (vI x1), some (vI x2), none] [] σ := rfl
theorem en_31 (d : Nat) (x0i x0j : Nat) (x1 : Int32) (σ : ma_S) : ma_cal (d + 1) 31 [vR 7 x0i x0j, vI x1] σ = ma_ex d 31 0 [some (vR 7 x0i x0j), some (vI x1)] [] σ := rfl
theorem en_32 (d : Nat) (x0i x0j : Nat) (x1 : Int32) (σ : ma_S) : ma_cal (d + 1) 32 [vR 7 x0i x0j, vI x1] σ = ma_ex d 32 0 [some (vR 7 x0i x0j), some (vI x1)] [] σ := rfl
theorem en_33 (d : Nat) (x0i x0j : Nat) (x1 : Int32) (x2 : Int32) (σ : ma_S) : ma_cal (d + 1) 33 [vR 4 x0i x0j, vI x1, vI x2] σ = ma_ex d 33 0 [some (vR 4 x0i x0j), some (vI x1), some (vI x2)] [] σ := rfl
theorem en_34 (d : Nat) (x0i x0j : Nat) (σ : ma_S) : ma_cal (d + 1) 34 [vR 4 x0i x0j] σ = ma_ex d 34 0 [some (vR 4 x0i x0j)] [] σ := rfl
theorem en_35 (d : Nat) (x0i x0j : Nat) (x1i x1j : Nat) (σ : ma_S) : ma_cal (d + 1) 35 [vR 4 x0i x0j, vR 4 x1i x1j] σ = ma_ex d 35 0 [some (vR 4 x0i x0j), some (vR 4 x1i x1j)] [] σ := rfl
theorem en_36 (d : Nat) (x0i x0j : Nat) (x1 : Int32) (σ : ma_S) : ma_cal (d + 1) 36 [vR 4 x0i x0j, vI x1] σ = ma_ex d 36 0 [some (vR 4 x0i x0j), some (vI x1)] [] σ := rfl
theorem en_37 (d : Nat) (x0i x0j : Nat) (x1 : Int32) (σ : ma_S) : ma_cal (d + 1) 37 [vR 4 x0i x0j, vI x1] σ = ma_ex d 37 0 [some (vR 4 x0i x0j), some (vI x1), none] [] σ := rfl
theorem en_38 (d : Nat) (x0i x0j : Nat) (x1 : Int32) (σ : ma_S) : ma_cal (d + 1) 38 [vR 4 x0i x0j, vI x1] σ = ma_ex d 38 0 [some (vR 4 x0i x0j), some (vI x1), none] [] σ := rfl
theorem en_39 (d : Nat) (x0i x0j : Nat) (x1 : Int32) (σ : ma_S) : ma_cal (d + 1) 39 [vR 4 x0i x0j, vI x1] σ = ma_ex d 39 0 [some (vR 4 x0i x0j), some (vI x1)] [] σ := rfl
theorem en_40 (d : Nat) (x0i x0j : Nat) (σ : ma_S) : ma_cal (d + 1) 40 [vR 4 x0i x0j] σ = ma_ex d 40 0 [some (vR 4 x0i x0j)] [] σ := rfl
theorem en_41 (d : Nat) (x0i x0j : Nat) (x1 : Int32) (σ : ma_S) : ma_cal (d + 1) 41 [vR 4 x0i x0j, vI x1] σ = ma_ex d 41 0 [some (vR 4 x0i x0j), some (vI x1), none] [] σ := rfl
theorem en_42 (d : Nat) (x0i x0j : Nat) (x1 : Int32) (σ : ma_S) : ma_cal (d + 1) 42 [vR 4 x0i x0j, vI x1] σ = ma_ex d 42 0 [some (vR 4 x0i x0j), some (vI x1)] [] σ := rfl
theorem en_43 (d : Nat) (x0i x0j : Nat) (x1i x1j : Nat) (x2 : Int32) (x3 : Int32) (x4 : Int32) (σ : ma_S) : ma_cal (d + 1) 43 [vR 6 x0i x0j, vR 2 x1i x1j, vI x2, vI x3, vI x4] σ = ma_ex d 43 0 [some (vR 6 x0i x0j), some (vR 2 x1i x1j), some (vI x2), some (vI x3), some (vI x4), none, none, none] [] σ := rfl
theorem en_44 (d : Nat) (x0i x0j : Nat) (σ : ma_S) : ma_cal (d + 1) 44 [vR 6 x0i x0j] σ = ma_ex d 44 0 [some (vR 6 x0i x0j), none] [] σ := rfl
theorem en_45 (d : Nat) (x0i x0j : Nat) (σ : ma_S) : ma_cal (d + 1) 45 [vR 6 x0i x0j] σ = ma_ex d 45 0 [some (vR 6 x0i x0j), none, none, none, none] [] σ := rfl
theorem en_46 (d : Nat) (x0i x0j : Nat) (σ : ma_S) : ma_cal (d + 1) 46 [vR 6 x0i x0j] σ = ma_ex d 46 0 [some (vR 6 x0i x0j), none] [] σ := rfl
theorem en_47 (d : Nat) (x0i x0j : Nat) (x1 : Int32) (σ : ma_S) : ma_cal (d + 1) 47 [vR 6 x0i x0j, vI x1] σ = ma_ex d 47 0 [some (vR 6 x0i x0j), some (vI x1), none, none, none, none] [] σ := rfl
theorem en_48 (d : Nat) (x0i x0j : Nat) (σ : ma_S) : ma_cal (d + 1) 48 [vR 6 x0i x0j] σ = ma_ex d 48 0 [some (vR 6 x0i x0j), none] [] σ := rfl
theorem en_49 (d : Nat) (x0i x0j : Nat) (x1 : Int32) (σ : ma_S) : ma_cal (d + 1) 49 [vR 6 x0i x0j, vI x1] σ = ma_ex d 49 0 [some (vR 6 x0i x0j), some (vI x1), none, none] [] σ := rfl
theorem en_50 (d : Nat) (x0i x0j : Nat) (σ : ma_S) : ma_cal (d + 1) 50 [vR 16 x0i x0j] σ = ma_ex d 50 0 [some (vR 16 x0i x0j)] [] σ := rfl
theorem en_51 (d : Nat) (x0i x0j : Nat) (σ : ma_S) : ma_cal (d + 1) 51 [vR 16 x0i x0j] σ = ma_ex d 51 0 [some (vR 16 x0i x0j)] [] σ := rfl
theorem en_52 (d : Nat) (x0i x0j : Nat) (x1 : Int32) (σ : ma_S) : ma_cal (d + 1) 52 [vR 16 x0i x0j, vI x1] σ = ma_ex d 52 0 [some (vR 16 x0i x0j), some (vI x1)] [] σ := rfl
theorem en_53 (d : Nat) (x0i x0j : Nat) (x1 : Int32) (σ : ma_S) : ma_cal (d + 1) 53 [vR 16 x0i x0j, vI x1] σ = ma_ex d 53 0 [some (vR 16 x0i x0j), some (vI x1)] [] σ := rfl
theorem en_54 (d : Nat) (x0i x0j : Nat) (x1 : Int32) (x2 : Int32) (σ : ma_S) : ma_cal (d + 1) 54 [vR 16 x0i x0j, vI x1, vI x2] σ = ma_ex d 54 0 [some (vR 16 x0i x0j), some (vI x1), some (vI x2), none] [] σ := rfl
theorem en_55 (d : Nat) (x0i x0j : Nat) (x1 : Int32) (x2 : Int64) (σ : ma_S) : ma_cal (d + 1) 55 [vR 16 x0i x0j, vI x1, vL x2] σ = ma_ex d 55 0 [some (vR 16 x0i x0j), some (vI x1), some (vL x2), none] [] σ := rfl
theorem en_56 (d : Nat) (x0i x0j : Nat) (x1 : Int32) (σ : ma_S) : ma_cal (d + 1) 56 [vR 16 x0i x0j, vI x1] σ = ma_ex d 56 0 [some (vR 16 x0i x0j), some (vI x1)] [] σ := rfl
theorem en_57 (d : Nat) (x0i x0j : Nat) (σ : ma_S) : ma_cal (d + 1) 57 [vR 13 x0i x0j] σ = ma_ex d 57 0 [some (vR 13 x0i x0j)] [] σ := rfl
theorem en_58 (d : Nat) (x0i x0j : Nat) (x1 : Int32) (σ : ma_S) : ma_cal (d + 1) 58 [vR 13 x0i x0j, vI x1] σ = ma_ex d 58 0 [some (vR 13 x0i x0j), some (vI x1)] [] σ := rfl
theorem en_59 (d : Nat) (x0i x0j : Nat) (x1 : Int32) (σ : ma_S) : ma_cal (d + 1) 59 [vR 13 x0i x0j, vI x1] σ = ma_ex d 59 0 [some (vR 13 x0i x0j), some (vI x1)] [] σ := rfl
theorem en_60 (d : Nat) (x0i x0j : Nat) (x1 : Int32) (x2 : Int32) (x3 : Int32) (σ : ma_S) : ma_cal (d + 1) 60 [vR 1 x0i x0j, vI x1, vI x2, vI x3] σ = ma_ex d 60 0 [some (vR 1 x0i x0j), some (vI x1), some (vI x2), some (vI x3)] [] σ := rfl
theorem en_61 (d : Nat) (x0i x0j : Nat) (x1 : Int32) (x2 : Int32) (x3 : Int64) (σ : ma_S) : ma_cal (d + 1) 61 [vR 1 x0i x0j, vI x1, vI x2, vL x3] σ = ma_ex d 61 0 [some (vR 1 x0i x0j), some (vI x1), some (vI x2), some (vL x3), none, none] [] σ := rfl
theorem en_62 (d : Nat) (x0i x0j : Nat) (x1 : Int32) (x2 : Int32) (x3 : Int32) (x4 : Int32) (x5 : Int32) (σ : ma_S) : ma_cal (d + 1) 62 [vR 1 x0i x0j, vI x1, vI x2, vI x3, vI x4, vI x5] σ = ma_ex d 62 0 [some (vR 1 x0i x0j), some (vI x1), some (vI x2), some (vI x3), some (vI x4), some (vI x5), none] [] σ := rfl
theorem en_63 (d : Nat) (x0i x0j : Nat) (x1 : Int32) (x2 : Int32) (σ : ma_S) : ma_cal (d + 1) 63 [vR 1 x0i x0j, vI x1, vI x2] σ = ma_ex d 63 0 [some (vR 1 x0i x0j), some (vI x1), some (vI x2)] [] σ := rfl
theorem en_64 (d : Nat) (x0i x0j : Nat) (x1 : Int32) (x2 : Int32) (σ : ma_S) : ma_cal (d + 1) 64 [vR 1 x0i x0j, vI x1, vI x2] σ = ma_ex d 64 0 [some (vR 1 x0i x0j), some (vI x1), some (vI x2)] [] σ := rfl
theorem en_65 (d : Nat) (x0i x0j : Nat) (x1 : Int32) (σ : ma_S) : ma_cal (d + 1) 65 [vR 1 x0i x0j, vI x1] σ = ma_ex d 65 0 [some (vR 1 x0i x0j), some (vI x1)] [] σ := rfl
theorem en_66 (d : Nat) (x0i x0j : Nat) (x1 : Int32) (x2 : Int32) (σ : ma_S) : ma_cal (d + 1) 66 [vR 1 x0i x0j, vI x1, vI x2] σ = ma_ex d 66 0 [some (vR 1 x0i x0j), some (vI x1), some (vI x2), none] [] σ := rfl
theorem en_67 (d : Nat) (x0i x0j : Nat) (x1 : Int32) (x2 : Int32) (σ : ma_S) : ma_cal (d + 1) 67 [vR 1 x0i x0j, vI x1, vI x2] σ = ma_ex d 67 0 [some (vR 1 x0i x0j), some (vI x1), some (vI x2)] [] σ := rfl
theorem en_68 (d : Nat) (x0i x0j : Nat) (x1 : Int32) (x2 : Int32) (σ : ma_S) : ma_cal (d + 1) 68 [vR 1 x0i x0j, vI x1, vI x2] σ = ma_ex d 68 0 [some (vR 1 x0i x0j), some (vI x1), some (vI x2), none] [] σ := rfl
theorem en_69 (d : Nat) (x0i x0j : Nat) (x1 : Int32) (x2 : Int32) (x3 : Int32) (σ : ma_S) : ma_cal (d + 1) 69 [vR 1 x0i x0j, vI x1, vI x2, vI x3] σ = ma_ex d 69 0 [some (vR 1 x0i x0j), some (vI x1), some (vI x2), some (vI x3), none, none] [] σ := rfl
theorem en_70 (d : Nat) (x0i x0j : Nat) (x1 : Int32) (x2 : Int32) (σ : ma_S) : ma_cal (d + 1) 70 [vR 1 x0i x0j, vI x1, vI x2] σ = ma_ex d 70 0 [some (vR 1 x0i x0j), some (vI x1), some (vI x2)] [] σ := rfl
theorem en_71 (d : Nat) (x0i x0j : Nat) (x1 : Int32) (x2 : Int32) (σ : ma_S) : ma_cal (d + 1) 71 [vR 1 x0i x0j, vI x1, vI x2] σ = ma_ex d 71 0 [some (vR 1 x0i x0j), some (vI x1), some (vI x2), none] [] σ := rfl
theorem en_72 (d : Nat) (x0i x0j : Nat) (x1 : Int32) (σ : ma_S) : ma_cal (d + 1) 72 [vR 1 x0i x0j, vI x1] σ = ma_ex d 72 0 [some (vR 1 x0i x0j), some (vI x1), none, none] [] σ := rfl
theorem en_73 (d : Nat) (x0i x0j : Nat) (σ : ma_S) : ma_cal (d + 1) 73 [vR 1 x0i x0j] σ = ma_ex d 73 0 [some (vR 1 x0i x0j)] [] σ := rfl
theorem en_74 (d : Nat) (x0i x0j : Nat) (x1 : Int32) (σ : ma_S) : ma_cal (d + 1) 74 [vR 1 x0i x0j, vI x1] σ = ma_ex d 74 0 [some (vR 1 x0i x0j), some (vI x1), none] [] σ := rfl
theorem en_75 (d : Nat) (x0i x0j : Nat) (x1 : Int32) (σ : ma_S) : ma_cal (d + 1) 75 [vR 1 x0i x0j, vI x1] σ = ma_ex d 75 0 [some (vR 1 x0i x0j), some (vI x1)] [] σ := rfl
theorem en_76 (d : Nat) (x0i x0j : Nat) (x1 : Int32) (σ : ma_S) : ma_cal (d + 1) 76 [vR 1 x0i x0j, vI x1] σ = ma_ex d 76 0 [some (vR 1 x0i x0j), some (vI x1), none] [] σ := rfl
theorem en_77 (d : Nat) (x0i x0j : Nat) (x1 : Int32) (x2 : Int32) (σ : ma_S) : ma_cal (d + 1) 77 [vR 1 x0i x0j, vI x1, vI x2] σ = ma_ex d 77 0 [some (vR 1 x0i x0j), some (vI x1), some (vI x2)] [] σ := rfl
theorem en_78 (d : Nat) (x0i x0j : Nat) (x1 : Int32) (x2 : Int32) (σ : ma_S) : ma_cal (d + 1) 78 [vR 1 x0i x0j, vI x1, vI x2] σ = ma_ex d 78 0 [some (vR 1 x0i x0j), some (vI x1), some (vI x2), none] [] σ := rfl
theorem en_79 (d : Nat) (x0i x0j : Nat) (x1 : Int32) (σ : ma_S) : ma_cal (d + 1) 79 [vR 1 x0i x0j, vI x1] σ = ma_ex d 79 0 [some (vR 1 x0i x0j), some (vI x1)] [] σ := rfl
theorem en_80 (d : Nat) (x0i x0j : Nat) (x1 : Int32) (σ : ma_S) : ma_cal (d + 1) 80 [vR 1 x0i x0j, vI x1] σ = ma_ex d 80 0 [some (vR 1 x0i x0j), some (vI x1), none, none, none, none] [] σ := rfl
theorem en_81 (d : Nat) (x0i x0j : Nat) (x1 : Int32) (σ : ma_S) : ma_cal (d + 1) 81 [vR 1 x0i x0j, vI x1] σ = ma_ex d 81 0 [some (vR 1 x0i x0j), some (vI x1), none, none, none] [] σ := rfl
theorem en_82 (d : Nat) (x0i x0j : Nat) (x1 : Int32) (σ : ma_S) : ma_cal (d + 1) 82 [vR 1 x0i x0j, vI x1] σ = ma_ex d 82 0 [some (vR 1 x0i x0j), some (vI x1), none, none, none, none] [] σ := rfl
theorem en_83 (d : Nat) (x0i x0j : Nat) (x1 : Int32) (σ : ma_S) : ma_cal (d + 1) 83 [vR 1 x0i x0j, vI x1] σ = ma_ex d 83 0 [some (vR 1 x0i x0j), some (vI x1), none, none] [] σ := rfl
theorem en_84 (d : Nat) (x0i x0j : Nat) (x1 : Int32) (x2 : Int32) (σ : ma_S) : ma_cal (d + 1) 84 [vR 1 x0i x0j, vI x1, vI x2] σ = ma_ex d 84 0 [some (vR 1 x0i x0j), some (vI x1), some (vI x2), none] [] σ := rfl
theorem en_85 (d : Nat) (x0i x0j : Nat) (x1 : Int32) (x2 : Int32) (x3 : Int32) (σ : ma_S) : ma_cal (d + 1) 85 [vR 1 x0i x0j, vI x1, vI x2, vI x3] σ = ma_ex d 85 0 [some (vR 1 x0i x0j), some (vI x1), some (vI x2), some (vI x3), none] [] σ := rfl
theorem en_86 (d : Nat) (x0i x0j : Nat) (x1 : Int32) (x2 : Int32) (σ : ma_S) : ma_cal (d + 1) 86 [vR 1 x0i x0j, vI x1, vI x2] σ = ma_ex d 86 0 [some (vR 1 x0i x0j), some (vI x1), some (vI x2), none] [] σ := rfl
theorem en_87 (d : Nat) (x0i x0j : Nat) (x1 : Int32) (x2 : Int32) (x3 : Int32) (x4 : Int32) (x5 : Int32) (σ : ma_S) : ma_cal (d + 1) 87 [vR 1 x0i x0j, vI x1, vI x2, vI x3, vI x4, vI x5] σ = ma_ex d 87 0 [some (vR 1 x0i x0j), some (vI x1), some (vI x2), some (vI x3), some (vI x4), some (vI x5), none, none, none, none] [] σ := rfl
theorem en_88 (d : Nat) (x0i x0j : Nat) (x1 : Int32) (σ : ma_S) : ma_cal (d + 1) 88 [vR 1 x0i x0j, vI x1] σ = ma_ex d 88 0 [some (vR 1 x0i x0j), some (vI x1)] [] σ := rfl
theorem en_89 (d : Nat) (x0i x0j : Nat) (x1 : Int32) (x2 : Int32) (σ : ma_S) : ma_cal (d + 1) 89 [vR 1 x0i x0j, vI x1, vI x2] σ = ma_ex d 89 0 [some (vR 1 x0i x0j), some (vI x1), some (vI x2), none] [] σ := rfl
theorem en_90 (d : Nat) (x0i x0j : Nat) (x1 : Int32) (σ : ma_S) : ma_cal (d + 1) 90 [vR 1 x0i x0j, vI x1] σ = ma_ex d 90 0 [some (vR 1 x0i x0j), some (vI x1), none, none, none] [] σ := rfl
theorem en_91 (d : Nat) (x0i x0j : Nat) (x1 : Int32) (σ : ma_S) : ma_cal (d + 1) 91 [vR 1 x0i x0j, vI x1] σ = ma_ex d 91 0 [some (vR 1 x0i x0j), some (vI x1), none] [] σ := rfl
theorem en_92 (d : Nat) (x0i x0j : Nat) (x1 : Int32) (σ : ma_S) : ma_cal (d + 1) 92 [vR 1 x0i x0j, vI x1] σ = ma_ex d 92 0 [some (vR 1 x0i x0j), some (vI x1), none] [] σ := rfl
theorem en_93 (d : Nat) (x0i x0j : Nat) (x1 : Int32) (x2 : Int32) (x3 : Int32) (σ : ma_S) : ma_cal (d + 1) 93 [vR 1 x0i x0j, vI x1, vI x2, vI x3] σ = ma_ex d 93 0 [some (vR 1 x0i x0j), some (vI x1), some (vI x2), some (vI x3)] [] σ := rfl
theorem en_94 (d : Nat) (x0i x0j : Nat) (x1 : Int32) (σ : ma_S) : ma_cal (d + 1) 94 [vR 1 x0i x0j, vI x1] σ = ma_ex d 94 0 [some (vR 1 x0i x0j), some (vI x1)] [] σ := rfl
theorem en_95 (d : Nat) (x0i x0j : Nat) (σ : ma_S) : ma_cal (d + 1) 95 [vR 1 x0i x0j] σ = ma_ex d 95 0 [some (vR 1 x0i x0j)] [] σ := rfl
theorem en_96 (d : Nat) (x0i x0j : Nat) (σ : ma_S) : ma_cal (d + 1) 96 [vR 1 x0i x0j] σ = ma_ex d 96 0 [some (vR 1 x0i x0j), none] [] σ := rfl
theorem en_97 (d : Nat) (x0i x0j : Nat) (x1 : Int32) (σ : ma_S) : ma_cal (d + 1) 97 [vR 1 x0i x0j, vI x1] σ = ma_ex d 97 0 [some (vR 1 x0i x0j), some (vI x1)] [] σ := rfl
theorem en_98 (d : Nat) (x0i x0j : Nat) (x1 : Int32) (σ : ma_S) : ma_cal (d + 1) 98 [vR 1 x0i x0j, vI x1] σ = ma_ex d 98 0 [some (vR 1 x0i x0j), some (vI x1), none] [] σ := rfl
theorem en_99 (d : Nat) (x0i x0j : Nat) (x1 : Int32) (σ : ma_S) : ma_cal (d + 1) 99 [vR 1 x0i x0j, vI x1] σ = ma_ex d 99 0 [some (vR 1 x0i x0j), some (vI x1)] [] σ := rfl
theorem en_100 (d : Nat) (x0i x0j : Nat) (x1 : Int32) (x2 : Int32) (x3 : Int32) (x4 : Int32) (x5 : Int32) (σ : ma_S) : ma_cal (d + 1) 100 [vR 1 x0i x0j, vI x1, vI x2, vI x3, vI x4, vI x5] σ = ma_ex d 100 0 [some (vR 1 x0i x0j), some (vI x1), some (vI x2), some (vI x3), some (vI x4), some (vI x5), none, none, none, none] [] σ := rfl
theorem en_101 (d : Nat) (x0i x0j : Nat) (x1 : Int32) (x2 : Int32) (x3 : Int32) (σ : ma_S) : ma_cal (d + 1) 101 [vR 1 x0i x0j, vI x1, vI x2, vI x3] σ = ma_ex d 101 0 [some (vR 1 x0i x0j), some (vI x1), some (vI x2), some (vI x3), none] [] σ := rfl
theorem en_102 (d : Nat) (x0 : Int32) (σ : ma_S) : ma_cal (d + 1) 102 [vI x0] σ = ma_ex d 102 0 [some (vI x0)] [] σ := rfl
theorem en_103 (d : Nat) (x0 : Int32) (σ : ma_S) : ma_cal (d + 1) 103 [vI x0] σ = ma_ex d 103 0 [some (vI x0)] [] σ := rfl
theorem en_104 (d : Nat) (x0 : Int32) (σ : ma_S) : ma_cal (d + 1) 104 [vI x0] σ = ma_ex d 104 0 [some (vI x0)] [] σ := rfl
theorem en_105 (d : Nat) (x0 : Int32) (x1 : Int32) (x2 : Int32) (σ : ma_S) : ma_cal (d + 1) 105 [vI x0, vI x1, vI x2] σ = ma_ex d 105 0 [some (vI x0), some (vI x1), some (vI x2)] [] σ := rfl
theorem en_106 (d : Nat) (x0i x0j : Nat) (x1i x1j : Nat) (x2 : Int32) (σ : ma_S) : ma_cal (d + 1) 106 [vR 1 x0i x0j, vR 4 x1i x1j, vI x2] σ = ma_ex d 106 0 [some (vR 1 x0i x0j), some (vR 4 x1i x1j), some (vI x2)] [] σ := rfl
theorem en_107 (d : Nat) (x0i x0j : Nat) (x1 : Int32) (σ : ma_S) : ma_cal (d + 1) 107 [vR 4 x0i x0j, vI x1] σ = ma_ex d 107 0 [some (vR 4 x0i x0j), some (vI x1)] [] σ := rfl
theorem en_108 (d : Nat) (x0i x0j : Nat) (x1 : Int32) (σ : ma_S) : ma_cal (d + 1) 108 [vR 1 x0i x0j, vI x1] σ = ma_ex d 108 0 [some (vR 1 x0i x0j), some (vI x1)] [] σ := rfl
theorem en_109 (d : Nat) (x0i x0j : Nat) (x1i x1j : Nat) (σ : ma_S) : ma_cal (d + 1) 109 [vR 1 x0i x0j, vR 16 x1i x1j] σ = ma_ex d 109 0 [some (vR 1 x0i x0j), some (vR 16 x1i x1j), none] [] σ := rfl
theorem en_110 (d : Nat) (x0i x0j : Nat) (x1i x1j : Nat) (x2 : Int32) (σ : ma_S) : ma_cal (d + 1) 110 [vR 1 x0i x0j, vR 16 x1i x1j, vI x2] σ = ma_ex d 110 0 [some (vR 1 x0i x0j), some (vR 16 x1i x1j), some (vI x2), none] [] σ := rfl
theorem en_111 (d : Nat) (x0 : Int32) (x1 : Int32) (x2 : Int32) (x3 : Int32) (x4 : Int32) (σ : ma_S) : ma_cal (d + 1) 111 [vI x0, vI x1, vI x2, vI x3, vI x4] σ = ma_ex d 111 0 [some (vI x0), some (vI x1), some (vI x2), some (vI x3), some (vI x4), none, none] [] σ := rfl
theorem en_112 (d : Nat) (x0i x0j : Nat) (x1 : Int32) (x2 : Int32) (x3 : Int32) (x4i x4j : Nat) (x5 : Int32) (σ : ma_S) : ma_cal (d + 1) 112 [vR 4 x0i x0j, vI x1, vI x2, vI x3, vR 13 x4i x4j, vI x5] σ = ma_ex d 112 0 [some (vR 4 x0i x0j), some (vI x1), some (vI x2), some (vI x3), some (vR 13 x4i x4j), some (vI x5), none, none, none] [] σ := rfl
theorem en_113 (d : Nat) (x0i x0j : Nat) (x1 : Int32) (σ : ma_S) : ma_cal (d + 1) 113 [vR 20 x0i x0j, vI x1] σ = ma_ex d 113 0 [some (vR 20 x0i x0j), some (vI x1)] [] σ := rfl
theorem en_114 (d : Nat) (x0i x0j : Nat) (x1 : Int32) (σ : ma_S) : ma_cal (d + 1) 114 [vR 20 x0i x0j, vI x1] σ = ma_ex d 114 0 [some (vR 20 x0i x0j), some (vI x1)] [] σ := rfl
theorem en_115 (d : Nat) (x0i x0j : Nat) (x1 : Int32) (σ : ma_S) : ma_cal (d + 1) 115 [vR 20 x0i x0j, vI x1] σ = ma_ex d 115 0 [some (vR 20 x0i x0j), some (vI x1)] [] σ := rfl
theorem en_116 (d : Nat) (x0i x0j : Nat) (x1 : Int32) (σ : ma_S) : ma_cal (d + 1) 116 [vR 20 x0i x0j, vI x1] σ = ma_ex d 116 0 [some (vR 20 x0i x0j), some (vI x1)] [] σ := rfl
theorem en_117 (d : Nat) (x0i x0j : Nat) (x1 : Int32) (x2 : Int32) (x3 : Int32) (σ : ma_S) : ma_cal (d + 1) 117 [vR 20 x0i x0j, vI x1, vI x2, vI x3] σ = ma_ex d 117 0 [some (vR 20 x0i x0j), some (vI x1), some (vI x2), some (vI x3), none] [] σ := rfl
theorem en_118 (d : Nat) (x0i x0j : Nat) (x1 : Int32) (x2 : Int32) (x3 : Int64) (σ : ma_S) : ma_cal (d + 1) 118 [vR 20 x0i x0j, vI x1, vI x2, vL x3] σ = ma_ex d 118 0 [some (vR 20 x0i x0j), some (vI x1), some (vI x2), some (vL x3), none] [] σ := rfl
theorem en_119 (d : Nat) (x0i x0j : Nat) (x1 : Int32) (x2 : Int32) (x3 : Int32) (x4 : Int32) (x5 : Int32) (σ : ma_S) : ma_cal (d + 1) 119 [vR 20 x0i x0j, vI x1, vI x2, vI x3, vI x4, vI x5] σ = ma_ex d 119 0 [some (vR 20 x0i x0j), some (vI x1), some (vI x2), some (vI x3), some (vI x4), some (vI x5), none] [] σ := rfl
theorem en_120 (d : Nat) (x0i x0j : Nat) (x1 : Int32) (x2 : Int32) (σ : ma_S) : ma_cal (d + 1) 120 [vR 20 x0i x0j, vI x1, vI x2] σ = ma_ex d 120 0 [some (vR 20 x0i x0j), some (vI x1), some (vI x2)] [] σ := rfl
theorem en_121 (d : Nat) (x0i x0j : Nat) (x1 : Int32) (x2 : Int32) (σ : ma_S) : ma_cal (d + 1) 121 [vR 20 x0i x0j, vI x1, vI x2] σ = ma_ex d 121 0 [some (vR 20 x0i x0j), some (vI x1), some (vI x2)] [] σ := rfl
theorem en_122 (d : Nat) (x0i x0j : Nat) (x1 : Int32) (σ : ma_S) : ma_cal (d + 1) 122 [vR 20 x0i x0j, vI x1] σ = ma_ex d 122 0 [some (vR 20 x0i x0j), some (vI x1)] [] σ := rfl
theorem en_123 (d : Nat) (x0i x0j : Nat) (x1 : Int32) (x2 : Int32) (σ : ma_S) : ma_cal (d + 1) 123 [vR 20 x0i x0j, vI x1, vI x2] σ = ma_ex d 123 0 [some (vR 20 x0i x0j), some (vI x1), some (vI x2), none, none, none] [] σ := rfl
theorem en_124 (d : Nat) (x0i x0j : Nat) (x1 : Int32) (σ : ma_S) : ma_cal (d + 1) 124 [vR 20 x0i x0j, vI x1] σ = ma_ex d 124 0 [some (vR 20 x0i x0j), some (vI x1)] [] σ := rfl
theorem en_125 (d : Nat) (x0i x0j : Nat) (x1 : Int32) (x2 : Int32) (σ : ma_S) : ma_cal (d + 1) 125 [vR 20 x0i x0j, vI x1, vI x2] σ = ma_ex d 125 0 [some (vR 20 x0i x0j), some (vI x1), some (vI x2)] [] σ := rfl
theorem en_126 (d : Nat) (x0i x0j : Nat) (x1 : Int32) (x2 : Int32) (σ : ma_S) : ma_cal (d + 1) 126 [vR 20 x0i x0j, vI x1, vI x2] σ = ma_ex d 126 0 [some (vR 20 x0i x0j), some (vI x1), some (vI x2), none] [] σ := rfl
theorem en_127 (d : Nat) (x0i x0j : Nat) (x1 : Int32) (x2 : Int32) (σ : ma_S) : ma_cal (d + 1) 127 [vR 20 x0i x0j, vI x1, vI x2] σ = ma_ex d 127 0 [some (vR 20 x0i x0j), some (vI x1), some (vI x2)] [] σ := rfl
theorem en_128 (d : Nat) (x0i x0j : Nat) (x1 : Int32) (x2 : Int32) (σ : ma_S) : ma_cal (d + 1) 128 [vR 20 x0i x0j, vI x1, vI x2] σ = ma_ex d 128 0 [some (vR 20 x0i x0j), some (vI x1), some (vI x2)] [] σ := rfl
theorem en_129 (d : Nat) (x0i x0j : Nat) (x1 : Int32) (x2 : Int32) (σ : ma_S) : ma_cal (d + 1) 129 [vR 20 x0i x0j, vI x1, vI x2] σ = ma_ex d 129 0 [some (vR 20 x0i x0j), some (vI x1), some (vI x2)] [] σ := rfl
theorem en_130 (d : Nat) (x0i x0j : Nat) (x1 : Int32) (x2 : Int32) (x3 : Int32) (σ : ma_S) : ma_cal (d + 1) 130 [vR 20 x0i x0j, vI x1, vI x2, vI x3] σ = ma_ex d 130 0 [some (vR 20 x0i x0j), some (vI x1), some (vI x2), some (vI x3), none] [] σ := rfl
theorem en_131 (d : Nat) (x0i x0j : Nat) (x1 : Int32) (x2 : Int32) (σ : ma_S) : ma_cal (d + 1) 131 [vR 20 x0i x0j, vI x1, vI x2] σ = ma_ex d 131 0 [some (vR 20 x0i x0j), some (vI x1), some (vI x2)] [] σ := rfl
theorem en_132 (d : Nat) (x0i x0j : Nat) (x1 : Int32) (x2 : Int32) (σ : ma_S) : ma_cal (d + 1) 132 [vR 20 x0i x0j, vI x1, vI x2] σ = ma_ex d 132 0 [some (vR 20 x0i x0j), some (vI x1), some (vI x2)] [] σ := rfl
theorem en_133 (d : Nat) (x0i x0j : Nat) (x1 : Int32) (x2 : Int32) (σ : ma_S) : ma_cal (d + 1) 133 [vR 20 x0i x0j, vI x1, vI x2] σ = ma_ex d 133 0 [some (vR 20 x0i x0j), some (vI x1), some (vI x2)] [] σ := rfl
theorem en_134 (d : Nat) (x0i x0j : Nat) (x1 : Int32) (x2 : Int32) (σ : ma_S) : ma_cal (d + 1) 134 [vR 20 x0i x0j, vI x1, vI x2] σ = ma_ex d 134 0 [some (vR 20 x0i x0j), some (vI x1), some (vI x2), none] [] σ := rfl
theorem en_135 (d : Nat) (x0i x0j : Nat) (x1 : Int32) (x2 : Int32) (σ : ma_S) : ma_cal (d + 1) 135 [vR 20 x0i x0j, vI x1, vI x2] σ = ma_ex d 135 0 [some (vR 20 x0i x0j), some (vI x1), some (vI x2)] [] σ := rfl
theorem en_136 (d : Nat) (x0i x0j : Nat) (x1 : Int32) (σ : ma_S) : ma_cal (d + 1) 136 [vR 20 x0i x0j, vI x1] σ = ma_ex d 136 0 [some (vR 20 x0i x0j), some (vI x1)] [] σ := rfl
theorem en_137 (d : Nat) (x0i x0j : Nat) (x1 : Int32) (σ : ma_S) : ma_cal (d + 1) 137 [vR 20 x0i x0j, vI x1] σ = ma_ex d 137 0 [some (vR 20 x0i x0j), some (vI x1), none, none] [] σ := rfl
theorem en_138 (d : Nat) (x0i x0j : Nat) (σ : ma_S) : ma_cal (d + 1) 138 [vR 20 x0i x0j] σ = ma_ex d 138 0 [some (vR 20 x0i x0j), none, none, none, none, none] [] σ := rfl
theorem en_139 (d : Nat) (x0i x0j : Nat) (σ : ma_S) : ma_cal (d + 1) 139 [vR 20 x0i x0j] σ = ma_ex d 139 0 [some (vR 20 x0i x0j)] [] σ := rfl
theorem en_140 (d : Nat) (x0i x0j : Nat) (σ : ma_S) : ma_cal (d + 1) 140 [vR 20 x0i x0j] σ = ma_ex d 140 0 [some (vR 20 x0i x0j), none] [] σ := rfl
theorem en_141 (d : Nat) (x0i x0j : Nat) (x1 : Int32) (x2 : Int32) (σ : ma_S) : ma_cal (d + 1) 141 [vR 20 x0i x0j, vI x1, vI x2] σ = ma_ex d 141 0 [some (vR 20 x0i x0j), some (vI x1), some (vI x2)] [] σ := rfl
theorem en_142 (d : Nat) (x0i x0j : Nat) (σ : ma_S) : ma_cal (d + 1) 142 [vR 20 x0i x0j] σ = ma_ex d 142 0 [some (vR 20 x0i x0j), none, none, none] [] σ := rfl
theorem en_143 (d : Nat) (x0i x0j : Nat) (x1i x1j : Nat) (x2i x2j : Nat) (x3 : Int32) (x4 : Int32) (σ : ma_S) : ma_cal (d + 1) 143 [vR 20 x0i x0j, vR 50 x1i x1j, vR 50 x2i x2j, vI x3, vI x4] σ = ma_ex d 143 0 [some (vR 20 x0i x0j), some (vR 50 x1i x1j), some (vR 50 x2i x2j), some (vI x3), some (vI x4), none] [] σ := rfl
theorem en_144 (d : Nat) (x0i x0j : Nat) (x1i x1j : Nat) (x2 : Int32) (x3 : Int32) (σ : ma_S) : ma_cal (d + 1) 144 [vR 20 x0i x0j, vR 50 x1i x1j, vI x2, vI x3] σ = ma_ex d 144 0 [some (vR 20 x0i x0j), some (vR 50 x1i x1j), some (vI x2), some (vI x3), none] [] σ := rfl
theorem en_145 (d : Nat) (x0i x0j : Nat) (x1 : Int32) (σ : ma_S) : ma_cal (d + 1) 145 [vR 20 x0i x0j, vI x1] σ = ma_ex d 145 0 [some (vR 20 x0i x0j), some (vI x1), none, none, none] [] σ := rfl
theorem en_146 (d : Nat) (x0i x0j : Nat) (σ : ma_S) : ma_cal (d + 1) 146 [vR 20 x0i x0j] σ = ma_ex d 146 0 [some (vR 20 x0i x0j)] [] σ := rfl
theorem en_147 (d : Nat) (x0i x0j : Nat) (x1 : Int32) (σ : ma_S) : ma_cal (d + 1) 147 [vR 20 x0i x0j, vI x1] σ = ma_ex d 147 0 [some (vR 20 x0i x0j), some (vI x1)] [] σ := rfl
theorem en_148 (d : Nat) (x0i x0j : Nat) (x1 : Int32) (σ : ma_S) : ma_cal (d + 1) 148 [vR 20 x0i x0j, vI x1] σ = ma_ex d 148 0 [some (vR 20 x0i x0j), some (vI x1), none] [] σ := rfl
theorem en_149 (d : Nat) (x0i x0j : Nat) (x1 : Int32) (σ : ma_S) : ma_cal (d + 1) 149 [vR 20 x0i x0j, vI x1] σ = ma_ex d 149 0 [some (vR 20 x0i x0j), some (vI x1), none, none] [] σ := rfl
theorem en_150 (d : Nat) (x0i x0j : Nat) (x1 : Int32) (σ : ma_S) : ma_cal (d + 1) 150 [vR 20 x0i x0j, vI x1] σ = ma_ex d 150 0 [some (vR 20 x0i x0j), some (vI x1)] [] σ := rfl
theorem en_151 (d : Nat) (x0i x0j : Nat) (x1 : Int32) (σ : ma_S) : ma_cal (d + 1) 151 [vR 20 x0i x0j, vI x1] σ = ma_ex d 151 0 [some (vR 20 x0i x0j), some (vI x1), none, none, none] [] σ := rfl
theorem en_152 (d : Nat) (x0i x0j : Nat) (x1 : Int32) (σ : ma_S) : ma_cal (d + 1) 152 [vR 20 x0i x0j, vI x1] σ = ma_ex d 152 0 [some (vR 20 x0i x0j), some (vI x1), none, none, none] [] σ := rfl
theorem en_153 (d : Nat) (x0i x0j : Nat) (x1 : Int32) (σ : ma_S) : ma_cal (d + 1) 153 [vR 20 x0i x0j, vI x1] σ = ma_ex d 153 0 [some (vR 20 x0i x0j), some (vI x1)] [] σ := rfl
theorem en_154 (d : Nat) (x0i x0j : Nat) (x1 : Int32) (σ : ma_S) : ma_cal (d + 1) 154 [vR 20 x0i x0j, vI x1] σ = ma_ex d 154 0 [some (vR 20 x0i x0j), some (vI x1), none, none, none, none] [] σ := rfl
theorem en_155 (d : Nat) (x0i x0j : Nat) (x1 : Int32) (σ : ma_S) : ma_cal (d + 1) 155 [vR 20 x0i x0j, vI x1] σ = ma_ex d 155 0 [some (vR 20 x0i x0j), some (vI x1)] [] σ := rfl
theorem en_156 (d : Nat) (x0i x0j : Nat) (x1 : Int32) (σ : ma_S) : ma_cal (d + 1) 156 [vR 20 x0i x0j, vI x1] σ = ma_ex d 156 0 [some (vR 20 x0i x0j), some (vI x1), none, none, none, none, none, none, none, none] [] σ := rfl
theorem en_157 (d : Nat) (x0i x0j : Nat) (x1 : Int32) (σ : ma_S) : ma_cal (d + 1) 157 [vR 20 x0i x0j, vI x1] σ = ma_ex d 157 0 [some (vR 20 x0i x0j), some (vI x1)] [] σ := rfl
theorem en_158 (d : Nat) (x0i x0j : Nat) (x1 : Int32) (σ : ma_S) : ma_cal (d + 1) 158 [vR 20 x0i x0j, vI x1] σ = ma_ex d 158 0 [some (vR 20 x0i x0j), some (vI x1)] [] σ := rfl
theorem en_159 (d : Nat) (x0i x0j : Nat) (x1 : Int32) (σ : ma_S) : ma_cal (d + 1) 159 [vR 20 x0i x0j, vI x1] σ = ma_ex d 159 0 [some (vR 20 x0i x0j), some (vI x1), none] [] σ := rfl
theorem en_160 (d : Nat) (x0i x0j : Nat) (σ : ma_S) : ma_cal (d + 1) 160 [vR 20 x0i x0j] σ = ma_ex d 160 0 [some (vR 20 x0i x0j), none, none] [] σ := rfl
theorem en_161 (d : Nat) (x0i x0j : Nat) (x1 : Int32) (σ : ma_S) : ma_cal (d + 1) 161 [vR 20 x0i x0j, vI x1] σ = ma_ex d 161 0 [some (vR 20 x0i x0j), some (vI x1), none, none] [] σ := rfl
theorem en_162 (d : Nat) (x0i x0j : Nat) (x1 : Int32) (σ : ma_S) : ma_cal (d + 1) 162 [vR 20 x0i x0j, vI x1] σ = ma_ex d 162 0 [some (vR 20 x0i x0j), some (vI x1), none] [] σ := rfl
theorem en_163 (d : Nat) (x0i x0j : Nat) (x1i x1j : Nat) (σ : ma_S) : ma_cal (d + 1) 163 [vR 20 x0i x0j, vR 50 x1i x1j] σ = ma_ex d 163 0 [some (vR 20 x0i x0j), some (vR 50 x1i x1j), none, none] [] σ := rfl
theorem en_164 (d : Nat) (x0i x0j : Nat) (x1 : Int32) (x2 : Int32) (σ : ma_S) : ma_cal (d + 1) 164 [vR 20 x0i x0j, vI x1, vI x2] σ = ma_ex d 164 0 [some (vR 20 x0i x0j), some (vI x1), some (vI x2), none, none] [] σ := rfl
theorem en_165 (d : Nat) (x0i x0j : Nat) (x1 : Int32) (x2 : Int32) (σ : ma_S) : ma_cal (d + 1) 165 [vR 20 x0i x0j, vI x1, vI x2] σ = ma_ex d 165 0 [some (vR 20 x0i x0j), some (vI x1), some (vI x2), none] [] σ := rfl
theorem en_166 (d : Nat) (x0i x0j : Nat) (σ : ma_S) : ma_cal (d + 1) 166 [vR 20 x0i x0j] σ = ma_ex d 166 0 [some (vR 20 x0i x0j)] [] σ := rfl
theorem en_167 (d : Nat) (x0i x0j : Nat) (x1 : Int32) (σ : ma_S) : ma_cal (d + 1) 167 [vR 20 x0i x0j, vI x1] σ = ma_ex d 167 0 [some (vR 20 x0i x0j), some (vI x1), none, none, none] [] σ := rfl
theorem en_168 (d : Nat) (x0i x0j : Nat) (x1 : Int32) (x2 : Int32) (σ : ma_S) : ma_cal (d + 1) 168 [vR 20 x0i x0j, vI x1, vI x2] σ = ma_ex d 168 0 [some (vR 20 x0i x0j), some (vI x1), some (vI x2), none, none] [] σ := rfl
theorem en_169 (d : Nat) (x0i x0j : Nat) (x1 : Int32) (σ : ma_S) : ma_cal (d + 1) 169 [vR 20 x0i x0j, vI x1] σ = ma_ex d 169 0 [some (vR 20 x0i x0j), some (vI x1), none, none, none] [] σ := rfl
theorem en_170 (d : Nat) (x0i x0j : Nat) (x1 : Int32) (σ : ma_S) : ma_cal (d + 1) 170 [vR 20 x0i x0j, vI x1] σ = ma_ex d 170 0 [some (vR 20 x0i x0j), some (vI x1), none] [] σ := rfl
theorem en_171 (d : Nat) (x0i x0j : Nat) (x1 : Int32) (x2 : Int32) (σ : ma_S) : ma_cal (d + 1) 171 [vR 20 x0i x0j, vI x1, vI x2] σ = ma_ex d 171 0 [some (vR 20 x0i x0j), some (vI x1), some (vI x2), none] [] σ := rfl
theorem en_172 (d : Nat) (x0i x0j : Nat) (x1 : Int32) (σ : ma_S) : ma_cal (d + 1) 172 [vR 20 x0i x0j, vI x1] σ = ma_ex d 172 0 [some (vR 20 x0i x0j), some (vI x1)] [] σ := rfl
theorem en_173 (d : Nat) (x0i x0j : Nat) (x1 : Int32) (x2 : Int32) (σ : ma_S) : ma_cal (d + 1) 173 [vR 20 x0i x0j, vI x1, vI x2] σ = ma_ex d 173 0 [some (vR 20 x0i x0j), some (vI x1), some (vI x2), none, none] [] σ := rfl
theorem en_174 (d : Nat) (x0i x0j : Nat) (x1 : Int32) (σ : ma_S) : ma_cal (d + 1) 174 [vR 20 x0i x0j, vI x1] σ = ma_ex d 174 0 [some (vR 20 x0i x0j), some (vI x1), none, none, none] [] σ := rfl
theorem en_175 (d : Nat) (x0i x0j : Nat) (x1 : Int32) (σ : ma_S) : ma_cal (d + 1) 175 [vR 20 x0i x0j, vI x1] σ = ma_ex d 175 0 [some (vR 20 x0i x0j), some (vI x1)] [] σ := rfl
theorem en_176 (d : Nat) (x0i x0j : Nat) (x1 : Int32) (σ : ma_S) : ma_cal (d + 1) 176 [vR 20 x0i x0j, vI x1] σ = ma_ex d 176 0 [some (vR 20 x0i x0j), some (vI x1), none, none] [] σ := rfl
theorem en_177 (d : Nat) (x0i x0j : Nat) (x1 : Int32) (x2 : Int32) (σ : ma_S) : ma_cal (d + 1) 177 [vR 20 x0i x0j, vI x1, vI x2] σ = ma_ex d 177 0 [some (vR 20 x0i x0j), some (vI x1), some (vI x2), none] [] σ := rfl
theorem en_178 (d : Nat) (x0i x0j : Nat) (x1 : Int32) (x2 : Int32) (σ : ma_S) : ma_cal (d + 1) 178 [vR 20 x0i x0j, vI x1, vI x2] σ = ma_ex d 178 0 [some (vR 20 x0i x0j), some (vI x1), some (vI x2), none] [] σ := rfl
theorem en_179 (d : Nat) (x0i x0j : Nat) (x1 : Int32) (x2 : Int32) (σ : ma_S) : ma_cal (d + 1) 179 [vR 20 x0i x0j, vI x1, vI x2] σ = ma_ex d 179 0 [some (vR 20 x0i x0j), some (vI x1), some (vI x2), none, none] [] σ := rfl
theorem en_180 (d : Nat) (x0i x0j : Nat) (x1 : Int32) (x2 : Int32) (x3 : Int32) (σ : ma_S) : ma_cal (d + 1) 180 [vR 20 x0i x0j, vI x1, vI x2, vI x3] σ = ma_ex d 180 0 [some (vR 20 x0i x0j), some (vI x1), some (vI x2), some (vI x3), none, none, none] [] σ := rfl
theorem en_181 (d : Nat) (x0i x0j : Nat) (x1 : Int32) (x2 : Int32) (σ : ma_S) : ma_cal (d + 1) 181 [vR 20 x0i x0j, vI x1, vI x2] σ = ma_ex d 181 0 [some (vR 20 x0i x0j), some (vI x1), some (vI x2), none] [] σ := rfl
theorem en_182 (d : Nat) (x0i x0j : Nat) (x1 : Int32) (x2 : Int32) (σ : ma_S) : ma_cal (d + 1) 182 [vR 20 x0i x0j, vI x1, vI x2] σ = ma_ex d 182 0 [some (vR 20 x0i x0j), some (vI x1), some (vI x2), none] [] σ := rfl
theorem en_183 (d : Nat) (x0i x0j : Nat) (x1 : Int32) (σ : ma_S) : ma_cal (d + 1) 183 [vR 20 x0i x0j, vI x1] σ = ma_ex d 183 0 [some (vR 20 x0i x0j), some (vI x1), none, none, none] [] σ := rfl
theorem en_184 (d : Nat) (x0i x0j : Nat) (x1 : Int32) (x2 : Int32) (x3 : Int32) (x4 : Int32) (x5 : Int32) (σ : ma_S) : ma_cal (d + 1) 184 [vR 20 x0i x0j, vI x1, vI x2, vI x3, vI x4, vI x5] σ = ma_ex d 184 0 [some (vR 20 x0i x0j), some (vI x1), some (vI x2), some (vI x3), some (vI x4), some (vI x5), none, none, none, none] [] σ := rfl
theorem en_185 (d : Nat) (x0i x0j : Nat) (x1 : Int32) (x2 : Int32) (x3 : Int32) (x4 : Int32) (x5 : Int32) (σ : ma_S) : ma_cal (d + 1) 185 [vR 20 x0i x0j, vI x1, vI x2, vI x3, vI x4, vI x5] σ = ma_ex d 185 0 [some (vR 20 x0i x0j), some (vI x1), some (vI x2), some (vI x3), some (vI x4), some (vI x5), none, none] [] σ := rfl
theorem en_186 (d : Nat) (x0i x0j : Nat) (x1 : Int32) (σ : ma_S) : ma_cal (d + 1) 186 [vR 20 x0i x0j, vI x1] σ = ma_ex d 186 0 [some (vR 20 x0i x0j), some (vI x1), none, none, none, none] [] σ := rfl
theorem en_187 (d : Nat) (x0i x0j : Nat) (x1 : Int32) (σ : ma_S) : ma_cal (d + 1) 187 [vR 20 x0i x0j, vI x1] σ = ma_ex d 187 0 [some (vR 20 x0i x0j), some (vI x1), none, none] [] σ := rfl
theorem en_188 (d : Nat) (x0i x0j : Nat) (x1 : Int32) (σ : ma_S) : ma_cal (d + 1) 188 [vR 20 x0i x0j, vI x1] σ = ma_ex d 188 0 [some (vR 20 x0i x0j), some (vI x1)] [] σ := rfl
theorem en_189 (d : Nat) (x0i x0j : Nat) (x1 : Int32) (x2 : Int32) (σ : ma_S) : ma_cal (d + 1) 189 [vR 20 x0i x0j, vI x1, vI x2] σ = ma_ex d 189 0 [some (vR 20 x0i x0j), some (vI x1), some (vI x2)] [] σ := rfl
theorem en_190 (d : Nat) (x0i x0j : Nat) (x1 : Int32) (σ : ma_S) : ma_cal (d + 1) 190 [vR 20 x0i x0j, vI x1] σ = ma_ex d 190 0 [some (vR 20 x0i x0j), some (vI x1)] [] σ := rfl
theorem en_191 (d : Nat) (x0i x0j : Nat) (x1 : Int32) (σ : ma_S) : ma_cal (d + 1) 191 [vR 20 x0i x0j, vI x1] σ = ma_ex d 191 0 [some (vR 20 x0i x0j), some (vI x1), none, none, none] [] σ := rfl
theorem en_192 (d : Nat) (x0i x0j : Nat) (x1 : Int32) (σ : ma_S) : ma_cal (d + 1) 192 [vR 20 x0i x0j, vI x1] σ = ma_ex d 192 0 [some (vR 20 x0i x0j), some (vI x1), none, none] [] σ := rfl
theorem en_193 (d : Nat) (x0i x0j : Nat) (x1 : Int32) (σ : ma_S) : ma_cal (d + 1) 193 [vR 20 x0i x0j, vI x1] σ = ma_ex d 193 0 [some (vR 20 x0i x0j), some (vI x1), none] [] σ := rfl
theorem en_194 (d : Nat) (x0i x0j : Nat) (x1 : Int32) (σ : ma_S) : ma_cal (d + 1) 194 [vR 20 x0i x0j, vI x1] σ = ma_ex d 194 0 [some (vR 20 x0i x0j), some (vI x1)] [] σ := rfl
theorem en_195 (d : Nat) (x0i x0j : Nat) (x1 : Int32) (x2 : Int32) (σ : ma_S) : ma_cal (d + 1) 195 [vR 20 x0i x0j, vI x1, vI x2] σ = ma_ex d 195 0 [some (vR 20 x0i x0j), some (vI x1), some (vI x2), none, none] [] σ := rfl
theorem en_196 (d : Nat) (x0i x0j : Nat) (x1 : Int32) (x2 : Int32) (σ : ma_S) : ma_cal (d + 1) 196 [vR 20 x0i x0j, vI x1, vI x2] σ = ma_ex d 196 0 [some (vR 20 x0i x0j), some (vI x1), some (vI x2), none, none, none, none] [] σ := rfl
theorem en_197 (d : Nat) (x0i x0j : Nat) (x1 : Int32) (x2 : Int32) (σ : ma_S) : ma_cal (d + 1) 197 [vR 20 x0i x0j, vI x1, vI x2] σ = ma_ex d 197 0 [some (vR 20 x0i x0j), some (vI x1), some (vI x2), none, none] [] σ := rfl
theorem en_198 (d : Nat) (x0i x0j : Nat) (x1 : Int32) (x2 : Int32) (x3 : Int32) (σ : ma_S) : ma_cal (d + 1) 198 [vR 20 x0i x0j, vI x1, vI x2, vI x3] σ = ma_ex d 198 0 [some (vR 20 x0i x0j), some (vI x1), some (vI x2), some (vI x3)] [] σ := rfl
theorem en_199 (d : Nat) (x0i x0j : Nat) (x1 : Int32) (σ : ma_S) : ma_cal (d + 1) 199 [vR 20 x0i x0j, vI x1] σ = ma_ex d 199 0 [some (vR 20 x0i x0j), some (vI x1)] [] σ := rfl
theorem en_200 (d : Nat) (x0i x0j : Nat) (σ : ma_S) : ma_cal (d + 1) 200 [vR 20 x0i x0j] σ = ma_ex d 200 0 [some (vR 20 x0i x0j)] [] σ := rfl
theorem en_201 (d : Nat) (x0i x0j : Nat) (σ : ma_S) : ma_cal (d + 1) 201 [vR 20 x0i x0j] σ = ma_ex d 201 0 [some (vR 20 x0i x0j), none] [] σ := rfl
theorem en_202 (d : Nat) (x0i x0j : Nat) (x1 : Int32) (σ : ma_S) : ma_cal (d + 1) 202 [vR 20 x0i x0j, vI x1] σ = ma_ex d 202 0 [some (vR 20 x0i x0j), some (vI x1), none, none] [] σ := rfl
theorem en_203 (d : Nat) (x0i x0j : Nat) (σ : ma_S) : ma_cal (d + 1) 203 [vR 41 x0i x0j] σ = ma_ex d 203 0 [some (vR 41 x0i x0j)] [] σ := rfl
theorem en_204 (d : Nat) (x0i x0j : Nat) (x1 : Int32) (σ : ma_S) : ma_cal (d + 1) 204 [vR 41 x0i x0j, vI x1] σ = ma_ex d 204 0 [some (vR 41 x0i x0j), some (vI x1)] [] σ := rfl
theorem en_205 (d : Nat) (x0i x0j : Nat) (σ : ma_S) : ma_cal (d + 1) 205 [vR 41 x0i x0j] σ = ma_ex d 205 0 [some (vR 41 x0i x0j)] [] σ := rfl
theorem en_206 (d : Nat) (x0i x0j : Nat) (σ : ma_S) : ma_cal (d + 1) 206 [vR 41 x0i x0j] σ = ma_ex d 206 0 [some (vR 41 x0i x0j)] [] σ := rfl
theorem en_207 (d : Nat) (x0 : Int32) (x1 : Int32) (σ : ma_S) : ma_cal (d + 1) 207 [vI x0, vI x1] σ = ma_ex d 207 0 [some (vI x0), some (vI x1)] [] σ := rfl
theorem en_208 (d : Nat) (x0i x0j : Nat) (x1 : Int32) (σ : ma_S) : ma_cal (d + 1) 208 [vR 42 x0i x0j, vI x1] σ = ma_ex d 208 0 [some (vR 42 x0i x0j), some (vI x1)] [] σ := rfl
theorem en_209 (d : Nat) (x0 : Int32) (x1 : Int32) (x2i x2j : Nat) (σ : ma_S) : ma_cal (d + 1) 209 [vI x0, vI x1, vR 43 x2i x2j] σ = ma_ex d 209 0 [some (vI x0), some (vI x1), some (vR 43 x2i x2j)] [] σ := rfl
