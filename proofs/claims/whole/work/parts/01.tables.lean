/-! PART 01 (printed by wip/whole/gen/tables.py): the code of every method as data, and what its links say. -/
abbrev ma_V : Type := Int32 ⊕ (Int64 ⊕ (Nat × Nat × Nat))
abbrev vI (x : Int32) : ma_V := Sum.inl x
abbrev vL (x : Int64) : ma_V := Sum.inr (Sum.inl x)
abbrev vR (g i j : Nat) : ma_V := Sum.inr (Sum.inr (g, i, j))
def ma_lu {α : Type} : List (Nat × α) → Nat → Option α
  | [], _ => none
  | (q, x) :: r, k => match Nat.beq q k with
    | true => some x
    | false => ma_lu r k
def cd_0 : List (Nat × Instr × Nat) := [(0, .aload_n 0, 1), (1, .aload_n 1, 1), (2, .getfield 40, 3), (5, .putfield 40, 3), (8, .iconst 0, 1), (9, .istore_n 2, 1), (10, .iload_n 2, 1), (11, .aload_n 0, 1), (12, .getfield 40, 3), (15, .if_icmp .ge 24, 3), (18, .aload_n 0, 1), (19, .getfield 11, 3), (22, .iload_n 2, 1), (23, .aaload, 1), (24, .aload_n 1, 1), (25, .getfield 11, 3), (28, .iload_n 2, 1), (29, .aaload, 1), (30, .invokevirtual 43, 3), (33, .iinc 2 1, 3), (36, .goto (-26), 3), (39, .aload_n 0, 1), (40, .aload_n 1, 1), (41, .getfield 17, 3), (44, .putfield 17, 3), (47, .aload_n 0, 1), (48, .aload_n 1, 1), (49, .getfield 47, 3), (52, .putfield 47, 3), (55, .aload_n 0, 1), (56, .aload_n 1, 1), (57, .getfield 21, 3), (60, .putfield 21, 3), (63, .aload_n 0, 1), (64, .aload_n 1, 1), (65, .getfield 50, 3), (68, .putfield 50, 3), (71, .aload_n 0, 1), (72, .aload_n 1, 1), (73, .getfield 24, 3), (76, .putfield 24, 3), (79, .aload_n 0, 1), (80, .aload_n 1, 1), (81, .getfield 27, 3), (84, .putfield 27, 3), (87, .aload_n 0, 1), (88, .aload_n 1, 1), (89, .getfield 30, 3), (92, .putfield 30, 3), (95, .return_, 1)]
def cd_1 : List (Nat × Instr × Nat) := [(0, .iconst 0, 1), (1, .istore_n 2, 1), (2, .iload_n 2, 1), (3, .aload_n 0, 1), (4, .getfield 40, 3), (7, .if_icmp .ge 18, 3), (10, .aload_n 0, 1), (11, .getfield 11, 3), (14, .iload_n 2, 1), (15, .aaload, 1), (16, .invokevirtual 53, 3), (19, .iinc 2 1, 3), (22, .goto (-20), 3), (25, .aload_n 0, 1), (26, .dup, 1), (27, .getfield 17, 3), (30, .aload_n 0, 1), (31, .getfield 47, 3), (34, .iadd, 1), (35, .putfield 17, 3), (38, .aload_n 0, 1), (39, .iconst 0, 1), (40, .putfield 47, 3), (43, .aload_n 0, 1), (44, .iload_n 1, 1), (45, .putfield 21, 3), (48, .return_, 1)]
def cd_2 : List (Nat × Instr × Nat) := [(0, .iload_n 1, 1), (1, .ifCond .lt 15, 3), (4, .iload_n 1, 1), (5, .aload_n 0, 1), (6, .getfield 40, 3), (9, .if_icmp .ge 7, 3), (12, .iconst 1, 1), (13, .goto 4, 3), (16, .iconst 0, 1), (17, .ireturn, 1)]
def cd_3 : List (Nat × Instr × Nat) := [(0, .aload_n 0, 1), (1, .getfield 40, 3), (4, .iconst 4, 1), (5, .if_icmp .ge 7, 3), (8, .iconst 1, 1), (9, .goto 4, 3), (12, .iconst 0, 1), (13, .ireturn, 1)]
def cd_4 : List (Nat × Instr × Nat) := [(0, .aload_n 0, 1), (1, .invokevirtual 56, 3), (4, .ifCond .ne 5, 3), (7, .iconst (-1), 1), (8, .ireturn, 1), (9, .aload_n 0, 1), (10, .getfield 11, 3), (13, .aload_n 0, 1), (14, .getfield 40, 3), (17, .aaload, 1), (18, .iload_n 1, 1), (19, .iload_n 2, 1), (20, .invokevirtual 60, 3), (23, .aload_n 0, 1), (24, .dup, 1), (25, .getfield 40, 3), (28, .iconst 1, 1), (29, .iadd, 1), (30, .putfield 40, 3), (33, .aload_n 0, 1), (34, .getfield 40, 3), (37, .iconst 1, 1), (38, .isub, 1), (39, .ireturn, 1)]
def cd_5 : List (Nat × Instr × Nat) := [(0, .iconst 0, 1), (1, .istore_n 1, 1), (2, .iconst 0, 1), (3, .istore_n 2, 1), (4, .iload_n 2, 1), (5, .aload_n 0, 1), (6, .getfield 40, 3), (9, .if_icmp .ge 28, 3), (12, .aload_n 0, 1), (13, .getfield 11, 3), (16, .iload_n 2, 1), (17, .aaload, 1), (18, .getfield 64, 3), (21, .iconst 1, 1), (22, .if_icmp .ne 9, 3), (25, .iload_n 1, 1), (26, .iconst 1, 1), (27, .iload_n 2, 1), (28, .ishl, 1), (29, .ior, 1), (30, .istore_n 1, 1), (31, .iinc 2 1, 3), (34, .goto (-30), 3), (37, .iload_n 1, 1), (38, .ireturn, 1)]
def cd_6 : List (Nat × Instr × Nat) := [(0, .iconst 0, 1), (1, .istore_n 1, 1), (2, .iconst 0, 1), (3, .istore_n 2, 1), (4, .iload_n 2, 1), (5, .aload_n 0, 1), (6, .getfield 40, 3), (9, .if_icmp .ge 21, 3), (12, .iload_n 1, 1), (13, .aload_n 0, 1), (14, .getfield 11, 3), (17, .iload_n 2, 1), (18, .aaload, 1), (19, .getfield 67, 3), (22, .iadd, 1), (23, .istore_n 1, 1), (24, .iinc 2 1, 3), (27, .goto (-23), 3), (30, .iload_n 1, 1), (31, .ireturn, 1)]
def cd_7 : List (Nat × Instr × Nat) := [(0, .iconst 0, 1), (1, .istore_n 1, 1), (2, .iconst 0, 1), (3, .istore_n 2, 1), (4, .iload_n 2, 1), (5, .aload_n 0, 1), (6, .getfield 40, 3), (9, .if_icmp .ge 21, 3), (12, .iload_n 1, 1), (13, .aload_n 0, 1), (14, .getfield 11, 3), (17, .iload_n 2, 1), (18, .aaload, 1), (19, .getfield 70, 3), (22, .iadd, 1), (23, .istore_n 1, 1), (24, .iinc 2 1, 3), (27, .goto (-23), 3), (30, .iload_n 1, 1), (31, .ireturn, 1)]
def cd_8 : List (Nat × Instr × Nat) := [(0, .aload_n 0, 1), (1, .getfield 11, 3), (4, .iconst 0, 1), (5, .aaload, 1), (6, .getfield 67, 3), (9, .istore_n 1, 1), (10, .iload_n 1, 1), (11, .istore_n 2, 1), (12, .iconst 1, 1), (13, .istore_n 3, 1), (14, .iload_n 3, 1), (15, .aload_n 0, 1), (16, .getfield 40, 3), (19, .if_icmp .ge 37, 3), (22, .iload_n 1, 1), (23, .aload_n 0, 1), (24, .getfield 11, 3), (27, .iload_n 3, 1), (28, .aaload, 1), (29, .getfield 67, 3), (32, .invokestatic 73, 3), (35, .istore_n 1, 1), (36, .iload_n 2, 1), (37, .aload_n 0, 1), (38, .getfield 11, 3), (41, .iload_n 3, 1), (42, .aaload, 1), (43, .getfield 67, 3), (46, .invokestatic 79, 3), (49, .istore_n 2, 1), (50, .iinc 3 1, 3), (53, .goto (-39), 3), (56, .iload_n 1, 1), (57, .iload_n 2, 1), (58, .isub, 1), (59, .ireturn, 1)]
def cd_9 : List (Nat × Instr × Nat) := [(0, .aload_n 0, 1), (1, .aload_n 0, 1), (2, .getfield 30, 3), (5, .ldc 82, 2), (7, .imul, 1), (8, .sipush 12345, 3), (11, .iadd, 1), (12, .putfield 30, 3), (15, .iload_n 1, 1), (16, .ifCond .le 15, 3), (19, .aload_n 0, 1), (20, .getfield 30, 3), (23, .bipush 16, 2), (25, .iushr, 1), (26, .iload_n 1, 1), (27, .irem, 1), (28, .goto 4, 3), (31, .iconst 0, 1), (32, .ireturn, 1)]
def cd_10 : List (Nat × Instr × Nat) := [(0, .bipush 100, 2), (2, .iload_n 0, 1), (3, .imul, 1), (4, .bipush 10, 2), (6, .iload_n 1, 1), (7, .imul, 1), (8, .iadd, 1), (9, .iload_n 2, 1), (10, .iadd, 1), (11, .ireturn, 1)]
def cd_11 : List (Nat × Instr × Nat) := [(0, .iload_n 0, 1), (1, .bipush 100, 2), (3, .idiv, 1), (4, .ireturn, 1)]
def cd_12 : List (Nat × Instr × Nat) := [(0, .iload_n 0, 1), (1, .iconst 1, 1), (2, .if_icmp .eq 8, 3), (5, .iload_n 0, 1), (6, .iconst 3, 1), (7, .if_icmp .ne 7, 3), (10, .iconst 1, 1), (11, .goto 4, 3), (14, .iconst 0, 1), (15, .ireturn, 1)]
def cd_13 : List (Nat × Instr × Nat) := [(0, .iload_n 0, 1), (1, .invokestatic 83, 3), (4, .lookupswitch 32 #[(0, 28), (1, 30)], 28), (32, .iconst 1, 1), (33, .ireturn, 1), (34, .iconst 2, 1), (35, .ireturn, 1), (36, .iconst 0, 1), (37, .ireturn, 1)]
def cd_14 : List (Nat × Instr × Nat) := [(0, .iload_n 1, 1), (1, .bipush 100, 2), (3, .idiv, 1), (4, .istore_n 2, 1), (5, .iload_n 1, 1), (6, .bipush 10, 2), (8, .idiv, 1), (9, .bipush 10, 2), (11, .irem, 1), (12, .istore_n 3, 1), (13, .iload_n 1, 1), (14, .bipush 10, 2), (16, .irem, 1), (17, .istore 4, 2), (19, .iload_n 1, 1), (20, .ifCond .lt 9, 3), (23, .iload_n 2, 1), (24, .bipush 7, 2), (26, .if_icmp .lt 16, 3), (29, .iload_n 1, 1), (30, .sipush 700, 3), (33, .if_icmp .ne 7, 3), (36, .iconst 1, 1), (37, .goto 4, 3), (40, .iconst 0, 1), (41, .ireturn, 1), (42, .iload_n 2, 1), (43, .iconst 1, 1), (44, .if_icmp .eq 8, 3), (47, .iload_n 2, 1), (48, .iconst 3, 1), (49, .if_icmp .ne 7, 3), (52, .iconst 1, 1), (53, .goto 4, 3), (56, .iconst 0, 1), (57, .istore 5, 2), (59, .iload_n 3, 1), (60, .aload_n 0, 1), (61, .getfield 40, 3), (64, .if_icmp .ge 35, 3), (67, .iload 5, 2), (69, .ifCond .eq 21, 3), (72, .iload 4, 2), (74, .iload_n 3, 1), (75, .if_icmp .le 24, 3), (78, .iload 4, 2), (80, .aload_n 0, 1), (81, .getfield 40, 3), (84, .if_icmp .ge 15, 3), (87, .goto 8, 3), (90, .iload 4, 2), (92, .ifCond .ne 7, 3), (95, .iconst 1, 1), (96, .goto 4, 3), (99, .iconst 0, 1), (100, .ireturn, 1)]
def cd_15 : List (Nat × Instr × Nat) := [(0, .aload_n 0, 1), (1, .iload_n 1, 1), (2, .invokevirtual 87, 3), (5, .ifCond .ne 5, 3), (8, .iconst (-1), 1), (9, .ireturn, 1), (10, .aload_n 0, 1), (11, .getfield 11, 3), (14, .iload_n 1, 1), (15, .bipush 10, 2), (17, .idiv, 1), (18, .bipush 10, 2), (20, .irem, 1), (21, .aaload, 1), (22, .astore_n 2, 1), (23, .aload_n 0, 1), (24, .getfield 11, 3), (27, .iload_n 1, 1), (28, .bipush 10, 2), (30, .irem, 1), (31, .aaload, 1), (32, .astore_n 3, 1), (33, .iload_n 1, 1), (34, .invokestatic 83, 3), (37, .tableswitch 129 0 6 #[43, 52, 78, 87, 111, 120, 122], 43), (80, .aload_n 2, 1), (81, .aload_n 0, 1), (82, .getfield 27, 3), (85, .invokevirtual 91, 3), (88, .ireturn, 1), (89, .iconst 1, 1), (90, .aload_n 2, 1), (91, .aload_n 0, 1), (92, .getfield 27, 3), (95, .invokevirtual 91, 3), (98, .aload_n 3, 1), (99, .aload_n 0, 1), (100, .getfield 27, 3), (103, .invokevirtual 91, 3), (106, .invokestatic 79, 3), (109, .iconst 1, 1), (110, .isub, 1), (111, .invokestatic 73, 3), (114, .ireturn, 1), (115, .aload_n 2, 1), (116, .aload_n 0, 1), (117, .getfield 24, 3), (120, .invokevirtual 94, 3), (123, .ireturn, 1), (124, .iconst 1, 1), (125, .aload_n 2, 1), (126, .aload_n 0, 1), (127, .getfield 24, 3), (130, .invokevirtual 94, 3), (133, .aload_n 3, 1), (134, .aload_n 0, 1), (135, .getfield 24, 3), (138, .invokevirtual 94, 3), (141, .iadd, 1), (142, .iconst 2, 1), (143, .idiv, 1), (144, .invokestatic 73, 3), (147, .ireturn, 1), (148, .aload_n 2, 1), (149, .aload_n 0, 1), (150, .getfield 24, 3), (153, .invokevirtual 97, 3), (156, .ireturn, 1), (157, .iconst 2, 1), (158, .ireturn, 1), (159, .aload_n 0, 1), (160, .getfield 27, 3), (163, .iconst 1, 1), (164, .iadd, 1), (165, .ireturn, 1), (166, .iconst 5, 1), (167, .ireturn, 1)]
def cd_16 : List (Nat × Instr × Nat) := [(0, .aload_n 0, 1), (1, .iload_n 1, 1), (2, .invokevirtual 100, 3), (5, .istore_n 2, 1), (6, .iload_n 2, 1), (7, .iconst (-1), 1), (8, .if_icmp .eq 11, 3), (11, .iload_n 2, 1), (12, .aload_n 0, 1), (13, .getfield 21, 3), (16, .if_icmp .le 5, 3), (19, .iconst 0, 1), (20, .ireturn, 1), (21, .aload_n 0, 1), (22, .getfield 11, 3), (25, .iload_n 1, 1), (26, .bipush 10, 2), (28, .idiv, 1), (29, .bipush 10, 2), (31, .irem, 1), (32, .aaload, 1), (33, .getfield 64, 3), (36, .iconst 1, 1), (37, .if_icmp .ne 7, 3), (40, .iconst 1, 1), (41, .goto 4, 3), (44, .iconst 0, 1), (45, .istore_n 3, 1), (46, .aload_n 0, 1), (47, .getfield 11, 3), (50, .iload_n 1, 1), (51, .bipush 10, 2), (53, .irem, 1), (54, .aaload, 1), (55, .getfield 64, 3), (58, .iconst 1, 1), (59, .if_icmp .ne 7, 3), (62, .iconst 1, 1), (63, .goto 4, 3), (66, .iconst 0, 1), (67, .istore 4, 2), (69, .iload_n 1, 1), (70, .invokestatic 83, 3), (73, .tableswitch 157 0 6 #[43, 60, 82, 99, 121, 131, 155], 43), (116, .iload_n 3, 1), (117, .ifCond .eq 14, 3), (120, .aload_n 0, 1), (121, .getfield 47, 3), (124, .ifCond .le 7, 3), (127, .iconst 1, 1), (128, .goto 4, 3), (131, .iconst 0, 1), (132, .ireturn, 1), (133, .iload_n 3, 1), (134, .ifCond .eq 19, 3), (137, .iload 4, 2), (139, .ifCond .eq 14, 3), (142, .aload_n 0, 1), (143, .getfield 47, 3), (146, .ifCond .le 7, 3), (149, .iconst 1, 1), (150, .goto 4, 3), (153, .iconst 0, 1), (154, .ireturn, 1), (155, .iload_n 3, 1), (156, .ifCond .ne 14, 3), (159, .aload_n 0, 1), (160, .getfield 17, 3), (163, .ifCond .le 7, 3), (166, .iconst 1, 1), (167, .goto 4, 3), (170, .iconst 0, 1), (171, .ireturn, 1), (172, .iload_n 3, 1), (173, .ifCond .ne 19, 3), (176, .iload 4, 2), (178, .ifCond .ne 14, 3), (181, .aload_n 0, 1), (182, .getfield 17, 3), (185, .ifCond .le 7, 3), (188, .iconst 1, 1), (189, .goto 4, 3), (192, .iconst 0, 1), (193, .ireturn, 1), (194, .iload_n 3, 1), (195, .ifCond .ne 7, 3), (198, .iconst 1, 1), (199, .goto 4, 3), (202, .iconst 0, 1), (203, .ireturn, 1), (204, .iload_n 3, 1), (205, .ifCond .ne 21, 3), (208, .aload_n 0, 1), (209, .getfield 17, 3), (212, .ifCond .le 14, 3), (215, .aload_n 0, 1), (216, .getfield 50, 3), (219, .ifCond .le 7, 3), (222, .iconst 1, 1), (223, .goto 4, 3), (226, .iconst 0, 1), (227, .ireturn, 1), (228, .iload_n 3, 1), (229, .ireturn, 1), (230, .iconst 1, 1), (231, .ireturn, 1)]
def cd_17 : List (Nat × Instr × Nat) := [(0, .aload_n 0, 1), (1, .iload_n 1, 1), (2, .invokevirtual 103, 3), (5, .ifCond .ne 5, 3), (8, .iconst 0, 1), (9, .ireturn, 1), (10, .aload_n 0, 1), (11, .iload_n 1, 1), (12, .invokevirtual 100, 3), (15, .istore_n 2, 1), (16, .iload_n 1, 1), (17, .invokestatic 83, 3), (20, .istore_n 3, 1), (21, .iconst 0, 1), (22, .istore 4, 2), (24, .iload 4, 2), (26, .aload_n 0, 1), (27, .getfield 40, 3), (30, .if_icmp .ge 69, 3), (33, .iload_n 1, 1), (34, .iload 4, 2), (36, .invokestatic 106, 3), (39, .ifCond .eq 17, 3), (42, .aload_n 0, 1), (43, .getfield 11, 3), (46, .iload 4, 2), (48, .aaload, 1), (49, .iload_n 3, 1), (50, .invokevirtual 110, 3), (53, .goto 40, 3), (56, .aload_n 0, 1), (57, .getfield 11, 3), (60, .iload 4, 2), (62, .aaload, 1), (63, .iload_n 2, 1), (64, .invokevirtual 113, 3), (67, .aload_n 0, 1), (68, .getfield 11, 3), (71, .iload 4, 2), (73, .aaload, 1), (74, .dup, 1), (75, .getfield 70, 3), (78, .iload_n 3, 1), (79, .bipush 7, 2), (81, .if_icmp .ne 7, 3), (84, .iconst 0, 1), (85, .goto 4, 3), (88, .iload_n 2, 1), (89, .iadd, 1), (90, .putfield 70, 3), (93, .iinc 4 1, 3), (96, .goto (-72), 3), (99, .aload_n 0, 1), (100, .dup, 1), (101, .getfield 21, 3), (104, .iload_n 2, 1), (105, .isub, 1), (106, .putfield 21, 3), (109, .aload_n 0, 1), (110, .iload_n 3, 1), (111, .invokevirtual 116, 3), (114, .iconst 1, 1), (115, .ireturn, 1)]
def cd_18 : List (Nat × Instr × Nat) := [(0, .iload_n 0, 1), (1, .invokestatic 83, 3), (4, .istore_n 2, 1), (5, .iload_n 2, 1), (6, .bipush 7, 2), (8, .if_icmp .eq 33, 3), (11, .iload_n 1, 1), (12, .iload_n 0, 1), (13, .bipush 10, 2), (15, .idiv, 1), (16, .bipush 10, 2), (18, .irem, 1), (19, .if_icmp .eq 18, 3), (22, .iload_n 2, 1), (23, .invokestatic 119, 3), (26, .ifCond .eq 15, 3), (29, .iload_n 1, 1), (30, .iload_n 0, 1), (31, .bipush 10, 2), (33, .irem, 1), (34, .if_icmp .ne 7, 3), (37, .iconst 1, 1), (38, .goto 4, 3), (41, .iconst 0, 1), (42, .ireturn, 1)]
def cd_19 : List (Nat × Instr × Nat) := [(0, .iload_n 1, 1), (1, .tableswitch 118 0 5 #[39, 39, 95, 95, 118, 62], 39), (40, .aload_n 0, 1), (41, .dup, 1), (42, .getfield 47, 3), (45, .iconst 1, 1), (46, .isub, 1), (47, .putfield 47, 3), (50, .aload_n 0, 1), (51, .dup, 1), (52, .getfield 17, 3), (55, .iconst 1, 1), (56, .iadd, 1), (57, .putfield 17, 3), (60, .goto 59, 3), (63, .aload_n 0, 1), (64, .dup, 1), (65, .getfield 50, 3), (68, .iconst 1, 1), (69, .isub, 1), (70, .putfield 50, 3), (73, .aload_n 0, 1), (74, .dup, 1), (75, .getfield 17, 3), (78, .iconst 1, 1), (79, .isub, 1), (80, .putfield 17, 3), (83, .aload_n 0, 1), (84, .dup, 1), (85, .getfield 47, 3), (88, .iconst 1, 1), (89, .iadd, 1), (90, .putfield 47, 3), (93, .goto 26, 3), (96, .aload_n 0, 1), (97, .dup, 1), (98, .getfield 17, 3), (101, .iconst 1, 1), (102, .isub, 1), (103, .putfield 17, 3), (106, .aload_n 0, 1), (107, .dup, 1), (108, .getfield 47, 3), (111, .iconst 1, 1), (112, .iadd, 1), (113, .putfield 47, 3), (116, .goto 3, 3), (119, .return_, 1)]
def cd_20 : List (Nat × Instr × Nat) := [(0, .iconst 0, 1), (1, .istore_n 3, 1), (2, .iload_n 1, 1), (3, .istore 4, 2), (5, .iload 4, 2), (7, .iload_n 2, 1), (8, .if_icmp .gt 132, 3), (11, .iload 4, 2), (13, .bipush 7, 2), (15, .if_icmp .ne 7, 3), (18, .iconst 0, 1), (19, .goto 9, 3), (22, .aload_n 0, 1), (23, .getfield 40, 3), (26, .iconst 1, 1), (27, .isub, 1), (28, .istore 5, 2), (30, .iconst 0, 1), (31, .istore 6, 2), (33, .iload 6, 2), (35, .iload 5, 2), (37, .if_icmp .gt 97, 3), (40, .iload 4, 2), (42, .invokestatic 119, 3), (45, .ifCond .eq 10, 3), (48, .iload 6, 2), (50, .iconst 1, 1), (51, .iadd, 1), (52, .goto 4, 3), (55, .iconst 0, 1), (56, .istore 7, 2), (58, .iload 4, 2), (60, .invokestatic 119, 3), (63, .ifCond .eq 12, 3), (66, .aload_n 0, 1), (67, .getfield 40, 3), (70, .iconst 1, 1), (71, .isub, 1), (72, .goto 4, 3), (75, .iconst 0, 1), (76, .istore 8, 2), (78, .iload 7, 2), (80, .iload 8, 2), (82, .if_icmp .gt 46, 3), (85, .iload 4, 2), (87, .iload 6, 2), (89, .iload 7, 2), (91, .invokestatic 122, 3), (94, .istore 9, 2), (96, .iload_n 3, 1), (97, .bipush 40, 2), (99, .if_icmp .ge 23, 3), (102, .aload_n 0, 1), (103, .iload 9, 2), (105, .invokevirtual 103, 3), (108, .ifCond .eq 14, 3), (111, .aload_n 0, 1), (112, .getfield 33, 3), (115, .iload_n 3, 1), (116, .iload 9, 2), (118, .iastore, 1), (119, .iinc 3 1, 3), (122, .iinc 7 1, 3), (125, .goto (-47), 3), (128, .iinc 6 1, 3), (131, .goto (-98), 3), (134, .iinc 4 1, 3), (137, .goto (-132), 3), (140, .iload_n 3, 1), (141, .ireturn, 1)]
def cd_21 : List (Nat × Instr × Nat) := [(0, .aload_n 0, 1), (1, .getfield 11, 3), (4, .iconst 0, 1), (5, .aaload, 1), (6, .aload_n 1, 1), (7, .invokevirtual 25, 3), (10, .aload_n 0, 1), (11, .iconst 0, 1), (12, .putfield 29, 3), (15, .aload_n 0, 1), (16, .iconst 0, 1), (17, .putfield 33, 3), (20, .aload_n 0, 1), (21, .iconst 0, 1), (22, .putfield 36, 3), (25, .aload_n 0, 1), (26, .iconst 0, 1), (27, .iload_n 2, 1), (28, .iconst 3, 1), (29, .invokestatic 39, 3), (32, .iconst 0, 1), (33, .iconst 0, 1), (34, .invokestatic 45, 3), (37, .return_, 1)]
def cd_22 : List (Nat × Instr × Nat) := [(0, .iload_n 1, 1), (1, .ifCond .lt 13, 3), (4, .iload_n 1, 1), (5, .iload_n 2, 1), (6, .if_icmp .ge 8, 3), (9, .iload_n 2, 1), (10, .iconst 3, 1), (11, .if_icmp .le 4, 3), (14, .return_, 1), (15, .aload_n 0, 1), (16, .getfield 11, 3), (19, .iload_n 1, 1), (20, .aaload, 1), (21, .astore 5, 2), (23, .aload 5, 2), (25, .iconst 0, 1), (26, .bipush 7, 2), (28, .invokevirtual 49, 3), (31, .istore 6, 2), (33, .iconst 0, 1), (34, .istore 7, 2), (36, .iload 7, 2), (38, .iload 6, 2), (40, .if_icmp .ge 105, 3), (43, .aload 5, 2), (45, .getfield 52, 3), (48, .iload 7, 2), (50, .iaload, 1), (51, .istore 8, 2), (53, .iload_n 3, 1), (54, .iload 8, 2), (56, .invokestatic 55, 3), (59, .iadd, 1), (60, .istore 9, 2), (62, .iload 4, 2), (64, .aload 5, 2), (66, .iload 8, 2), (68, .invokevirtual 59, 3), (71, .iadd, 1), (72, .istore 10, 2), (74, .aload_n 0, 1), (75, .getfield 17, 3), (78, .iload_n 1, 1), (79, .iload 8, 2), (81, .iastore, 1), (82, .aload_n 0, 1), (83, .iload_n 1, 1), (84, .iconst 1, 1), (85, .iadd, 1), (86, .iload 9, 2), (88, .iload 10, 2), (90, .invokevirtual 62, 3), (93, .iload_n 1, 1), (94, .iconst 1, 1), (95, .iadd, 1), (96, .iload_n 2, 1), (97, .if_icmp .ge 42, 3), (100, .aload_n 0, 1), (101, .getfield 11, 3), (104, .iload_n 1, 1), (105, .iconst 1, 1), (106, .iadd, 1), (107, .aaload, 1), (108, .aload 5, 2), (110, .invokevirtual 25, 3), (113, .aload_n 0, 1), (114, .getfield 11, 3), (117, .iload_n 1, 1), (118, .iconst 1, 1), (119, .iadd, 1), (120, .aaload, 1), (121, .iload 8, 2), (123, .invokevirtual 66, 3), (126, .pop, 1), (127, .aload_n 0, 1), (128, .iload_n 1, 1), (129, .iconst 1, 1), (130, .iadd, 1), (131, .iload_n 2, 1), (132, .iload 9, 2), (134, .iload 10, 2), (136, .invokestatic 45, 3), (139, .iinc 7 1, 3), (142, .goto (-106), 3), (145, .return_, 1)]
def cd_23 : List (Nat × Instr × Nat) := [(0, .iload_n 2, 1), (1, .aload_n 0, 1), (2, .getfield 33, 3), (5, .if_icmp .gt 19, 3), (8, .iload_n 2, 1), (9, .aload_n 0, 1), (10, .getfield 33, 3), (13, .if_icmp .ne 40, 3), (16, .iload_n 3, 1), (17, .aload_n 0, 1), (18, .getfield 36, 3), (21, .if_icmp .ge 32, 3), (24, .aload_n 0, 1), (25, .iload_n 1, 1), (26, .putfield 29, 3), (29, .aload_n 0, 1), (30, .iload_n 2, 1), (31, .putfield 33, 3), (34, .aload_n 0, 1), (35, .iload_n 3, 1), (36, .putfield 36, 3), (39, .aload_n 0, 1), (40, .getfield 17, 3), (43, .iconst 0, 1), (44, .aload_n 0, 1), (45, .getfield 21, 3), (48, .iconst 0, 1), (49, .iconst 3, 1), (50, .invokestatic 70, 3), (53, .return_, 1)]
def cd_24 : List (Nat × Instr × Nat) := [(0, .aload_n 0, 1), (1, .getfield 12, 3), (4, .aload_n 1, 1), (5, .invokevirtual 26, 3), (8, .aload_n 0, 1), (9, .aload_n 2, 1), (10, .getfield 30, 3), (13, .putfield 35, 3), (16, .iconst 0, 1), (17, .istore_n 3, 1), (18, .iload_n 3, 1), (19, .aload_n 0, 1), (20, .getfield 35, 3), (23, .if_icmp .ge 20, 3), (26, .aload_n 0, 1), (27, .getfield 18, 3), (30, .iload_n 3, 1), (31, .aload_n 2, 1), (32, .iload_n 3, 1), (33, .invokevirtual 36, 3), (36, .iastore, 1), (37, .iinc 3 1, 3), (40, .goto (-22), 3), (43, .aload_n 0, 1), (44, .iconst 0, 1), (45, .putfield 40, 3), (48, .aload_n 0, 1), (49, .iconst (-1), 1), (50, .putfield 22, 3), (53, .aload_n 0, 1), (54, .invokevirtual 43, 3), (57, .iconst 1, 1), (58, .istore_n 3, 1), (59, .aload_n 0, 1), (60, .getfield 22, 3), (63, .iconst (-1), 1), (64, .if_icmp .ne 38, 3), (67, .aload_n 0, 1), (68, .getfield 40, 3), (71, .aload_n 0, 1), (72, .getfield 35, 3), (75, .if_icmp .ge 27, 3), (78, .iload_n 3, 1), (79, .aload_n 0, 1), (80, .getfield 35, 3), (83, .if_icmp .gt 19, 3), (86, .aload_n 0, 1), (87, .bipush 59, 2), (89, .invokevirtual 46, 3), (92, .aload_n 0, 1), (93, .invokevirtual 43, 3), (96, .iinc 3 1, 3), (99, .goto (-40), 3), (102, .iload_n 3, 1), (103, .ireturn, 1)]
def cd_25 : List (Nat × Instr × Nat) := [(0, .aload_n 0, 1), (1, .getfield 22, 3), (4, .iconst (-1), 1), (5, .if_icmp .eq 4, 3), (8, .return_, 1), (9, .aload_n 0, 1), (10, .getfield 40, 3), (13, .istore_n 1, 1), (14, .aload_n 0, 1), (15, .invokevirtual 50, 3), (18, .tableswitch 212 0 7 #[46, 54, 62, 70, 107, 125, 142, 173], 46), (64, .aload_n 0, 1), (65, .iload_n 1, 1), (66, .invokevirtual 54, 3), (69, .goto 161, 3), (72, .aload_n 0, 1), (73, .iconst 1, 1), (74, .invokevirtual 58, 3), (77, .goto 153, 3), (80, .aload_n 0, 1), (81, .iconst 0, 1), (82, .invokevirtual 58, 3), (85, .goto 145, 3), (88, .aload_n 0, 1), (89, .getfield 12, 3), (92, .aload_n 0, 1), (93, .iconst 0, 1), (94, .iconst 3, 1), (95, .invokevirtual 61, 3), (98, .putfield 65, 3), (101, .aload_n 0, 1), (102, .getfield 12, 3), (105, .aload_n 0, 1), (106, .iconst 0, 1), (107, .iconst 3, 1), (108, .aload_n 0, 1), (109, .getfield 12, 3), (112, .getfield 65, 3), (115, .isub, 1), (116, .invokevirtual 61, 3), (119, .putfield 68, 3), (122, .goto 108, 3), (125, .aload_n 0, 1), (126, .getfield 12, 3), (129, .aload_n 0, 1), (130, .iconst 0, 1), (131, .sipush 999, 3), (134, .invokevirtual 61, 3), (137, .putfield 71, 3), (140, .goto 90, 3), (143, .aload_n 0, 1), (144, .getfield 12, 3), (147, .aload_n 0, 1), (148, .iconst 0, 1), (149, .bipush 99, 2), (151, .invokevirtual 61, 3), (154, .putfield 74, 3), (157, .goto 73, 3), (160, .aload_n 0, 1), (161, .getfield 12, 3), (164, .aload_n 0, 1), (165, .iconst 1, 1), (166, .bipush 9, 2), (168, .invokevirtual 61, 3), (171, .putfield 77, 3), (174, .aload_n 0, 1), (175, .getfield 12, 3), (178, .aload_n 0, 1), (179, .iconst 1, 1), (180, .bipush 9, 2), (182, .invokevirtual 61, 3), (185, .putfield 80, 3), (188, .goto 42, 3), (191, .aload_n 0, 1), (192, .iconst 0, 1), (193, .sipush 999, 3), (196, .invokevirtual 61, 3), (199, .istore_n 2, 1), (200, .aload_n 0, 1), (201, .getfield 22, 3), (204, .iconst (-1), 1), (205, .if_icmp .ne 25, 3), (208, .aload_n 0, 1), (209, .getfield 12, 3), (212, .iload_n 2, 1), (213, .invokevirtual 83, 3), (216, .ifCond .ne 14, 3), (219, .aload_n 0, 1), (220, .aload_n 0, 1), (221, .getfield 87, 3), (224, .putfield 22, 3), (227, .goto 3, 3), (230, .return_, 1)]
def cd_26 : List (Nat × Instr × Nat) := [(0, .aload_n 0, 1), (1, .getfield 12, 3), (4, .invokevirtual 90, 3), (7, .ifCond .ne 8, 3), (10, .aload_n 0, 1), (11, .iload_n 1, 1), (12, .putfield 22, 3), (15, .aload_n 0, 1), (16, .iconst 0, 1), (17, .bipush 6, 2), (19, .invokevirtual 61, 3), (22, .istore_n 2, 1), (23, .aload_n 0, 1), (24, .iconst 0, 1), (25, .bipush 9, 2), (27, .invokevirtual 61, 3), (30, .istore_n 3, 1), (31, .aload_n 0, 1), (32, .getfield 22, 3), (35, .iconst (-1), 1), (36, .if_icmp .ne 13, 3), (39, .aload_n 0, 1), (40, .getfield 12, 3), (43, .iload_n 2, 1), (44, .iload_n 3, 1), (45, .invokevirtual 94, 3), (48, .pop, 1), (49, .return_, 1)]
def cd_27 : List (Nat × Instr × Nat) := [(0, .aload_n 0, 1), (1, .iconst 0, 1), (2, .aload_n 0, 1), (3, .getfield 12, 3), (6, .getfield 97, 3), (9, .iconst 1, 1), (10, .isub, 1), (11, .invokevirtual 61, 3), (14, .istore_n 2, 1), (15, .aload_n 0, 1), (16, .getfield 12, 3), (19, .iload_n 2, 1), (20, .invokevirtual 100, 3), (23, .ifCond .eq 16, 3), (26, .aload_n 0, 1), (27, .getfield 12, 3), (30, .getfield 103, 3), (33, .iload_n 2, 1), (34, .aaload, 1), (35, .iload_n 1, 1), (36, .putfield 107, 3), (39, .return_, 1)]
def cd_28 : List (Nat × Instr × Nat) := [(0, .iload_n 0, 1), (1, .tableswitch 64 0 6 #[43, 46, 49, 52, 55, 58, 61], 43), (44, .ldc 112, 2), (46, .areturn, 1), (47, .ldc 114, 2), (49, .areturn, 1), (50, .ldc 115, 2), (52, .areturn, 1), (53, .ldc 116, 2), (55, .areturn, 1), (56, .ldc 118, 2), (58, .areturn, 1), (59, .ldc 119, 2), (61, .areturn, 1), (62, .ldc 120, 2), (64, .areturn, 1), (65, .ldc 121, 2), (67, .areturn, 1)]
def cd_29 : List (Nat × Instr × Nat) := [(0, .iconst 0, 1), (1, .istore_n 1, 1), (2, .iconst 0, 1), (3, .istore_n 2, 1), (4, .iload_n 2, 1), (5, .bipush 8, 2), (7, .if_icmp .ge 81, 3), (10, .iload_n 2, 1), (11, .invokestatic 123, 3), (14, .astore_n 3, 1), (15, .iconst 0, 1), (16, .istore 4, 2), (18, .iload 4, 2), (20, .aload_n 3, 1), (21, .invokevirtual 127, 3), (24, .if_icmp .ge 29, 3), (27, .aload_n 0, 1), (28, .aload_n 0, 1), (29, .getfield 40, 3), (32, .iload 4, 2), (34, .iadd, 1), (35, .invokevirtual 131, 3), (38, .aload_n 3, 1), (39, .iload 4, 2), (41, .invokevirtual 134, 3), (44, .if_icmp .ne 9, 3), (47, .iinc 4 1, 3), (50, .goto (-32), 3), (53, .iload 4, 2), (55, .aload_n 3, 1), (56, .invokevirtual 127, 3), (59, .if_icmp .ne 16, 3), (62, .aload_n 0, 1), (63, .dup, 1), (64, .getfield 40, 3), (67, .iload 4, 2), (69, .iadd, 1), (70, .putfield 40, 3), (73, .iload_n 2, 1), (74, .ireturn, 1), (75, .iload_n 1, 1), (76, .iload 4, 2), (78, .invokestatic 138, 3), (81, .istore_n 1, 1), (82, .iinc 2 1, 3), (85, .goto (-81), 3), (88, .aload_n 0, 1), (89, .aload_n 0, 1), (90, .getfield 40, 3), (93, .iload_n 1, 1), (94, .iadd, 1), (95, .putfield 22, 3), (98, .iconst (-1), 1), (99, .ireturn, 1)]
def cd_30 : List (Nat × Instr × Nat) := [(0, .aload_n 0, 1), (1, .bipush 32, 2), (3, .invokevirtual 46, 3), (6, .aload_n 0, 1), (7, .getfield 22, 3), (10, .iconst (-1), 1), (11, .if_icmp .eq 5, 3), (14, .iconst (-1), 1), (15, .ireturn, 1), (16, .aload_n 0, 1), (17, .aload_n 0, 1), (18, .getfield 40, 3), (21, .putfield 87, 3), (24, .iconst 0, 1), (25, .istore_n 3, 1), (26, .aload_n 0, 1), (27, .getfield 40, 3), (30, .aload_n 0, 1), (31, .getfield 87, 3), (34, .iconst 3, 1), (35, .iadd, 1), (36, .if_icmp .ge 59, 3), (39, .aload_n 0, 1), (40, .aload_n 0, 1), (41, .getfield 40, 3), (44, .invokevirtual 131, 3), (47, .bipush 48, 2), (49, .if_icmp .lt 46, 3), (52, .aload_n 0, 1), (53, .aload_n 0, 1), (54, .getfield 40, 3), (57, .invokevirtual 131, 3), (60, .bipush 57, 2), (62, .if_icmp .gt 33, 3), (65, .bipush 10, 2), (67, .iload_n 3, 1), (68, .imul, 1), (69, .aload_n 0, 1), (70, .aload_n 0, 1), (71, .getfield 40, 3), (74, .invokevirtual 131, 3), (77, .iadd, 1), (78, .bipush 48, 2), (80, .isub, 1), (81, .istore_n 3, 1), (82, .aload_n 0, 1), (83, .dup, 1), (84, .getfield 40, 3), (87, .iconst 1, 1), (88, .iadd, 1), (89, .putfield 40, 3), (92, .goto (-66), 3), (95, .aload_n 0, 1), (96, .getfield 40, 3), (99, .aload_n 0, 1), (100, .getfield 87, 3), (103, .if_icmp .eq 13, 3), (106, .iload_n 3, 1), (107, .iload_n 1, 1), (108, .if_icmp .lt 8, 3), (111, .iload_n 3, 1), (112, .iload_n 2, 1), (113, .if_icmp .le 13, 3), (116, .aload_n 0, 1), (117, .aload_n 0, 1), (118, .getfield 87, 3), (121, .putfield 22, 3), (124, .iconst (-1), 1), (125, .ireturn, 1), (126, .iload_n 3, 1), (127, .ireturn, 1)]
def cd_31 : List (Nat × Instr × Nat) := [(0, .aload_n 0, 1), (1, .getfield 22, 3), (4, .iconst (-1), 1), (5, .if_icmp .ne 23, 3), (8, .aload_n 0, 1), (9, .aload_n 0, 1), (10, .getfield 40, 3), (13, .invokevirtual 131, 3), (16, .iload_n 1, 1), (17, .if_icmp .eq 11, 3), (20, .aload_n 0, 1), (21, .aload_n 0, 1), (22, .getfield 40, 3), (25, .putfield 22, 3), (28, .aload_n 0, 1), (29, .dup, 1), (30, .getfield 40, 3), (33, .iconst 1, 1), (34, .iadd, 1), (35, .putfield 40, 3), (38, .return_, 1)]
def cd_32 : List (Nat × Instr × Nat) := [(0, .iload_n 1, 1), (1, .ifCond .lt 20, 3), (4, .iload_n 1, 1), (5, .aload_n 0, 1), (6, .getfield 35, 3), (9, .if_icmp .ge 12, 3), (12, .aload_n 0, 1), (13, .getfield 18, 3), (16, .iload_n 1, 1), (17, .iaload, 1), (18, .goto 4, 3), (21, .iconst (-1), 1), (22, .ireturn, 1)]
def cd_33 : List (Nat × Instr × Nat) := [(0, .aload_n 0, 1), (1, .iload_n 1, 1), (2, .putfield 15, 3), (5, .aload_n 0, 1), (6, .iload_n 2, 1), (7, .putfield 18, 3), (10, .aload_n 0, 1), (11, .invokevirtual 21, 3), (14, .return_, 1)]
def cd_34 : List (Nat × Instr × Nat) := [(0, .aload_n 0, 1), (1, .iconst 0, 1), (2, .putfield 24, 3), (5, .aload_n 0, 1), (6, .iconst 0, 1), (7, .putfield 27, 3), (10, .aload_n 0, 1), (11, .iconst 0, 1), (12, .putfield 30, 3), (15, .aload_n 0, 1), (16, .iconst 0, 1), (17, .putfield 33, 3), (20, .return_, 1)]
def cd_35 : List (Nat × Instr × Nat) := [(0, .aload_n 0, 1), (1, .aload_n 1, 1), (2, .getfield 15, 3), (5, .putfield 15, 3), (8, .aload_n 0, 1), (9, .aload_n 1, 1), (10, .getfield 18, 3), (13, .putfield 18, 3), (16, .aload_n 0, 1), (17, .aload_n 1, 1), (18, .getfield 24, 3), (21, .putfield 24, 3), (24, .aload_n 0, 1), (25, .aload_n 1, 1), (26, .getfield 27, 3), (29, .putfield 27, 3), (32, .aload_n 0, 1), (33, .aload_n 1, 1), (34, .getfield 30, 3), (37, .putfield 30, 3), (40, .aload_n 0, 1), (41, .aload_n 1, 1), (42, .getfield 33, 3), (45, .putfield 33, 3), (48, .return_, 1)]
def cd_36 : List (Nat × Instr × Nat) := [(0, .iload_n 1, 1), (1, .ifCond .eq 33, 3), (4, .iload_n 1, 1), (5, .aload_n 0, 1), (6, .getfield 15, 3), (9, .if_icmp .eq 25, 3), (12, .aload_n 0, 1), (13, .getfield 15, 3), (16, .invokestatic 36, 3), (19, .ifCond .eq 19, 3), (22, .iload_n 1, 1), (23, .getstatic 40, 3), (26, .aload_n 0, 1), (27, .getfield 15, 3), (30, .iaload, 1), (31, .if_icmp .ne 7, 3), (34, .iconst 1, 1), (35, .goto 4, 3), (38, .iconst 0, 1), (39, .ireturn, 1)]
def cd_37 : List (Nat × Instr × Nat) := [(0, .iload_n 1, 1), (1, .istore_n 2, 1), (2, .aload_n 0, 1), (3, .getfield 15, 3), (6, .tableswitch 56 1 6 #[38, 56, 44, 50, 56, 50], 38), (44, .iinc 2 (-1), 3), (47, .goto 15, 3), (50, .iinc 2 (-2), 3), (53, .goto 9, 3), (56, .iinc 2 1, 3), (59, .goto 3, 3), (62, .iload_n 2, 1), (63, .iconst 1, 1), (64, .if_icmp .ge 7, 3), (67, .iconst 1, 1), (68, .goto 4, 3), (71, .iload_n 2, 1), (72, .ireturn, 1)]
def cd_38 : List (Nat × Instr × Nat) := [(0, .iload_n 1, 1), (1, .aload_n 0, 1), (2, .getfield 27, 3), (5, .bipush 10, 2), (7, .idiv, 1), (8, .iadd, 1), (9, .istore_n 2, 1), (10, .aload_n 0, 1), (11, .getfield 15, 3), (14, .tableswitch 59 2 6 #[34, 59, 46, 40, 52], 34), (48, .iinc 2 (-2), 3), (51, .goto 22, 3), (54, .iinc 2 (-3), 3), (57, .goto 16, 3), (60, .iinc 2 2, 3), (63, .goto 10, 3), (66, .iload_n 2, 1), (67, .iconst 2, 1), (68, .imul, 1), (69, .istore_n 2, 1), (70, .goto 3, 3), (73, .iload_n 2, 1), (74, .iconst 1, 1), (75, .if_icmp .ge 7, 3), (78, .iconst 1, 1), (79, .goto 4, 3), (82, .iload_n 2, 1), (83, .ireturn, 1)]
def cd_39 : List (Nat × Instr × Nat) := [(0, .iload_n 1, 1), (1, .iconst 2, 1), (2, .idiv, 1), (3, .aload_n 0, 1), (4, .getfield 27, 3), (7, .bipush 10, 2), (9, .idiv, 1), (10, .iadd, 1), (11, .iconst 1, 1), (12, .iadd, 1), (13, .ireturn, 1)]
def cd_40 : List (Nat × Instr × Nat) := [(0, .bipush 10, 2), (2, .aload_n 0, 1), (3, .getfield 18, 3), (6, .iadd, 1), (7, .ireturn, 1)]
def cd_41 : List (Nat × Instr × Nat) := [(0, .aload_n 0, 1), (1, .getfield 15, 3), (4, .iconst 2, 1), (5, .if_icmp .eq 11, 3), (8, .aload_n 0, 1), (9, .getfield 15, 3), (12, .iconst 5, 1), (13, .if_icmp .ne 7, 3), (16, .iconst 5, 1), (17, .goto 10, 3), (20, .bipush 8, 2), (22, .aload_n 0, 1), (23, .getfield 18, 3), (26, .iadd, 1), (27, .istore_n 2, 1), (28, .aload_n 0, 1), (29, .aload_n 0, 1), (30, .getfield 24, 3), (33, .iconst 1, 1), (34, .if_icmp .ne 7, 3), (37, .iconst 0, 1), (38, .goto 4, 3), (41, .iconst 1, 1), (42, .putfield 24, 3), (45, .iload_n 1, 1), (46, .tableswitch 88 0 4 #[34, 34, 47, 60, 75], 34), (80, .aload_n 0, 1), (81, .dup, 1), (82, .getfield 30, 3), (85, .iconst 1, 1), (86, .iadd, 1), (87, .putfield 30, 3), (90, .goto 44, 3), (93, .aload_n 0, 1), (94, .dup, 1), (95, .getfield 27, 3), (98, .iload_n 2, 1), (99, .iadd, 1), (100, .putfield 27, 3), (103, .goto 31, 3), (106, .aload_n 0, 1), (107, .dup, 1), (108, .getfield 27, 3), (111, .iload_n 2, 1), (112, .iconst 2, 1), (113, .idiv, 1), (114, .iadd, 1), (115, .putfield 27, 3), (118, .goto 16, 3), (121, .aload_n 0, 1), (122, .dup, 1), (123, .getfield 27, 3), (126, .iconst 3, 1), (127, .iadd, 1), (128, .putfield 27, 3), (131, .goto 3, 3), (134, .aload_n 0, 1), (135, .aload_n 0, 1), (136, .getfield 27, 3), (139, .bipush 99, 2), (141, .invokestatic 44, 3), (144, .putfield 27, 3), (147, .return_, 1)]
def cd_42 : List (Nat × Instr × Nat) := [(0, .aload_n 0, 1), (1, .aload_n 0, 1), (2, .getfield 27, 3), (5, .iload_n 1, 1), (6, .isub, 1), (7, .iconst 0, 1), (8, .invokestatic 50, 3), (11, .putfield 27, 3), (14, .return_, 1)]
def cd_43 : List (Nat × Instr × Nat) := [(0, .aload_n 0, 1), (1, .getfield 12, 3), (4, .aload_n 1, 1), (5, .invokevirtual 18, 3), (8, .aload_n 0, 1), (9, .iload 4, 2), (11, .iconst (-1), 1), (12, .if_icmp .eq 7, 3), (15, .iconst 1, 1), (16, .goto 4, 3), (19, .iconst 0, 1), (20, .putfield 22, 3), (23, .aload_n 0, 1), (24, .getfield 22, 3), (27, .ifCond .eq 12, 3), (30, .aload_n 0, 1), (31, .getfield 12, 3), (34, .iload 4, 2), (36, .putfield 26, 3), (39, .aload_n 0, 1), (40, .iconst 0, 1), (41, .putfield 30, 3), (44, .iconst 0, 1), (45, .istore 5, 2), (47, .iconst 1, 1), (48, .istore 6, 2), (50, .iload 6, 2), (52, .ifCond .eq 98, 3), (55, .iload 5, 2), (57, .iload_n 3, 1), (58, .if_icmp .ge 92, 3), (61, .iload_n 2, 1), (62, .tableswitch 53 0 2 #[26, 35, 44], 26), (88, .aload_n 0, 1), (89, .invokevirtual 33, 3), (92, .istore 7, 2), (94, .goto 27, 3), (97, .aload_n 0, 1), (98, .invokevirtual 37, 3), (101, .istore 7, 2), (103, .goto 18, 3), (106, .aload_n 0, 1), (107, .invokevirtual 40, 3), (110, .istore 7, 2), (112, .goto 9, 3), (115, .aload_n 0, 1), (116, .invokevirtual 43, 3), (119, .istore 7, 2), (121, .aload_n 0, 1), (122, .getfield 12, 3), (125, .iload 7, 2), (127, .invokevirtual 46, 3), (130, .istore 6, 2), (132, .iload 5, 2), (134, .iload 6, 2), (136, .ifCond .eq 7, 3), (139, .iconst 1, 1), (140, .goto 4, 3), (143, .iconst 0, 1), (144, .iadd, 1), (145, .istore 5, 2), (147, .goto (-97), 3), (150, .iload 5, 2), (152, .ireturn, 1)]
def cd_44 : List (Nat × Instr × Nat) := [(0, .iconst 1, 1), (1, .iconst 0, 1), (2, .iconst 1, 1), (3, .invokestatic 50, 3), (6, .istore_n 1, 1), (7, .aload_n 0, 1), (8, .getfield 12, 3), (11, .iload_n 1, 1), (12, .invokevirtual 54, 3), (15, .ifCond .eq 7, 3), (18, .iload_n 1, 1), (19, .goto 9, 3), (22, .iconst 3, 1), (23, .iconst 0, 1), (24, .iconst 1, 1), (25, .invokestatic 50, 3), (28, .ireturn, 1)]
def cd_45 : List (Nat × Instr × Nat) := [(0, .iconst 0, 1), (1, .istore_n 1, 1), (2, .iload_n 1, 1), (3, .aload_n 0, 1), (4, .getfield 12, 3), (7, .getfield 57, 3), (10, .if_icmp .ge 118, 3), (13, .iconst 0, 1), (14, .aload_n 0, 1), (15, .getfield 30, 3), (18, .iconst 0, 1), (19, .invokestatic 50, 3), (22, .istore_n 2, 1), (23, .iconst 2, 1), (24, .aload_n 0, 1), (25, .getfield 30, 3), (28, .iconst 0, 1), (29, .invokestatic 50, 3), (32, .istore_n 3, 1), (33, .iconst 5, 1), (34, .aload_n 0, 1), (35, .getfield 30, 3), (38, .iconst 0, 1), (39, .invokestatic 50, 3), (42, .istore 4, 2), (44, .aload_n 0, 1), (45, .getfield 12, 3), (48, .iload_n 2, 1), (49, .invokevirtual 54, 3), (52, .ifCond .eq 5, 3), (55, .iload_n 2, 1), (56, .ireturn, 1), (57, .aload_n 0, 1), (58, .aload_n 0, 1), (59, .getfield 30, 3), (62, .iconst 1, 1), (63, .iadd, 1), (64, .aload_n 0, 1), (65, .getfield 12, 3), (68, .getfield 57, 3), (71, .if_icmp .ge 12, 3), (74, .aload_n 0, 1), (75, .getfield 30, 3), (78, .iconst 1, 1), (79, .iadd, 1), (80, .goto 4, 3), (83, .iconst 0, 1), (84, .putfield 30, 3), (87, .aload_n 0, 1), (88, .getfield 22, 3), (91, .ifCond .eq 18, 3), (94, .aload_n 0, 1), (95, .getfield 12, 3), (98, .iload 4, 2), (100, .invokevirtual 54, 3), (103, .ifCond .eq 6, 3), (106, .iload 4, 2), (108, .ireturn, 1), (109, .aload_n 0, 1), (110, .getfield 12, 3), (113, .iload_n 3, 1), (114, .invokevirtual 54, 3), (117, .ifCond .eq 5, 3), (120, .iload_n 3, 1), (121, .ireturn, 1), (122, .iinc 1 1, 3), (125, .goto (-123), 3), (128, .iconst (-1), 1), (129, .ireturn, 1)]
def cd_46 : List (Nat × Instr × Nat) := [(0, .aload_n 0, 1), (1, .aload_n 0, 1), (2, .getfield 12, 3), (5, .iconst 0, 1), (6, .iconst 0, 1), (7, .invokevirtual 60, 3), (10, .invokevirtual 64, 3), (13, .istore_n 1, 1), (14, .iload_n 1, 1), (15, .iconst (-1), 1), (16, .if_icmp .eq 7, 3), (19, .iload_n 1, 1), (20, .goto 16, 3), (23, .aload_n 0, 1), (24, .aload_n 0, 1), (25, .getfield 12, 3), (28, .iconst 2, 1), (29, .iconst 2, 1), (30, .invokevirtual 60, 3), (33, .invokevirtual 64, 3), (36, .ireturn, 1)]
def cd_47 : List (Nat × Instr × Nat) := [(0, .iconst (-1), 1), (1, .istore_n 2, 1), (2, .bipush 100, 2), (4, .istore_n 3, 1), (5, .iconst 0, 1), (6, .istore 4, 2), (8, .iload 4, 2), (10, .iload_n 1, 1), (11, .if_icmp .ge 58, 3), (14, .aload_n 0, 1), (15, .getfield 12, 3), (18, .getfield 68, 3), (21, .aload_n 0, 1), (22, .getfield 12, 3), (25, .getfield 72, 3), (28, .iload 4, 2), (30, .iaload, 1), (31, .bipush 10, 2), (33, .idiv, 1), (34, .bipush 10, 2), (36, .irem, 1), (37, .aaload, 1), (38, .getfield 76, 3), (41, .istore 5, 2), (43, .iload 5, 2), (45, .iload_n 3, 1), (46, .if_icmp .ge 17, 3), (49, .aload_n 0, 1), (50, .getfield 12, 3), (53, .getfield 72, 3), (56, .iload 4, 2), (58, .iaload, 1), (59, .istore_n 2, 1), (60, .iload 5, 2), (62, .istore_n 3, 1), (63, .iinc 4 1, 3), (66, .goto (-58), 3), (69, .iload_n 2, 1), (70, .ireturn, 1)]
def cd_48 : List (Nat × Instr × Nat) := [(0, .aload_n 0, 1), (1, .getfield 12, 3), (4, .iconst 1, 1), (5, .iconst 1, 1), (6, .invokevirtual 60, 3), (9, .ifCond .le 13, 3), (12, .aload_n 0, 1), (13, .getfield 12, 3), (16, .getfield 72, 3), (19, .iconst 0, 1), (20, .iaload, 1), (21, .ireturn, 1), (22, .aload_n 0, 1), (23, .getfield 12, 3), (26, .iconst 2, 1), (27, .iconst 2, 1), (28, .invokevirtual 60, 3), (31, .istore_n 1, 1), (32, .iload_n 1, 1), (33, .ifCond .le 9, 3), (36, .aload_n 0, 1), (37, .iload_n 1, 1), (38, .invokevirtual 81, 3), (41, .ireturn, 1), (42, .aload_n 0, 1), (43, .getfield 12, 3), (46, .iconst 4, 1), (47, .iconst 4, 1), (48, .invokevirtual 60, 3), (51, .ifCond .le 13, 3), (54, .aload_n 0, 1), (55, .getfield 12, 3), (58, .getfield 72, 3), (61, .iconst 0, 1), (62, .iaload, 1), (63, .ireturn, 1), (64, .aload_n 0, 1), (65, .getfield 12, 3), (68, .iconst 0, 1), (69, .iconst 0, 1), (70, .invokevirtual 60, 3), (73, .ifCond .le 15, 3), (76, .aload_n 0, 1), (77, .getfield 12, 3), (80, .getfield 72, 3), (83, .iconst 0, 1), (84, .iaload, 1), (85, .goto 4, 3), (88, .iconst (-1), 1), (89, .ireturn, 1)]
def cd_49 : List (Nat × Instr × Nat) := [(0, .aload_n 0, 1), (1, .getfield 12, 3), (4, .getfield 72, 3), (7, .iconst 0, 1), (8, .iaload, 1), (9, .istore_n 2, 1), (10, .iconst 1, 1), (11, .istore_n 3, 1), (12, .iload_n 3, 1), (13, .iload_n 1, 1), (14, .if_icmp .ge 46, 3), (17, .aload_n 0, 1), (18, .getfield 12, 3), (21, .aload_n 0, 1), (22, .getfield 12, 3), (25, .getfield 72, 3), (28, .iload_n 3, 1), (29, .iaload, 1), (30, .invokevirtual 84, 3), (33, .aload_n 0, 1), (34, .getfield 12, 3), (37, .iload_n 2, 1), (38, .invokevirtual 84, 3), (41, .if_icmp .ge 13, 3), (44, .aload_n 0, 1), (45, .getfield 12, 3), (48, .getfield 72, 3), (51, .iload_n 3, 1), (52, .iaload, 1), (53, .istore_n 2, 1), (54, .iinc 3 1, 3), (57, .goto (-45), 3), (60, .iload_n 2, 1), (61, .ireturn, 1)]
def cd_50 : List (Nat × Instr × Nat) := [(0, .aload_n 0, 1), (1, .getfield 15, 3), (4, .bipush 100, 2), (6, .if_icmp .lt 7, 3), (9, .iconst 1, 1), (10, .goto 4, 3), (13, .iconst 0, 1), (14, .ireturn, 1)]
def cd_51 : List (Nat × Instr × Nat) := [(0, .aload_n 0, 1), (1, .getfield 15, 3), (4, .ifCond .lt 16, 3), (7, .aload_n 0, 1), (8, .getfield 15, 3), (11, .bipush 100, 2), (13, .if_icmp .ge 7, 3), (16, .iconst 1, 1), (17, .goto 4, 3), (20, .iconst 0, 1), (21, .ireturn, 1)]
def cd_52 : List (Nat × Instr × Nat) := [(0, .iload_n 1, 1), (1, .ifCond .lt 15, 3), (4, .iload_n 1, 1), (5, .aload_n 0, 1), (6, .getfield 19, 3), (9, .if_icmp .ge 7, 3), (12, .iconst 1, 1), (13, .goto 4, 3), (16, .iconst 0, 1), (17, .ireturn, 1)]
def cd_53 : List (Nat × Instr × Nat) := [(0, .aload_n 0, 1), (1, .iload_n 1, 1), (2, .putfield 15, 3), (5, .aload_n 0, 1), (6, .iconst 0, 1), (7, .putfield 19, 3), (10, .return_, 1)]
def cd_54 : List (Nat × Instr × Nat) := [(0, .aload_n 0, 1), (1, .bipush 100, 2), (3, .iload_n 1, 1), (4, .iadd, 1), (5, .putfield 15, 3), (8, .aload_n 0, 1), (9, .iload_n 2, 1), (10, .putfield 19, 3), (13, .iconst 0, 1), (14, .istore_n 3, 1), (15, .iload_n 3, 1), (16, .sipush 160, 3), (19, .if_icmp .ge 16, 3), (22, .aload_n 0, 1), (23, .getfield 9, 3), (26, .iload_n 3, 1), (27, .lconst 0, 1), (28, .lastore, 1), (29, .iinc 3 1, 3), (32, .goto (-17), 3), (35, .return_, 1)]
def cd_55 : List (Nat × Instr × Nat) := [(0, .aload_n 0, 1), (1, .iload_n 1, 1), (2, .invokevirtual 22, 3), (5, .ifCond .ne 4, 3), (8, .return_, 1), (9, .aload_n 0, 1), (10, .getfield 15, 3), (13, .bipush 100, 2), (15, .isub, 1), (16, .tableswitch 66 0 2 #[28, 41, 54], 28), (44, .aload_n 0, 1), (45, .getfield 9, 3), (48, .iload_n 1, 1), (49, .lload_n 2, 1), (50, .l2i, 1), (51, .i2b, 1), (52, .i2l, 1), (53, .lastore, 1), (54, .goto 35, 3), (57, .aload_n 0, 1), (58, .getfield 9, 3), (61, .iload_n 1, 1), (62, .lload_n 2, 1), (63, .l2i, 1), (64, .i2s, 1), (65, .i2l, 1), (66, .lastore, 1), (67, .goto 22, 3), (70, .aload_n 0, 1), (71, .getfield 9, 3), (74, .iload_n 1, 1), (75, .lload_n 2, 1), (76, .l2i, 1), (77, .i2l, 1), (78, .lastore, 1), (79, .goto 10, 3), (82, .aload_n 0, 1), (83, .getfield 9, 3), (86, .iload_n 1, 1), (87, .lload_n 2, 1), (88, .lastore, 1), (89, .return_, 1)]
def cd_56 : List (Nat × Instr × Nat) := [(0, .aload_n 0, 1), (1, .iload_n 1, 1), (2, .invokevirtual 22, 3), (5, .ifCond .eq 13, 3), (8, .aload_n 0, 1), (9, .getfield 9, 3), (12, .iload_n 1, 1), (13, .laload, 1), (14, .l2i, 1), (15, .goto 4, 3), (18, .iconst 0, 1), (19, .ireturn, 1)]
def cd_57 : List (Nat × Instr × Nat) := [(0, .aload_n 0, 1), (1, .iconst 0, 1), (2, .putfield 15, 3), (5, .return_, 1)]
def cd_58 : List (Nat × Instr × Nat) := [(0, .aload_n 0, 1), (1, .getfield 15, 3), (4, .ifCond .lt 22, 3), (7, .aload_n 0, 1), (8, .getfield 15, 3), (11, .bipush 20, 2), (13, .if_icmp .ge 13, 3), (16, .aload_n 0, 1), (17, .getfield 9, 3), (20, .aload_n 0, 1), (21, .getfield 15, 3), (24, .iload_n 1, 1), (25, .iastore, 1), (26, .aload_n 0, 1), (27, .dup, 1), (28, .getfield 15, 3), (31, .iconst 1, 1), (32, .iadd, 1), (33, .putfield 15, 3), (36, .return_, 1)]
def cd_59 : List (Nat × Instr × Nat) := [(0, .iload_n 1, 1), (1, .ifCond .lt 26, 3), (4, .iload_n 1, 1), (5, .aload_n 0, 1), (6, .getfield 15, 3), (9, .if_icmp .ge 18, 3), (12, .iload_n 1, 1), (13, .bipush 20, 2), (15, .if_icmp .ge 12, 3), (18, .aload_n 0, 1), (19, .getfield 9, 3), (22, .iload_n 1, 1), (23, .iaload, 1), (24, .goto 4, 3), (27, .iconst (-1), 1), (28, .ireturn, 1)]
def cd_60 : List (Nat × Instr × Nat) := [(0, .iload_n 1, 1), (1, .invokestatic 65, 3), (4, .ifCond .ne 9, 3), (7, .aload_n 0, 1), (8, .iconst (-1), 1), (9, .invokevirtual 69, 3), (12, .ireturn, 1), (13, .iload_n 3, 1), (14, .ifCond .ge 10, 3), (17, .aload_n 0, 1), (18, .bipush (-4), 2), (20, .invokevirtual 69, 3), (23, .ireturn, 1), (24, .iload_n 2, 1), (25, .ifCond .lt 8, 3), (28, .iload_n 2, 1), (29, .iconst 4, 1), (30, .if_icmp .lt 10, 3), (33, .aload_n 0, 1), (34, .bipush (-6), 2), (36, .invokevirtual 69, 3), (39, .ireturn, 1), (40, .iload_n 3, 1), (41, .sipush 160, 3), (44, .if_icmp .le 10, 3), (47, .aload_n 0, 1), (48, .bipush (-7), 2), (50, .invokevirtual 69, 3), (53, .ireturn, 1), (54, .aload_n 0, 1), (55, .getfield 52, 3), (58, .iload_n 1, 1), (59, .aaload, 1), (60, .iload_n 2, 1), (61, .iload_n 3, 1), (62, .invokevirtual 73, 3), (65, .iconst 1, 1), (66, .ireturn, 1)]
def cd_61 : List (Nat × Instr × Nat) := [(0, .aload_n 0, 1), (1, .iload_n 1, 1), (2, .invokevirtual 77, 3), (5, .istore 5, 2), (7, .iload 5, 2), (9, .ifCond .eq 10, 3), (12, .aload_n 0, 1), (13, .iload 5, 2), (15, .invokevirtual 69, 3), (18, .ireturn, 1), (19, .aload_n 0, 1), (20, .getfield 52, 3), (23, .iload_n 1, 1), (24, .aaload, 1), (25, .iload_n 2, 1), (26, .invokevirtual 80, 3), (29, .ifCond .ne 10, 3), (32, .aload_n 0, 1), (33, .bipush (-5), 2), (35, .invokevirtual 69, 3), (38, .ireturn, 1), (39, .aload_n 0, 1), (40, .getfield 52, 3), (43, .iload_n 1, 1), (44, .aaload, 1), (45, .iload_n 2, 1), (46, .lload_n 3, 1), (47, .invokevirtual 83, 3), (50, .iconst 1, 1), (51, .ireturn, 1)]
def cd_62 : List (Nat × Instr × Nat) := [(0, .aload_n 0, 1), (1, .iload_n 1, 1), (2, .iload_n 2, 1), (3, .iload_n 3, 1), (4, .iload 4, 2), (6, .iload 5, 2), (8, .invokevirtual 87, 3), (11, .istore 6, 2), (13, .iload 6, 2), (15, .ifCond .eq 10, 3), (18, .aload_n 0, 1), (19, .iload 6, 2), (21, .invokevirtual 69, 3), (24, .ireturn, 1), (25, .aload_n 0, 1), (26, .getfield 52, 3), (29, .iload_n 1, 1), (30, .aaload, 1), (31, .getfield 91, 3), (34, .iload_n 3, 1), (35, .aload_n 0, 1), (36, .getfield 52, 3), (39, .iload_n 2, 1), (40, .aaload, 1), (41, .getfield 91, 3), (44, .iload 4, 2), (46, .iload 5, 2), (48, .invokestatic 95, 3), (51, .iconst 1, 1), (52, .ireturn, 1)]
def cd_63 : List (Nat × Instr × Nat) := [(0, .iload_n 1, 1), (1, .invokestatic 65, 3), (4, .ifCond .eq 30, 3), (7, .aload_n 0, 1), (8, .getfield 52, 3), (11, .iload_n 1, 1), (12, .aaload, 1), (13, .iload_n 2, 1), (14, .invokevirtual 80, 3), (17, .ifCond .eq 17, 3), (20, .aload_n 0, 1), (21, .getfield 52, 3), (24, .iload_n 1, 1), (25, .aaload, 1), (26, .getfield 91, 3), (29, .iload_n 2, 1), (30, .laload, 1), (31, .goto 4, 3), (34, .lconst 0, 1), (35, .lreturn, 1)]
def cd_64 : List (Nat × Instr × Nat) := [(0, .iload_n 1, 1), (1, .invokestatic 65, 3), (4, .ifCond .eq 19, 3), (7, .iload_n 2, 1), (8, .iconst (-1), 1), (9, .if_icmp .eq 20, 3), (12, .aload_n 0, 1), (13, .getfield 10, 3), (16, .iload_n 2, 1), (17, .invokevirtual 101, 3), (20, .ifCond .ne 9, 3), (23, .aload_n 0, 1), (24, .iconst (-1), 1), (25, .invokevirtual 69, 3), (28, .ireturn, 1), (29, .aload_n 0, 1), (30, .getfield 52, 3), (33, .iload_n 1, 1), (34, .aaload, 1), (35, .iload_n 2, 1), (36, .invokevirtual 104, 3), (39, .iload_n 2, 1), (40, .iconst (-1), 1), (41, .if_icmp .ne 7, 3), (44, .iconst 0, 1), (45, .goto 4, 3), (48, .iconst 1, 1), (49, .ireturn, 1)]
def cd_65 : List (Nat × Instr × Nat) := [(0, .iload_n 1, 1), (1, .invokestatic 65, 3), (4, .ifCond .eq 15, 3), (7, .aload_n 0, 1), (8, .getfield 52, 3), (11, .iload_n 1, 1), (12, .aaload, 1), (13, .getfield 108, 3), (16, .goto 4, 3), (19, .iconst (-1), 1), (20, .ireturn, 1)]
def cd_66 : List (Nat × Instr × Nat) := [(0, .iload_n 1, 1), (1, .invokestatic 65, 3), (4, .ifCond .eq 10, 3), (7, .iload_n 2, 1), (8, .invokestatic 111, 3), (11, .ifCond .ne 9, 3), (14, .aload_n 0, 1), (15, .iconst (-1), 1), (16, .invokevirtual 69, 3), (19, .ireturn, 1), (20, .aload_n 0, 1), (21, .getfield 52, 3), (24, .iload_n 1, 1), (25, .aaload, 1), (26, .getfield 108, 3), (29, .iconst (-1), 1), (30, .if_icmp .ne 10, 3), (33, .aload_n 0, 1), (34, .bipush (-3), 2), (36, .invokevirtual 69, 3), (39, .ireturn, 1), (40, .aload_n 0, 1), (41, .getfield 52, 3), (44, .iload_n 1, 1), (45, .aaload, 1), (46, .getfield 108, 3), (49, .istore_n 3, 1), (50, .aload_n 0, 1), (51, .getfield 10, 3), (54, .iload_n 3, 1), (55, .invokevirtual 101, 3), (58, .ifCond .eq 19, 3), (61, .aload_n 0, 1), (62, .getfield 10, 3), (65, .getfield 114, 3), (68, .iload_n 3, 1), (69, .aaload, 1), (70, .iload_n 2, 1), (71, .invokevirtual 118, 3), (74, .ifCond .ne 10, 3), (77, .aload_n 0, 1), (78, .bipush (-2), 2), (80, .invokevirtual 69, 3), (83, .ireturn, 1), (84, .aload_n 0, 1), (85, .aload_n 0, 1), (86, .getfield 10, 3), (89, .getfield 114, 3), (92, .iload_n 3, 1), (93, .aaload, 1), (94, .iload_n 2, 1), (95, .invokevirtual 123, 3), (98, .ireturn, 1)]
def cd_67 : List (Nat × Instr × Nat) := [(0, .iload_n 1, 1), (1, .invokestatic 111, 3), (4, .ifCond .ne 9, 3), (7, .aload_n 0, 1), (8, .iconst (-1), 1), (9, .invokevirtual 69, 3), (12, .ireturn, 1), (13, .iload_n 2, 1), (14, .iconst 0, 1), (15, .bipush 9, 2), (17, .invokestatic 127, 3), (20, .ifCond .ne 10, 3), (23, .aload_n 0, 1), (24, .bipush (-6), 2), (26, .invokevirtual 69, 3), (29, .ireturn, 1), (30, .aload_n 0, 1), (31, .getfield 10, 3), (34, .invokevirtual 131, 3), (37, .ifCond .ne 10, 3), (40, .aload_n 0, 1), (41, .bipush (-7), 2), (43, .invokevirtual 69, 3), (46, .ireturn, 1), (47, .aload_n 0, 1), (48, .getfield 10, 3), (51, .iload_n 1, 1), (52, .iload_n 2, 1), (53, .invokevirtual 135, 3), (56, .ireturn, 1)]
def cd_68 : List (Nat × Instr × Nat) := [(0, .aload_n 0, 1), (1, .getfield 10, 3), (4, .iload_n 1, 1), (5, .invokevirtual 101, 3), (8, .ifCond .ne 10, 3), (11, .aload_n 0, 1), (12, .bipush (-5), 2), (14, .invokevirtual 69, 3), (17, .ireturn, 1), (18, .aload_n 0, 1), (19, .getfield 10, 3), (22, .getfield 114, 3), (25, .iload_n 1, 1), (26, .aaload, 1), (27, .astore_n 3, 1), (28, .iload_n 2, 1), (29, .tableswitch 69 0 5 #[39, 44, 49, 54, 59, 64], 39), (68, .aload_n 3, 1), (69, .getfield 139, 3), (72, .ireturn, 1), (73, .aload_n 3, 1), (74, .getfield 142, 3), (77, .ireturn, 1), (78, .aload_n 3, 1), (79, .getfield 145, 3), (82, .ireturn, 1), (83, .aload_n 3, 1), (84, .getfield 148, 3), (87, .ireturn, 1), (88, .aload_n 3, 1), (89, .getfield 151, 3), (92, .ireturn, 1), (93, .aload_n 3, 1), (94, .getfield 154, 3), (97, .ireturn, 1), (98, .aload_n 0, 1), (99, .bipush (-5), 2), (101, .invokevirtual 69, 3), (104, .ireturn, 1)]
def cd_69 : List (Nat × Instr × Nat) := [(0, .aload_n 0, 1), (1, .getfield 10, 3), (4, .iload_n 1, 1), (5, .invokevirtual 101, 3), (8, .ifCond .ne 9, 3), (11, .aload_n 0, 1), (12, .iconst (-1), 1), (13, .invokevirtual 69, 3), (16, .ireturn, 1), (17, .aload_n 0, 1), (18, .getfield 10, 3), (21, .getfield 114, 3), (24, .iload_n 1, 1), (25, .aaload, 1), (26, .astore 4, 2), (28, .iload_n 2, 1), (29, .ifCond .ne 28, 3), (32, .iload_n 3, 1), (33, .iconst 0, 1), (34, .iconst 1, 1), (35, .invokestatic 127, 3), (38, .ifCond .eq 19, 3), (41, .aload 4, 2), (43, .getfield 145, 3), (46, .istore 5, 2), (48, .aload 4, 2), (50, .iload_n 3, 1), (51, .putfield 145, 3), (54, .goto 41, 3), (57, .iload_n 2, 1), (58, .iconst 1, 1), (59, .if_icmp .ne 29, 3), (62, .iload_n 3, 1), (63, .iconst 0, 1), (64, .bipush 99, 2), (66, .invokestatic 127, 3), (69, .ifCond .eq 19, 3), (72, .aload 4, 2), (74, .getfield 148, 3), (77, .istore 5, 2), (79, .aload 4, 2), (81, .iload_n 3, 1), (82, .putfield 148, 3), (85, .goto 10, 3), (88, .aload_n 0, 1), (89, .bipush (-6), 2), (91, .invokevirtual 69, 3), (94, .ireturn, 1), (95, .iload 5, 2), (97, .ireturn, 1)]
def cd_70 : List (Nat × Instr × Nat) := [(0, .iload_n 1, 1), (1, .iconst 0, 1), (2, .iconst 3, 1), (3, .invokestatic 127, 3), (6, .ifCond .eq 14, 3), (9, .iload_n 2, 1), (10, .iconst 0, 1), (11, .iconst 3, 1), (12, .iload_n 1, 1), (13, .isub, 1), (14, .invokestatic 127, 3), (17, .ifCond .ne 10, 3), (20, .aload_n 0, 1), (21, .bipush (-6), 2), (23, .invokevirtual 69, 3), (26, .ireturn, 1), (27, .aload_n 0, 1), (28, .getfield 10, 3), (31, .iload_n 1, 1), (32, .putfield 157, 3), (35, .aload_n 0, 1), (36, .getfield 10, 3), (39, .iload_n 2, 1), (40, .putfield 160, 3), (43, .iload_n 1, 1), (44, .iload_n 2, 1), (45, .iadd, 1), (46, .ireturn, 1)]
def cd_71 : List (Nat × Instr × Nat) := [(0, .iload_n 1, 1), (1, .ifCond .ne 33, 3), (4, .iload_n 2, 1), (5, .iconst 0, 1), (6, .sipush 999, 3), (9, .invokestatic 127, 3), (12, .ifCond .eq 22, 3), (15, .aload_n 0, 1), (16, .getfield 10, 3), (19, .getfield 163, 3), (22, .istore_n 3, 1), (23, .aload_n 0, 1), (24, .getfield 10, 3), (27, .iload_n 2, 1), (28, .putfield 163, 3), (31, .goto 112, 3), (34, .iload_n 1, 1), (35, .iconst 1, 1), (36, .if_icmp .ne 32, 3), (39, .iload_n 2, 1), (40, .iconst 0, 1), (41, .bipush 99, 2), (43, .invokestatic 127, 3), (46, .ifCond .eq 22, 3), (49, .aload_n 0, 1), (50, .getfield 10, 3), (53, .getfield 166, 3), (56, .istore_n 3, 1), (57, .aload_n 0, 1), (58, .getfield 10, 3), (61, .iload_n 2, 1), (62, .putfield 166, 3), (65, .goto 78, 3), (68, .iload_n 1, 1), (69, .iconst 2, 1), (70, .if_icmp .ne 32, 3), (73, .iload_n 2, 1), (74, .iconst 1, 1), (75, .bipush 9, 2), (77, .invokestatic 127, 3), (80, .ifCond .eq 22, 3), (83, .aload_n 0, 1), (84, .getfield 10, 3), (87, .getfield 169, 3), (90, .istore_n 3, 1), (91, .aload_n 0, 1), (92, .getfield 10, 3), (95, .iload_n 2, 1), (96, .putfield 169, 3), (99, .goto 44, 3), (102, .iload_n 1, 1), (103, .iconst 3, 1), (104, .if_icmp .ne 32, 3), (107, .iload_n 2, 1), (108, .iconst 1, 1), (109, .bipush 9, 2), (111, .invokestatic 127, 3), (114, .ifCond .eq 22, 3), (117, .aload_n 0, 1), (118, .getfield 10, 3), (121, .getfield 172, 3), (124, .istore_n 3, 1), (125, .aload_n 0, 1), (126, .getfield 10, 3), (129, .iload_n 2, 1), (130, .putfield 172, 3), (133, .goto 10, 3), (136, .aload_n 0, 1), (137, .bipush (-6), 2), (139, .invokevirtual 69, 3), (142, .ireturn, 1), (143, .iload_n 3, 1), (144, .ireturn, 1)]
def cd_72 : List (Nat × Instr × Nat) := [(0, .aload_n 0, 1), (1, .iload_n 1, 1), (2, .invokevirtual 77, 3), (5, .istore_n 2, 1), (6, .iload_n 2, 1), (7, .ifCond .eq 9, 3), (10, .aload_n 0, 1), (11, .iload_n 2, 1), (12, .invokevirtual 69, 3), (15, .ireturn, 1), (16, .aload_n 0, 1), (17, .getfield 32, 3), (20, .aload_n 0, 1), (21, .getfield 10, 3), (24, .aload_n 0, 1), (25, .getfield 52, 3), (28, .iload_n 1, 1), (29, .aaload, 1), (30, .invokevirtual 175, 3), (33, .istore_n 3, 1), (34, .aload_n 0, 1), (35, .aload_n 0, 1), (36, .getfield 32, 3), (39, .getfield 179, 3), (42, .putfield 60, 3), (45, .aload_n 0, 1), (46, .getfield 60, 3), (49, .iconst (-1), 1), (50, .if_icmp .eq 10, 3), (53, .aload_n 0, 1), (54, .bipush (-6), 2), (56, .invokevirtual 69, 3), (59, .ireturn, 1), (60, .aload_n 0, 1), (61, .getfield 10, 3), (64, .aload_n 0, 1), (65, .getfield 32, 3), (68, .getfield 182, 3), (71, .invokevirtual 185, 3), (74, .iload_n 3, 1), (75, .ireturn, 1)]
def cd_73 : List (Nat × Instr × Nat) := [(0, .aload_n 0, 1), (1, .getfield 60, 3), (4, .ireturn, 1)]
def cd_74 : List (Nat × Instr × Nat) := [(0, .aload_n 0, 1), (1, .getfield 10, 3), (4, .iload_n 1, 1), (5, .invokevirtual 189, 3), (8, .istore_n 2, 1), (9, .iload_n 2, 1), (10, .iconst (-1), 1), (11, .if_icmp .ne 12, 3), (14, .aload_n 0, 1), (15, .bipush (-6), 2), (17, .invokevirtual 69, 3), (20, .goto 4, 3), (23, .iload_n 2, 1), (24, .ireturn, 1)]
def cd_75 : List (Nat × Instr × Nat) := [(0, .aload_n 0, 1), (1, .getfield 10, 3), (4, .iload_n 1, 1), (5, .invokevirtual 192, 3), (8, .ifCond .ne 10, 3), (11, .aload_n 0, 1), (12, .bipush (-6), 2), (14, .invokevirtual 69, 3), (17, .ireturn, 1), (18, .aload_n 0, 1), (19, .getfield 10, 3), (22, .iload_n 1, 1), (23, .invokevirtual 195, 3), (26, .ifCond .eq 7, 3), (29, .iconst 1, 1), (30, .goto 4, 3), (33, .iconst 0, 1), (34, .ireturn, 1)]
def cd_76 : List (Nat × Instr × Nat) := [(0, .aload_n 0, 1), (1, .getfield 10, 3), (4, .iconst 0, 1), (5, .bipush 7, 2), (7, .invokevirtual 198, 3), (10, .istore_n 2, 1), (11, .iload_n 1, 1), (12, .iconst (-1), 1), (13, .if_icmp .ne 5, 3), (16, .iload_n 2, 1), (17, .ireturn, 1), (18, .iload_n 1, 1), (19, .ifCond .lt 20, 3), (22, .iload_n 1, 1), (23, .iload_n 2, 1), (24, .if_icmp .ge 15, 3), (27, .aload_n 0, 1), (28, .getfield 10, 3), (31, .getfield 201, 3), (34, .iload_n 1, 1), (35, .iaload, 1), (36, .goto 9, 3), (39, .aload_n 0, 1), (40, .bipush (-5), 2), (42, .invokevirtual 69, 3), (45, .ireturn, 1)]
def cd_77 : List (Nat × Instr × Nat) := [(0, .iload_n 2, 1), (1, .iconst (-1), 1), (2, .if_icmp .ge 10, 3), (5, .aload_n 0, 1), (6, .bipush (-5), 2), (8, .invokevirtual 69, 3), (11, .ireturn, 1), (12, .iload_n 1, 1), (13, .iconst 1, 1), (14, .iconst 3, 1), (15, .invokestatic 127, 3), (18, .ifCond .ne 10, 3), (21, .aload_n 0, 1), (22, .bipush (-6), 2), (24, .invokevirtual 69, 3), (27, .ireturn, 1), (28, .aload_n 0, 1), (29, .getfield 39, 3), (32, .aload_n 0, 1), (33, .getfield 10, 3), (36, .iload_n 1, 1), (37, .invokevirtual 204, 3), (40, .iload_n 2, 1), (41, .iconst (-1), 1), (42, .if_icmp .ne 11, 3), (45, .aload_n 0, 1), (46, .getfield 39, 3), (49, .getfield 208, 3), (52, .ireturn, 1), (53, .iload_n 2, 1), (54, .aload_n 0, 1), (55, .getfield 39, 3), (58, .getfield 209, 3), (61, .if_icmp .ge 15, 3), (64, .aload_n 0, 1), (65, .getfield 39, 3), (68, .getfield 210, 3), (71, .iload_n 2, 1), (72, .iaload, 1), (73, .goto 9, 3), (76, .aload_n 0, 1), (77, .bipush (-5), 2), (79, .invokevirtual 69, 3), (82, .ireturn, 1)]
def cd_78 : List (Nat × Instr × Nat) := [(0, .iload_n 2, 1), (1, .iconst (-1), 1), (2, .if_icmp .eq 31, 3), (5, .iload_n 2, 1), (6, .iconst 4, 1), (7, .if_icmp .eq 26, 3), (10, .iload_n 2, 1), (11, .iconst 5, 1), (12, .if_icmp .eq 21, 3), (15, .aload_n 0, 1), (16, .getfield 10, 3), (19, .iload_n 2, 1), (20, .invokevirtual 101, 3), (23, .ifCond .ne 10, 3), (26, .aload_n 0, 1), (27, .bipush (-5), 2), (29, .invokevirtual 69, 3), (32, .ireturn, 1), (33, .iload_n 1, 1), (34, .invokestatic 213, 3), (37, .ifCond .ne 10, 3), (40, .aload_n 0, 1), (41, .bipush (-6), 2), (43, .invokevirtual 69, 3), (46, .ireturn, 1), (47, .aload_n 0, 1), (48, .getfield 25, 3), (51, .aload_n 0, 1), (52, .getfield 10, 3), (55, .iload_n 1, 1), (56, .sipush 300, 3), (59, .iconst (-1), 1), (60, .invokevirtual 216, 3), (63, .istore_n 3, 1), (64, .iload_n 2, 1), (65, .lookupswitch 67 #[(-1, 35), (4, 54), (5, 65)], 35), (100, .aload_n 0, 1), (101, .getfield 25, 3), (104, .getfield 220, 3), (107, .invokevirtual 221, 3), (110, .aload_n 0, 1), (111, .getfield 10, 3), (114, .invokevirtual 221, 3), (117, .isub, 1), (118, .ireturn, 1), (119, .aload_n 0, 1), (120, .getfield 25, 3), (123, .getfield 220, 3), (126, .getfield 163, 3), (129, .ireturn, 1), (130, .iload_n 3, 1), (131, .ireturn, 1), (132, .aload_n 0, 1), (133, .iload_n 2, 1), (134, .invokevirtual 225, 3), (137, .ireturn, 1)]
def cd_79 : List (Nat × Instr × Nat) := [(0, .aload_n 0, 1), (1, .getfield 10, 3), (4, .getfield 228, 3), (7, .ifCond .ne 10, 3), (10, .aload_n 0, 1), (11, .bipush (-5), 2), (13, .invokevirtual 69, 3), (16, .ireturn, 1), (17, .iload_n 1, 1), (18, .invokestatic 213, 3), (21, .ifCond .ne 10, 3), (24, .aload_n 0, 1), (25, .bipush (-6), 2), (27, .invokevirtual 69, 3), (30, .ireturn, 1), (31, .aload_n 0, 1), (32, .getfield 25, 3), (35, .aload_n 0, 1), (36, .getfield 10, 3), (39, .iload_n 1, 1), (40, .sipush 300, 3), (43, .iconst (-1), 1), (44, .invokevirtual 216, 3), (47, .pop, 1), (48, .aload_n 0, 1), (49, .getfield 25, 3), (52, .getfield 220, 3), (55, .invokevirtual 231, 3), (58, .ireturn, 1)]
def cd_80 : List (Nat × Instr × Nat) := [(0, .aload_n 0, 1), (1, .getfield 10, 3), (4, .getfield 228, 3), (7, .ifCond .eq 12, 3), (10, .iload_n 1, 1), (11, .iconst 0, 1), (12, .iconst 1, 1), (13, .invokestatic 127, 3), (16, .ifCond .ne 10, 3), (19, .aload_n 0, 1), (20, .bipush (-5), 2), (22, .invokevirtual 69, 3), (25, .ireturn, 1), (26, .iconst 0, 1), (27, .istore_n 2, 1), (28, .iconst 0, 1), (29, .istore_n 3, 1), (30, .iconst 0, 1), (31, .istore 4, 2), (33, .iload 4, 2), (35, .iconst 4, 1), (36, .if_icmp .ge 74, 3), (39, .aload_n 0, 1), (40, .getfield 25, 3), (43, .aload_n 0, 1), (44, .getfield 10, 3), (47, .iload 4, 2), (49, .sipush 300, 3), (52, .iconst (-1), 1), (53, .invokevirtual 216, 3), (56, .pop, 1), (57, .iload_n 1, 1), (58, .ifCond .ne 16, 3), (61, .aload_n 0, 1), (62, .getfield 25, 3), (65, .getfield 220, 3), (68, .invokevirtual 221, 3), (71, .goto 14, 3), (74, .aload_n 0, 1), (75, .getfield 25, 3), (78, .getfield 220, 3), (81, .invokevirtual 231, 3), (84, .ineg, 1), (85, .istore 5, 2), (87, .iload 4, 2), (89, .ifCond .eq 9, 3), (92, .iload 5, 2), (94, .iload_n 3, 1), (95, .if_icmp .le 9, 3), (98, .iload 4, 2), (100, .istore_n 2, 1), (101, .iload 5, 2), (103, .istore_n 3, 1), (104, .iinc 4 1, 3), (107, .goto (-74), 3), (110, .iload_n 2, 1), (111, .ireturn, 1)]
def cd_81 : List (Nat × Instr × Nat) := [(0, .aload_n 0, 1), (1, .iload_n 1, 1), (2, .invokevirtual 77, 3), (5, .istore_n 2, 1), (6, .iload_n 2, 1), (7, .ifCond .ne 25, 3), (10, .aload_n 0, 1), (11, .getfield 52, 3), (14, .iload_n 1, 1), (15, .aaload, 1), (16, .getfield 234, 3), (19, .aload_n 0, 1), (20, .getfield 10, 3), (23, .getfield 228, 3), (26, .if_icmp .ge 6, 3), (29, .bipush (-5), 2), (31, .istore_n 2, 1), (32, .iload_n 2, 1), (33, .ifCond .eq 9, 3), (36, .aload_n 0, 1), (37, .iload_n 2, 1), (38, .invokevirtual 69, 3), (41, .ireturn, 1), (42, .iconst 0, 1), (43, .istore_n 3, 1), (44, .iconst 0, 1), (45, .istore 4, 2), (47, .iload 4, 2), (49, .iconst 4, 1), (50, .if_icmp .ge 47, 3), (53, .aload_n 0, 1), (54, .getfield 25, 3), (57, .aload_n 0, 1), (58, .getfield 10, 3), (61, .iload 4, 2), (63, .sipush 300, 3), (66, .iconst (-1), 1), (67, .invokevirtual 216, 3), (70, .pop, 1), (71, .aload_n 0, 1), (72, .aload_n 0, 1), (73, .getfield 52, 3), (76, .iload_n 1, 1), (77, .aaload, 1), (78, .invokevirtual 237, 3), (81, .ifCond .eq 10, 3), (84, .iload_n 3, 1), (85, .iconst 1, 1), (86, .iload 4, 2), (88, .ishl, 1), (89, .ior, 1), (90, .istore_n 3, 1), (91, .iinc 4 1, 3), (94, .goto (-47), 3), (97, .iload_n 3, 1), (98, .ireturn, 1)]
def cd_82 : List (Nat × Instr × Nat) := [(0, .aload_n 0, 1), (1, .getfield 10, 3), (4, .getfield 228, 3), (7, .ifCond .ne 10, 3), (10, .aload_n 0, 1), (11, .bipush (-5), 2), (13, .invokevirtual 69, 3), (16, .ireturn, 1), (17, .iload_n 1, 1), (18, .iconst 0, 1), (19, .bipush 9, 2), (21, .invokestatic 127, 3), (24, .ifCond .ne 10, 3), (27, .aload_n 0, 1), (28, .bipush (-6), 2), (30, .invokevirtual 69, 3), (33, .ireturn, 1), (34, .iconst 0, 1), (35, .istore_n 2, 1), (36, .iconst 0, 1), (37, .istore_n 3, 1), (38, .iconst 0, 1), (39, .istore 4, 2), (41, .iload 4, 2), (43, .iload_n 1, 1), (44, .if_icmp .gt 56, 3), (47, .aload_n 0, 1), (48, .getfield 25, 3), (51, .aload_n 0, 1), (52, .getfield 10, 3), (55, .iconst 1, 1), (56, .sipush 300, 3), (59, .iload 4, 2), (61, .invokevirtual 216, 3), (64, .pop, 1), (65, .aload_n 0, 1), (66, .getfield 25, 3), (69, .getfield 220, 3), (72, .invokevirtual 221, 3), (75, .istore 5, 2), (77, .iload 4, 2), (79, .ifCond .eq 9, 3), (82, .iload 5, 2), (84, .iload_n 3, 1), (85, .if_icmp .le 9, 3), (88, .iload 4, 2), (90, .istore_n 2, 1), (91, .iload 5, 2), (93, .istore_n 3, 1), (94, .iinc 4 1, 3), (97, .goto (-56), 3), (100, .iload_n 2, 1), (101, .ireturn, 1)]
def cd_83 : List (Nat × Instr × Nat) := [(0, .aload_n 0, 1), (1, .getfield 10, 3), (4, .getfield 228, 3), (7, .ifCond .eq 12, 3), (10, .iload_n 1, 1), (11, .iconst 0, 1), (12, .iconst 2, 1), (13, .invokestatic 127, 3), (16, .ifCond .ne 10, 3), (19, .aload_n 0, 1), (20, .bipush (-5), 2), (22, .invokevirtual 69, 3), (25, .ireturn, 1), (26, .iconst 0, 1), (27, .istore_n 2, 1), (28, .iconst 1, 1), (29, .istore_n 3, 1), (30, .iload_n 3, 1), (31, .aload_n 0, 1), (32, .getfield 10, 3), (35, .getfield 228, 3), (38, .if_icmp .ge 40, 3), (41, .aload_n 0, 1), (42, .getfield 10, 3), (45, .getfield 114, 3), (48, .iload_n 3, 1), (49, .aaload, 1), (50, .iload_n 1, 1), (51, .invokestatic 241, 3), (54, .aload_n 0, 1), (55, .getfield 10, 3), (58, .getfield 114, 3), (61, .iload_n 2, 1), (62, .aaload, 1), (63, .iload_n 1, 1), (64, .invokestatic 241, 3), (67, .if_icmp .le 5, 3), (70, .iload_n 3, 1), (71, .istore_n 2, 1), (72, .iinc 3 1, 3), (75, .goto (-45), 3), (78, .iload_n 2, 1), (79, .ireturn, 1)]
def cd_84 : List (Nat × Instr × Nat) := [(0, .aload_n 0, 1), (1, .iload_n 1, 1), (2, .iload_n 2, 1), (3, .iconst 1, 1), (4, .invokevirtual 244, 3), (7, .istore_n 3, 1), (8, .iload_n 3, 1), (9, .ifCond .eq 14, 3), (12, .aload_n 0, 1), (13, .iload_n 3, 1), (14, .invokevirtual 69, 3), (17, .bipush 10, 2), (19, .isub, 1), (20, .goto 14, 3), (23, .aload_n 0, 1), (24, .aload_n 0, 1), (25, .getfield 52, 3), (28, .iload_n 1, 1), (29, .aaload, 1), (30, .iload_n 2, 1), (31, .invokevirtual 248, 3), (34, .ireturn, 1)]
def cd_85 : List (Nat × Instr × Nat) := [(0, .aload_n 0, 1), (1, .iload_n 1, 1), (2, .iload_n 2, 1), (3, .iload_n 3, 1), (4, .iconst 0, 1), (5, .iconst 3, 1), (6, .invokestatic 127, 3), (9, .invokevirtual 244, 3), (12, .istore 4, 2), (14, .iload 4, 2), (16, .ifCond .eq 10, 3), (19, .aload_n 0, 1), (20, .iload 4, 2), (22, .invokevirtual 69, 3), (25, .ireturn, 1), (26, .aload_n 0, 1), (27, .aload_n 0, 1), (28, .getfield 52, 3), (31, .iload_n 1, 1), (32, .aaload, 1), (33, .iload_n 2, 1), (34, .invokevirtual 248, 3), (37, .iconst (-1), 1), (38, .if_icmp .eq 10, 3), (41, .aload_n 0, 1), (42, .bipush (-6), 2), (44, .invokevirtual 69, 3), (47, .ireturn, 1), (48, .iload_n 3, 1), (49, .tableswitch 51 0 2 #[27, 35, 43], 27), (76, .aload_n 0, 1), (77, .getfield 16, 3), (80, .invokevirtual 221, 3), (83, .ireturn, 1), (84, .aload_n 0, 1), (85, .getfield 16, 3), (88, .getfield 163, 3), (91, .ireturn, 1), (92, .aload_n 0, 1), (93, .getfield 16, 3), (96, .invokevirtual 252, 3), (99, .ireturn, 1), (100, .aload_n 0, 1), (101, .getfield 16, 3), (104, .getfield 166, 3), (107, .ireturn, 1)]
def cd_86 : List (Nat × Instr × Nat) := [(0, .aload_n 0, 1), (1, .iload_n 1, 1), (2, .iload_n 2, 1), (3, .iconst 1, 1), (4, .invokevirtual 244, 3), (7, .istore_n 3, 1), (8, .iload_n 3, 1), (9, .ifCond .eq 9, 3), (12, .aload_n 0, 1), (13, .iload_n 3, 1), (14, .invokevirtual 69, 3), (17, .ireturn, 1), (18, .aload_n 0, 1), (19, .aload_n 0, 1), (20, .getfield 52, 3), (23, .iload_n 1, 1), (24, .aaload, 1), (25, .iload_n 2, 1), (26, .invokevirtual 248, 3), (29, .iconst (-1), 1), (30, .if_icmp .eq 10, 3), (33, .aload_n 0, 1), (34, .bipush (-6), 2), (36, .invokevirtual 69, 3), (39, .ireturn, 1), (40, .aload_n 0, 1), (41, .getfield 10, 3), (44, .aload_n 0, 1), (45, .getfield 16, 3), (48, .invokevirtual 185, 3), (51, .aload_n 0, 1), (52, .getfield 10, 3), (55, .getfield 163, 3), (58, .ireturn, 1)]
def cd_87 : List (Nat × Instr × Nat) := [(0, .aload_n 0, 1), (1, .getfield 10, 3), (4, .iload_n 1, 1), (5, .invokevirtual 101, 3), (8, .ifCond .eq 14, 3), (11, .aload_n 0, 1), (12, .getfield 10, 3), (15, .iload_n 2, 1), (16, .invokevirtual 101, 3), (19, .ifCond .ne 9, 3), (22, .aload_n 0, 1), (23, .iconst (-1), 1), (24, .invokevirtual 69, 3), (27, .ireturn, 1), (28, .iload 5, 2), (30, .iconst 0, 1), (31, .iconst 1, 1), (32, .invokestatic 127, 3), (35, .ifCond .ne 10, 3), (38, .aload_n 0, 1), (39, .bipush (-5), 2), (41, .invokevirtual 69, 3), (44, .ireturn, 1), (45, .iload_n 3, 1), (46, .iconst 1, 1), (47, .sipush 500, 3), (50, .invokestatic 127, 3), (53, .ifCond .eq 19, 3), (56, .iload 4, 2), (58, .iconst 1, 1), (59, .bipush 20, 2), (61, .invokestatic 127, 3), (64, .ifCond .eq 8, 3), (67, .iload_n 1, 1), (68, .iload_n 2, 1), (69, .if_icmp .ne 10, 3), (72, .aload_n 0, 1), (73, .bipush (-6), 2), (75, .invokevirtual 69, 3), (78, .ireturn, 1), (79, .iconst 0, 1), (80, .istore 6, 2), (82, .iconst 0, 1), (83, .istore 7, 2), (85, .iconst 0, 1), (86, .istore 8, 2), (88, .iload 8, 2), (90, .iload_n 3, 1), (91, .if_icmp .gt 63, 3), (94, .aload_n 0, 1), (95, .getfield 10, 3), (98, .getfield 114, 3), (101, .iload_n 1, 1), (102, .aaload, 1), (103, .invokevirtual 255, 3), (106, .aload_n 0, 1), (107, .getfield 10, 3), (110, .getfield 114, 3), (113, .iload_n 2, 1), (114, .aaload, 1), (115, .invokevirtual 255, 3), (118, .iload_n 3, 1), (119, .iload 4, 2), (121, .iload 8, 2), (123, .invokestatic 258, 3), (126, .istore 9, 2), (128, .iload 8, 2), (130, .ifCond .eq 10, 3), (133, .iload 9, 2), (135, .iload 7, 2), (137, .if_icmp .ge 11, 3), (140, .iload 8, 2), (142, .istore 6, 2), (144, .iload 9, 2), (146, .istore 7, 2), (148, .iinc 8 1, 3), (151, .goto (-63), 3), (154, .iload 5, 2), (156, .ifCond .ne 8, 3), (159, .iload 6, 2), (161, .goto 5, 3), (164, .iload 7, 2), (166, .ireturn, 1)]
def cd_88 : List (Nat × Instr × Nat) := [(0, .aload_n 0, 1), (1, .getfield 10, 3), (4, .iload_n 1, 1), (5, .invokevirtual 261, 3), (8, .ifCond .eq 13, 3), (11, .aload_n 0, 1), (12, .getfield 10, 3), (15, .getfield 163, 3), (18, .goto 9, 3), (21, .aload_n 0, 1), (22, .bipush (-6), 2), (24, .invokevirtual 69, 3), (27, .ireturn, 1)]
def cd_89 : List (Nat × Instr × Nat) := [(0, .iload_n 1, 1), (1, .invokestatic 213, 3), (4, .ifCond .eq 13, 3), (7, .iload_n 2, 1), (8, .iconst 1, 1), (9, .bipush 60, 2), (11, .invokestatic 127, 3), (14, .ifCond .ne 10, 3), (17, .aload_n 0, 1), (18, .bipush (-6), 2), (20, .invokevirtual 69, 3), (23, .ireturn, 1), (24, .aload_n 0, 1), (25, .getfield 25, 3), (28, .aload_n 0, 1), (29, .getfield 10, 3), (32, .iload_n 1, 1), (33, .iload_n 2, 1), (34, .iconst (-1), 1), (35, .invokevirtual 216, 3), (38, .istore_n 3, 1), (39, .aload_n 0, 1), (40, .getfield 10, 3), (43, .aload_n 0, 1), (44, .getfield 25, 3), (47, .getfield 220, 3), (50, .invokevirtual 185, 3), (53, .iload_n 3, 1), (54, .ireturn, 1)]
def cd_90 : List (Nat × Instr × Nat) := [(0, .iload_n 1, 1), (1, .iconst 1, 1), (2, .bipush 60, 2), (4, .invokestatic 127, 3), (7, .ifCond .ne 10, 3), (10, .aload_n 0, 1), (11, .bipush (-6), 2), (13, .invokevirtual 69, 3), (16, .ireturn, 1), (17, .aload_n 0, 1), (18, .getfield 10, 3), (21, .invokevirtual 221, 3), (24, .istore_n 2, 1), (25, .iconst 0, 1), (26, .istore_n 3, 1), (27, .iload_n 3, 1), (28, .iload_n 1, 1), (29, .if_icmp .ge 51, 3), (32, .aload_n 0, 1), (33, .getfield 10, 3), (36, .iconst 0, 1), (37, .bipush 7, 2), (39, .invokevirtual 198, 3), (42, .istore 4, 2), (44, .iload 4, 2), (46, .ifCond .le 28, 3), (49, .aload_n 0, 1), (50, .getfield 10, 3), (53, .aload_n 0, 1), (54, .getfield 10, 3), (57, .getfield 201, 3), (60, .aload_n 0, 1), (61, .getfield 10, 3), (64, .iload 4, 2), (66, .invokevirtual 264, 3), (69, .iaload, 1), (70, .invokevirtual 261, 3), (73, .pop, 1), (74, .iinc 3 1, 3), (77, .goto (-50), 3), (80, .aload_n 0, 1), (81, .getfield 10, 3), (84, .invokevirtual 221, 3), (87, .iload_n 2, 1), (88, .isub, 1), (89, .ireturn, 1)]
def cd_91 : List (Nat × Instr × Nat) := [(0, .iload_n 1, 1), (1, .iconst 0, 1), (2, .sipush 999, 3), (5, .invokestatic 127, 3), (8, .ifCond .ne 10, 3), (11, .aload_n 0, 1), (12, .bipush (-6), 2), (14, .invokevirtual 69, 3), (17, .ireturn, 1), (18, .aload_n 0, 1), (19, .getfield 10, 3), (22, .invokevirtual 221, 3), (25, .istore_n 2, 1), (26, .aload_n 0, 1), (27, .getfield 10, 3), (30, .iload_n 1, 1), (31, .invokevirtual 267, 3), (34, .iload_n 2, 1), (35, .ireturn, 1)]
def cd_92 : List (Nat × Instr × Nat) := [(0, .aload_n 0, 1), (1, .getfield 10, 3), (4, .getfield 270, 3), (7, .istore_n 2, 1), (8, .aload_n 0, 1), (9, .getfield 10, 3), (12, .iload_n 1, 1), (13, .putfield 270, 3), (16, .iload_n 2, 1), (17, .ireturn, 1)]
def cd_93 : List (Nat × Instr × Nat) := [(0, .aload_n 0, 1), (1, .getfield 46, 3), (4, .invokevirtual 273, 3), (7, .aload_n 0, 1), (8, .getfield 10, 3), (11, .iload_n 1, 1), (12, .invokevirtual 101, 3), (15, .ifCond .eq 12, 3), (18, .iload_n 2, 1), (19, .iconst 0, 1), (20, .iconst 2, 1), (21, .invokestatic 127, 3), (24, .ifCond .ne 5, 3), (27, .iconst 0, 1), (28, .ireturn, 1), (29, .aload_n 0, 1), (30, .getfield 10, 3), (33, .getfield 114, 3), (36, .iload_n 1, 1), (37, .aaload, 1), (38, .iload_n 2, 1), (39, .aload_n 0, 1), (40, .getfield 10, 3), (43, .getfield 114, 3), (46, .iload_n 1, 1), (47, .aaload, 1), (48, .getfield 139, 3), (51, .iload_n 3, 1), (52, .aload_n 0, 1), (53, .getfield 46, 3), (56, .iconst 0, 1), (57, .invokestatic 276, 3), (60, .ireturn, 1)]
def cd_94 : List (Nat × Instr × Nat) := [(0, .aload_n 0, 1), (1, .getfield 46, 3), (4, .iload_n 1, 1), (5, .invokevirtual 280, 3), (8, .ireturn, 1)]
def cd_95 : List (Nat × Instr × Nat) := [(0, .aload_n 0, 1), (1, .getfield 19, 3), (4, .aload_n 0, 1), (5, .getfield 10, 3), (8, .invokevirtual 185, 3), (11, .aload_n 0, 1), (12, .iconst 1, 1), (13, .putfield 283, 3), (16, .aload_n 0, 1), (17, .getfield 10, 3), (20, .getfield 228, 3), (23, .ireturn, 1)]
def cd_96 : List (Nat × Instr × Nat) := [(0, .aload_n 0, 1), (1, .getfield 283, 3), (4, .ifCond .ne 10, 3), (7, .aload_n 0, 1), (8, .bipush (-6), 2), (10, .invokevirtual 69, 3), (13, .ireturn, 1), (14, .aload_n 0, 1), (15, .getfield 10, 3), (18, .aload_n 0, 1), (19, .getfield 19, 3), (22, .invokevirtual 185, 3), (25, .iconst 0, 1), (26, .istore_n 1, 1), (27, .iload_n 1, 1), (28, .bipush 8, 2), (30, .if_icmp .ge 50, 3), (33, .aload_n 0, 1), (34, .getfield 52, 3), (37, .iload_n 1, 1), (38, .aaload, 1), (39, .invokevirtual 287, 3), (42, .ifCond .eq 32, 3), (45, .aload_n 0, 1), (46, .getfield 10, 3), (49, .aload_n 0, 1), (50, .getfield 52, 3), (53, .iload_n 1, 1), (54, .aaload, 1), (55, .getfield 108, 3), (58, .invokevirtual 101, 3), (61, .ifCond .ne 13, 3), (64, .aload_n 0, 1), (65, .getfield 52, 3), (68, .iload_n 1, 1), (69, .aaload, 1), (70, .iconst (-1), 1), (71, .invokevirtual 104, 3), (74, .iinc 1 1, 3), (77, .goto (-50), 3), (80, .aload_n 0, 1), (81, .getfield 10, 3), (84, .getfield 228, 3), (87, .ireturn, 1)]
def cd_97 : List (Nat × Instr × Nat) := [(0, .iload_n 1, 1), (1, .tableswitch 147 0 10 #[59, 67, 75, 83, 91, 99, 107, 115, 123, 131, 139], 59), (60, .aload_n 0, 1), (61, .getfield 10, 3), (64, .getfield 228, 3), (67, .ireturn, 1), (68, .aload_n 0, 1), (69, .getfield 10, 3), (72, .invokevirtual 290, 3), (75, .ireturn, 1), (76, .aload_n 0, 1), (77, .getfield 10, 3), (80, .getfield 157, 3), (83, .ireturn, 1), (84, .aload_n 0, 1), (85, .getfield 10, 3), (88, .getfield 160, 3), (91, .ireturn, 1), (92, .aload_n 0, 1), (93, .getfield 10, 3), (96, .getfield 163, 3), (99, .ireturn, 1), (100, .aload_n 0, 1), (101, .getfield 10, 3), (104, .getfield 166, 3), (107, .ireturn, 1), (108, .aload_n 0, 1), (109, .getfield 10, 3), (112, .getfield 169, 3), (115, .ireturn, 1), (116, .aload_n 0, 1), (117, .getfield 10, 3), (120, .getfield 172, 3), (123, .ireturn, 1), (124, .aload_n 0, 1), (125, .getfield 10, 3), (128, .invokevirtual 221, 3), (131, .ireturn, 1), (132, .aload_n 0, 1), (133, .getfield 10, 3), (136, .getfield 270, 3), (139, .ireturn, 1), (140, .aload_n 0, 1), (141, .getfield 46, 3), (144, .getfield 293, 3), (147, .ireturn, 1), (148, .iload_n 1, 1), (149, .bipush 11, 2), (151, .bipush 17, 2), (153, .invokestatic 127, 3), (156, .ifCond .eq 15, 3), (159, .aload_n 0, 1), (160, .getfield 56, 3), (163, .iload_n 1, 1), (164, .bipush 11, 2), (166, .isub, 1), (167, .iaload, 1), (168, .goto 4, 3), (171, .iconst (-1), 1), (172, .ireturn, 1)]
def cd_98 : List (Nat × Instr × Nat) := [(0, .iload_n 1, 1), (1, .ineg, 1), (2, .iconst 1, 1), (3, .isub, 1), (4, .istore_n 2, 1), (5, .iload_n 2, 1), (6, .ifCond .lt 19, 3), (9, .iload_n 2, 1), (10, .bipush 7, 2), (12, .if_icmp .ge 13, 3), (15, .aload_n 0, 1), (16, .getfield 56, 3), (19, .iload_n 2, 1), (20, .dup2, 1), (21, .iaload, 1), (22, .iconst 1, 1), (23, .iadd, 1), (24, .iastore, 1), (25, .iload_n 1, 1), (26, .ireturn, 1)]
def cd_99 : List (Nat × Instr × Nat) := [(0, .iload_n 1, 1), (1, .invokestatic 65, 3), (4, .ifCond .ne 5, 3), (7, .iconst (-1), 1), (8, .ireturn, 1), (9, .aload_n 0, 1), (10, .getfield 52, 3), (13, .iload_n 1, 1), (14, .aaload, 1), (15, .invokevirtual 287, 3), (18, .ifCond .eq 6, 3), (21, .bipush (-2), 2), (23, .ireturn, 1), (24, .aload_n 0, 1), (25, .getfield 52, 3), (28, .iload_n 1, 1), (29, .aaload, 1), (30, .invokevirtual 296, 3), (33, .ifCond .eq 7, 3), (36, .iconst 0, 1), (37, .goto 5, 3), (40, .bipush (-3), 2), (42, .ireturn, 1)]
def cd_100 : List (Nat × Instr × Nat) := [(0, .iload_n 1, 1), (1, .invokestatic 65, 3), (4, .ifCond .eq 10, 3), (7, .iload_n 2, 1), (8, .invokestatic 65, 3), (11, .ifCond .ne 5, 3), (14, .iconst (-1), 1), (15, .ireturn, 1), (16, .aload_n 0, 1), (17, .getfield 52, 3), (20, .iload_n 1, 1), (21, .aaload, 1), (22, .astore 6, 2), (24, .aload_n 0, 1), (25, .getfield 52, 3), (28, .iload_n 2, 1), (29, .aaload, 1), (30, .astore 7, 2), (32, .aload 6, 2), (34, .invokevirtual 296, 3), (37, .ifCond .eq 28, 3), (40, .aload 7, 2), (42, .invokevirtual 296, 3), (45, .ifCond .eq 20, 3), (48, .aload 6, 2), (50, .getfield 108, 3), (53, .aload 7, 2), (55, .getfield 108, 3), (58, .if_icmp .eq 7, 3), (61, .iconst 1, 1), (62, .goto 4, 3), (65, .iconst 0, 1), (66, .istore 8, 2), (68, .aload 6, 2), (70, .invokevirtual 287, 3), (73, .ifCond .ne 16, 3), (76, .aload 7, 2), (78, .invokevirtual 287, 3), (81, .ifCond .ne 8, 3), (84, .iload 8, 2), (86, .ifCond .eq 6, 3), (89, .bipush (-2), 2), (91, .ireturn, 1), (92, .aload 6, 2), (94, .invokevirtual 296, 3), (97, .ifCond .eq 11, 3), (100, .aload 7, 2), (102, .invokevirtual 296, 3), (105, .ifCond .ne 6, 3), (108, .bipush (-3), 2), (110, .ireturn, 1), (111, .iload 5, 2), (113, .ifCond .ge 6, 3), (116, .bipush (-4), 2), (118, .ireturn, 1), (119, .iload_n 3, 1), (120, .ifCond .lt 37, 3), (123, .iload 4, 2), (125, .ifCond .lt 32, 3), (128, .iload_n 3, 1), (129, .aload 6, 2), (131, .getfield 234, 3), (134, .iload 5, 2), (136, .isub, 1), (137, .if_icmp .gt 20, 3), (140, .iload 4, 2), (142, .aload 7, 2), (144, .getfield 234, 3), (147, .iload 5, 2), (149, .isub, 1), (150, .if_icmp .gt 7, 3), (153, .iconst 1, 1), (154, .goto 4, 3), (157, .iconst 0, 1), (158, .istore 9, 2), (160, .iload 9, 2), (162, .ifCond .eq 7, 3), (165, .iconst 0, 1), (166, .goto 5, 3), (169, .bipush (-5), 2), (171, .ireturn, 1)]
def cd_101 : List (Nat × Instr × Nat) := [(0, .aload_n 0, 1), (1, .iload_n 1, 1), (2, .invokevirtual 77, 3), (5, .istore 4, 2), (7, .iload 4, 2), (9, .ifCond .eq 6, 3), (12, .iload 4, 2), (14, .ireturn, 1), (15, .iload_n 2, 1), (16, .ifCond .ge 6, 3), (19, .bipush (-4), 2), (21, .ireturn, 1), (22, .iload_n 2, 1), (23, .aload_n 0, 1), (24, .getfield 52, 3), (27, .iload_n 1, 1), (28, .aaload, 1), (29, .getfield 234, 3), (32, .if_icmp .gt 7, 3), (35, .iload_n 3, 1), (36, .ifCond .ne 6, 3), (39, .bipush (-5), 2), (41, .ireturn, 1), (42, .iload_n 2, 1), (43, .bipush 60, 2), (45, .if_icmp .le 8, 3), (48, .bipush (-6), 2), (50, .goto 4, 3), (53, .iconst 0, 1), (54, .ireturn, 1)]
def cd_102 : List (Nat × Instr × Nat) := [(0, .iload_n 0, 1), (1, .ifCond .lt 13, 3), (4, .iload_n 0, 1), (5, .bipush 8, 2), (7, .if_icmp .ge 7, 3), (10, .iconst 1, 1), (11, .goto 4, 3), (14, .iconst 0, 1), (15, .ireturn, 1)]
def cd_103 : List (Nat × Instr × Nat) := [(0, .iload_n 0, 1), (1, .ifCond .lt 13, 3), (4, .iload_n 0, 1), (5, .bipush 7, 2), (7, .if_icmp .ge 7, 3), (10, .iconst 1, 1), (11, .goto 4, 3), (14, .iconst 0, 1), (15, .ireturn, 1)]
def cd_104 : List (Nat × Instr × Nat) := [(0, .iload_n 0, 1), (1, .ifCond .lt 12, 3), (4, .iload_n 0, 1), (5, .iconst 4, 1), (6, .if_icmp .ge 7, 3), (9, .iconst 1, 1), (10, .goto 4, 3), (13, .iconst 0, 1), (14, .ireturn, 1)]
def cd_105 : List (Nat × Instr × Nat) := [(0, .iload_n 0, 1), (1, .iload_n 1, 1), (2, .if_icmp .lt 12, 3), (5, .iload_n 0, 1), (6, .iload_n 2, 1), (7, .if_icmp .gt 7, 3), (10, .iconst 1, 1), (11, .goto 4, 3), (14, .iconst 0, 1), (15, .ireturn, 1)]
def cd_106 : List (Nat × Instr × Nat) := [(0, .iload_n 2, 1), (1, .tableswitch 68 0 5 #[39, 44, 56, 44, 68, 56], 39), (40, .aload_n 1, 1), (41, .getfield 151, 3), (44, .ireturn, 1), (45, .aload_n 1, 1), (46, .aload_n 0, 1), (47, .getfield 10, 3), (50, .getfield 172, 3), (53, .invokevirtual 299, 3), (56, .ireturn, 1), (57, .aload_n 1, 1), (58, .aload_n 0, 1), (59, .getfield 10, 3), (62, .getfield 169, 3), (65, .invokevirtual 302, 3), (68, .ireturn, 1), (69, .aload_n 1, 1), (70, .aload_n 0, 1), (71, .getfield 10, 3), (74, .getfield 169, 3), (77, .invokevirtual 305, 3), (80, .ireturn, 1)]
def cd_107 : List (Nat × Instr × Nat) := [(0, .iload_n 1, 1), (1, .lookupswitch 38 #[(0, 27), (1, 33)], 27), (28, .aload_n 0, 1), (29, .getfield 148, 3), (32, .ineg, 1), (33, .ireturn, 1), (34, .aload_n 0, 1), (35, .getfield 151, 3), (38, .ireturn, 1), (39, .aload_n 0, 1), (40, .getfield 154, 3), (43, .ireturn, 1)]
def cd_108 : List (Nat × Instr × Nat) := [(0, .aload_n 0, 1), (1, .getfield 10, 3), (4, .iload_n 1, 1), (5, .invokevirtual 101, 3), (8, .ifCond .eq 34, 3), (11, .aload_n 0, 1), (12, .getfield 25, 3), (15, .getfield 220, 3), (18, .getfield 114, 3), (21, .iload_n 1, 1), (22, .aaload, 1), (23, .getfield 151, 3), (26, .aload_n 0, 1), (27, .getfield 10, 3), (30, .getfield 114, 3), (33, .iload_n 1, 1), (34, .aaload, 1), (35, .getfield 151, 3), (38, .isub, 1), (39, .goto 4, 3), (42, .iconst 0, 1), (43, .ireturn, 1)]
def cd_109 : List (Nat × Instr × Nat) := [(0, .iconst 0, 1), (1, .istore_n 2, 1), (2, .iload_n 2, 1), (3, .aload_n 0, 1), (4, .getfield 10, 3), (7, .getfield 228, 3), (10, .if_icmp .ge 24, 3), (13, .aload_n 0, 1), (14, .iload_n 2, 1), (15, .invokevirtual 225, 3), (18, .aload_n 1, 1), (19, .iload_n 2, 1), (20, .invokevirtual 308, 3), (23, .if_icmp .eq 5, 3), (26, .iconst 0, 1), (27, .ireturn, 1), (28, .iinc 2 1, 3), (31, .goto (-29), 3), (34, .iconst 1, 1), (35, .ireturn, 1)]
def cd_110 : List (Nat × Instr × Nat) := [(0, .aload_n 0, 1), (1, .getfield 16, 3), (4, .aload_n 0, 1), (5, .getfield 10, 3), (8, .invokevirtual 185, 3), (11, .iconst 0, 1), (12, .istore_n 3, 1), (13, .iload_n 3, 1), (14, .iload_n 2, 1), (15, .if_icmp .ge 26, 3), (18, .aload_n 0, 1), (19, .getfield 16, 3), (22, .aload_n 1, 1), (23, .iload_n 3, 1), (24, .invokevirtual 308, 3), (27, .invokevirtual 261, 3), (30, .ifCond .ne 5, 3), (33, .iload_n 3, 1), (34, .ireturn, 1), (35, .iinc 3 1, 3), (38, .goto (-25), 3), (41, .iconst (-1), 1), (42, .ireturn, 1)]
def cd_111 : List (Nat × Instr × Nat) := [(0, .iload 4, 2), (2, .iload_n 3, 1), (3, .imul, 1), (4, .iload_n 2, 1), (5, .iload 4, 2), (7, .isub, 1), (8, .iload_n 0, 1), (9, .imul, 1), (10, .iadd, 1), (11, .istore 5, 2), (13, .iload 4, 2), (15, .iload_n 1, 1), (16, .imul, 1), (17, .iload 4, 2), (19, .iload_n 3, 1), (20, .imul, 1), (21, .invokestatic 311, 3), (24, .iload_n 2, 1), (25, .iload 4, 2), (27, .isub, 1), (28, .iload_n 3, 1), (29, .imul, 1), (30, .iadd, 1), (31, .istore 6, 2), (33, .iload 5, 2), (35, .iload 6, 2), (37, .invokestatic 311, 3), (40, .ireturn, 1)]
def cd_112 : List (Nat × Instr × Nat) := [(0, .iload 5, 2), (2, .bipush 16, 2), (4, .if_icmp .ge 10, 3), (7, .iload_n 2, 1), (8, .invokestatic 111, 3), (11, .ifCond .ne 5, 3), (14, .iconst 0, 1), (15, .ireturn, 1), (16, .iload_n 1, 1), (17, .ifCond .ne 11, 3), (20, .getstatic 316, 3), (23, .iload_n 2, 1), (24, .iaload, 1), (25, .goto 21, 3), (28, .iload_n 1, 1), (29, .iconst 1, 1), (30, .if_icmp .ne 11, 3), (33, .getstatic 319, 3), (36, .iload_n 2, 1), (37, .iaload, 1), (38, .goto 8, 3), (41, .getstatic 322, 3), (44, .iload_n 2, 1), (45, .iaload, 1), (46, .istore 6, 2), (48, .aload 4, 2), (50, .iload 6, 2), (52, .invokevirtual 325, 3), (55, .aload_n 0, 1), (56, .getfield 139, 3), (59, .istore 7, 2), (61, .iload 5, 2), (63, .iconst 1, 1), (64, .iadd, 1), (65, .istore 8, 2), (67, .iload 6, 2), (69, .lookupswitch 276 #[(10, 91), (11, 98), (12, 113), (20, 144), (30, 165), (40, 183), (50, 201), (51, 218), (60, 239), (70, 257)], 91), (160, .iload_n 3, 1), (161, .aload_n 0, 1), (162, .getfield 328, 3), (165, .iadd, 1), (166, .ireturn, 1), (167, .aload_n 0, 1), (168, .iconst 0, 1), (169, .iload 7, 2), (171, .iload_n 3, 1), (172, .aload 4, 2), (174, .iload 8, 2), (176, .invokestatic 276, 3), (179, .iconst 2, 1), (180, .imul, 1), (181, .ireturn, 1), (182, .aload_n 0, 1), (183, .iconst 1, 1), (184, .iload 7, 2), (186, .iload_n 3, 1), (187, .aload 4, 2), (189, .iload 8, 2), (191, .invokestatic 276, 3), (194, .aload_n 0, 1), (195, .iconst 0, 1), (196, .iload 7, 2), (198, .iload_n 3, 1), (199, .aload_n 0, 1), (200, .getfield 142, 3), (203, .isub, 1), (204, .aload 4, 2), (206, .iload 8, 2), (208, .invokestatic 276, 3), (211, .ixor, 1), (212, .ireturn, 1), (213, .aload_n 0, 1), (214, .iconst 0, 1), (215, .getstatic 331, 3), (218, .iconst 1, 1), (219, .iaload, 1), (220, .iload_n 3, 1), (221, .aload 4, 2), (223, .iload 8, 2), (225, .invokestatic 276, 3), (228, .aload_n 0, 1), (229, .getfield 142, 3), (232, .iadd, 1), (233, .ireturn, 1), (234, .aload_n 0, 1), (235, .iconst 1, 1), (236, .getstatic 331, 3), (239, .iconst 2, 1), (240, .iaload, 1), (241, .iload_n 3, 1), (242, .aload 4, 2), (244, .iload 8, 2), (246, .invokestatic 276, 3), (249, .iconst 3, 1), (250, .imul, 1), (251, .ireturn, 1), (252, .aload_n 0, 1), (253, .iconst 1, 1), (254, .getstatic 331, 3), (257, .iconst 3, 1), (258, .iaload, 1), (259, .iload_n 3, 1), (260, .iconst 1, 1), (261, .iadd, 1), (262, .aload 4, 2), (264, .iload 8, 2), (266, .invokestatic 276, 3), (269, .ireturn, 1), (270, .aload_n 0, 1), (271, .iconst 2, 1), (272, .getstatic 331, 3), (275, .iconst 4, 1), (276, .iaload, 1), (277, .iload_n 3, 1), (278, .aload 4, 2), (280, .iload 8, 2), (282, .invokestatic 276, 3), (285, .ineg, 1), (286, .ireturn, 1), (287, .aload_n 0, 1), (288, .iconst 0, 1), (289, .getstatic 331, 3), (292, .iconst 4, 1), (293, .iaload, 1), (294, .iload_n 3, 1), (295, .aload 4, 2), (297, .iload 8, 2), (299, .invokestatic 276, 3), (302, .aload_n 0, 1), (303, .getfield 328, 3), (306, .isub, 1), (307, .ireturn, 1), (308, .aload_n 0, 1), (309, .iconst 2, 1), (310, .getstatic 331, 3), (313, .iconst 5, 1), (314, .iaload, 1), (315, .iload_n 3, 1), (316, .aload 4, 2), (318, .iload 8, 2), (320, .invokestatic 276, 3), (323, .iconst 5, 1), (324, .ixor, 1), (325, .ireturn, 1), (326, .aload_n 0, 1), (327, .iconst 0, 1), (328, .getstatic 331, 3), (331, .bipush 6, 2), (333, .iaload, 1), (334, .iload_n 3, 1), (335, .aload 4, 2), (337, .iload 8, 2), (339, .invokestatic 276, 3), (342, .iconst 2, 1), (343, .imul, 1), (344, .ireturn, 1), (345, .aload_n 0, 1), (346, .iconst 1, 1), (347, .getstatic 331, 3), (350, .bipush 6, 2), (352, .iaload, 1), (353, .iload_n 3, 1), (354, .aload_n 0, 1), (355, .getfield 142, 3), (358, .isub, 1), (359, .aload 4, 2), (361, .iload 8, 2), (363, .invokestatic 276, 3), (366, .ireturn, 1)]
def cd_113 : List (Nat × Instr × Nat) := [(0, .aload_n 0, 1), (1, .getfield 28, 3), (4, .iload_n 1, 1), (5, .ineg, 1), (6, .dup2, 1), (7, .iaload, 1), (8, .iconst 1, 1), (9, .iadd, 1), (10, .iastore, 1), (11, .iload_n 1, 1), (12, .ireturn, 1)]
def cd_114 : List (Nat × Instr × Nat) := [(0, .aload_n 0, 1), (1, .getfield 28, 3), (4, .iload_n 1, 1), (5, .ineg, 1), (6, .dup2, 1), (7, .iaload, 1), (8, .iconst 1, 1), (9, .iadd, 1), (10, .iastore, 1), (11, .iload_n 1, 1), (12, .bipush 10, 2), (14, .isub, 1), (15, .ireturn, 1)]
def cd_115 : List (Nat × Instr × Nat) := [(0, .iload_n 1, 1), (1, .ifCond .lt 13, 3), (4, .iload_n 1, 1), (5, .bipush 8, 2), (7, .if_icmp .ge 7, 3), (10, .iconst 1, 1), (11, .goto 4, 3), (14, .iconst 0, 1), (15, .ireturn, 1)]
def cd_116 : List (Nat × Instr × Nat) := [(0, .iload_n 1, 1), (1, .ifCond .lt 15, 3), (4, .iload_n 1, 1), (5, .aload_n 0, 1), (6, .getfield 99, 3), (9, .if_icmp .ge 7, 3), (12, .iconst 1, 1), (13, .goto 4, 3), (16, .iconst 0, 1), (17, .ireturn, 1)]
def cd_117 : List (Nat × Instr × Nat) := [(0, .aload_n 0, 1), (1, .iload_n 1, 1), (2, .invokevirtual 102, 3), (5, .ifCond .ne 9, 3), (8, .aload_n 0, 1), (9, .iconst (-1), 1), (10, .invokevirtual 106, 3), (13, .ireturn, 1), (14, .iload_n 3, 1), (15, .ifCond .ge 10, 3), (18, .aload_n 0, 1), (19, .bipush (-4), 2), (21, .invokevirtual 106, 3), (24, .ireturn, 1), (25, .iload_n 2, 1), (26, .ifCond .lt 8, 3), (29, .iload_n 2, 1), (30, .iconst 3, 1), (31, .if_icmp .le 10, 3), (34, .aload_n 0, 1), (35, .bipush (-6), 2), (37, .invokevirtual 106, 3), (40, .ireturn, 1), (41, .iload_n 3, 1), (42, .sipush 160, 3), (45, .if_icmp .le 10, 3), (48, .aload_n 0, 1), (49, .bipush (-7), 2), (51, .invokevirtual 106, 3), (54, .ireturn, 1), (55, .aload_n 0, 1), (56, .getfield 50, 3), (59, .iload_n 1, 1), (60, .iconst 1, 1), (61, .iastore, 1), (62, .aload_n 0, 1), (63, .getfield 53, 3), (66, .iload_n 1, 1), (67, .iload_n 2, 1), (68, .iastore, 1), (69, .aload_n 0, 1), (70, .getfield 56, 3), (73, .iload_n 1, 1), (74, .iload_n 3, 1), (75, .iastore, 1), (76, .iconst 0, 1), (77, .istore 4, 2), (79, .iload 4, 2), (81, .sipush 160, 3), (84, .if_icmp .ge 23, 3), (87, .aload_n 0, 1), (88, .getfield 62, 3), (91, .sipush 160, 3), (94, .iload_n 1, 1), (95, .imul, 1), (96, .iload 4, 2), (98, .iadd, 1), (99, .lconst 0, 1), (100, .lastore, 1), (101, .iinc 4 1, 3), (104, .goto (-25), 3), (107, .iconst 1, 1), (108, .ireturn, 1)]
def cd_118 : List (Nat × Instr × Nat) := [(0, .aload_n 0, 1), (1, .iload_n 1, 1), (2, .invokevirtual 102, 3), (5, .ifCond .ne 9, 3), (8, .aload_n 0, 1), (9, .iconst (-1), 1), (10, .invokevirtual 106, 3), (13, .ireturn, 1), (14, .aload_n 0, 1), (15, .getfield 50, 3), (18, .iload_n 1, 1), (19, .iaload, 1), (20, .iconst 2, 1), (21, .if_icmp .ne 10, 3), (24, .aload_n 0, 1), (25, .bipush (-2), 2), (27, .invokevirtual 106, 3), (30, .ireturn, 1), (31, .aload_n 0, 1), (32, .getfield 50, 3), (35, .iload_n 1, 1), (36, .iaload, 1), (37, .ifCond .ne 10, 3), (40, .aload_n 0, 1), (41, .bipush (-3), 2), (43, .invokevirtual 106, 3), (46, .ireturn, 1), (47, .iload_n 2, 1), (48, .ifCond .lt 13, 3), (51, .iload_n 2, 1), (52, .aload_n 0, 1), (53, .getfield 56, 3), (56, .iload_n 1, 1), (57, .iaload, 1), (58, .if_icmp .lt 10, 3), (61, .aload_n 0, 1), (62, .bipush (-5), 2), (64, .invokevirtual 106, 3), (67, .ireturn, 1), (68, .aload_n 0, 1), (69, .getfield 62, 3), (72, .sipush 160, 3), (75, .iload_n 1, 1), (76, .imul, 1), (77, .iload_n 2, 1), (78, .iadd, 1), (79, .aload_n 0, 1), (80, .getfield 53, 3), (83, .iload_n 1, 1), (84, .iaload, 1), (85, .ifCond .ne 10, 3), (88, .lload_n 3, 1), (89, .l2i, 1), (90, .i2b, 1), (91, .i2l, 1), (92, .goto 37, 3), (95, .aload_n 0, 1), (96, .getfield 53, 3), (99, .iload_n 1, 1), (100, .iaload, 1), (101, .iconst 1, 1), (102, .if_icmp .ne 10, 3), (105, .lload_n 3, 1), (106, .l2i, 1), (107, .i2s, 1), (108, .i2l, 1), (109, .goto 20, 3), (112, .aload_n 0, 1), (113, .getfield 53, 3), (116, .iload_n 1, 1), (117, .iaload, 1), (118, .iconst 2, 1), (119, .if_icmp .ne 9, 3), (122, .lload_n 3, 1), (123, .l2i, 1), (124, .i2l, 1), (125, .goto 4, 3), (128, .lload_n 3, 1), (129, .lastore, 1), (130, .iconst 1, 1), (131, .ireturn, 1)]
def cd_119 : List (Nat × Instr × Nat) := [(0, .aload_n 0, 1), (1, .iload_n 1, 1), (2, .invokevirtual 102, 3), (5, .ifCond .eq 11, 3), (8, .aload_n 0, 1), (9, .iload_n 2, 1), (10, .invokevirtual 102, 3), (13, .ifCond .ne 9, 3), (16, .aload_n 0, 1), (17, .iconst (-1), 1), (18, .invokevirtual 106, 3), (21, .ireturn, 1), (22, .aload_n 0, 1), (23, .getfield 50, 3), (26, .iload_n 1, 1), (27, .iaload, 1), (28, .iconst 2, 1), (29, .if_icmp .eq 48, 3), (32, .aload_n 0, 1), (33, .getfield 50, 3), (36, .iload_n 2, 1), (37, .iaload, 1), (38, .iconst 2, 1), (39, .if_icmp .eq 38, 3), (42, .aload_n 0, 1), (43, .getfield 50, 3), (46, .iload_n 1, 1), (47, .iaload, 1), (48, .iconst 1, 1), (49, .if_icmp .ne 35, 3), (52, .aload_n 0, 1), (53, .getfield 50, 3), (56, .iload_n 2, 1), (57, .iaload, 1), (58, .iconst 1, 1), (59, .if_icmp .ne 25, 3), (62, .aload_n 0, 1), (63, .getfield 53, 3), (66, .iload_n 1, 1), (67, .iaload, 1), (68, .aload_n 0, 1), (69, .getfield 53, 3), (72, .iload_n 2, 1), (73, .iaload, 1), (74, .if_icmp .eq 10, 3), (77, .aload_n 0, 1), (78, .bipush (-2), 2), (80, .invokevirtual 106, 3), (83, .ireturn, 1), (84, .aload_n 0, 1), (85, .getfield 50, 3), (88, .iload_n 1, 1), (89, .iaload, 1), (90, .ifCond .eq 12, 3), (93, .aload_n 0, 1), (94, .getfield 50, 3), (97, .iload_n 2, 1), (98, .iaload, 1), (99, .ifCond .ne 10, 3), (102, .aload_n 0, 1), (103, .bipush (-3), 2), (105, .invokevirtual 106, 3), (108, .ireturn, 1), (109, .iload 5, 2), (111, .ifCond .ge 10, 3), (114, .aload_n 0, 1), (115, .bipush (-4), 2), (117, .invokevirtual 106, 3), (120, .ireturn, 1), (121, .iload_n 3, 1), (122, .ifCond .lt 35, 3), (125, .iload 4, 2), (127, .ifCond .lt 30, 3), (130, .iload_n 3, 1), (131, .aload_n 0, 1), (132, .getfield 56, 3), (135, .iload_n 1, 1), (136, .iaload, 1), (137, .iload 5, 2), (139, .isub, 1), (140, .if_icmp .gt 17, 3), (143, .iload 4, 2), (145, .aload_n 0, 1), (146, .getfield 56, 3), (149, .iload_n 2, 1), (150, .iaload, 1), (151, .iload 5, 2), (153, .isub, 1), (154, .if_icmp .le 10, 3), (157, .aload_n 0, 1), (158, .bipush (-5), 2), (160, .invokevirtual 106, 3), (163, .ireturn, 1), (164, .iconst 0, 1), (165, .istore 6, 2), (167, .iload 6, 2), (169, .iload 5, 2), (171, .if_icmp .ge 31, 3), (174, .aload_n 0, 1), (175, .getfield 66, 3), (178, .iload 6, 2), (180, .aload_n 0, 1), (181, .getfield 62, 3), (184, .sipush 160, 3), (187, .iload_n 1, 1), (188, .imul, 1), (189, .iload_n 3, 1), (190, .iadd, 1), (191, .iload 6, 2), (193, .iadd, 1), (194, .laload, 1), (195, .lastore, 1), (196, .iinc 6 1, 3), (199, .goto (-32), 3), (202, .iconst 0, 1), (203, .istore 6, 2), (205, .iload 6, 2), (207, .iload 5, 2), (209, .if_icmp .ge 32, 3), (212, .aload_n 0, 1), (213, .getfield 62, 3), (216, .sipush 160, 3), (219, .iload_n 2, 1), (220, .imul, 1), (221, .iload 4, 2), (223, .iadd, 1), (224, .iload 6, 2), (226, .iadd, 1), (227, .aload_n 0, 1), (228, .getfield 66, 3), (231, .iload 6, 2), (233, .laload, 1), (234, .lastore, 1), (235, .iinc 6 1, 3), (238, .goto (-33), 3), (241, .iconst 1, 1), (242, .ireturn, 1)]
def cd_120 : List (Nat × Instr × Nat) := [(0, .aload_n 0, 1), (1, .iload_n 1, 1), (2, .invokevirtual 102, 3), (5, .ifCond .eq 42, 3), (8, .aload_n 0, 1), (9, .getfield 50, 3), (12, .iload_n 1, 1), (13, .iaload, 1), (14, .iconst 1, 1), (15, .if_icmp .ne 32, 3), (18, .iload_n 2, 1), (19, .ifCond .lt 28, 3), (22, .iload_n 2, 1), (23, .aload_n 0, 1), (24, .getfield 56, 3), (27, .iload_n 1, 1), (28, .iaload, 1), (29, .if_icmp .ge 18, 3), (32, .aload_n 0, 1), (33, .getfield 62, 3), (36, .sipush 160, 3), (39, .iload_n 1, 1), (40, .imul, 1), (41, .iload_n 2, 1), (42, .iadd, 1), (43, .laload, 1), (44, .goto 4, 3), (47, .lconst 0, 1), (48, .lreturn, 1)]
def cd_121 : List (Nat × Instr × Nat) := [(0, .aload_n 0, 1), (1, .iload_n 1, 1), (2, .invokevirtual 102, 3), (5, .ifCond .eq 16, 3), (8, .iload_n 2, 1), (9, .iconst (-1), 1), (10, .if_icmp .eq 17, 3), (13, .aload_n 0, 1), (14, .iload_n 2, 1), (15, .invokevirtual 110, 3), (18, .ifCond .ne 9, 3), (21, .aload_n 0, 1), (22, .iconst (-1), 1), (23, .invokevirtual 106, 3), (26, .ireturn, 1), (27, .aload_n 0, 1), (28, .getfield 50, 3), (31, .iload_n 1, 1), (32, .iload_n 2, 1), (33, .iconst (-1), 1), (34, .if_icmp .ne 7, 3), (37, .iconst 0, 1), (38, .goto 4, 3), (41, .iconst 2, 1), (42, .iastore, 1), (43, .aload_n 0, 1), (44, .getfield 59, 3), (47, .iload_n 1, 1), (48, .iload_n 2, 1), (49, .iastore, 1), (50, .iload_n 2, 1), (51, .iconst (-1), 1), (52, .if_icmp .ne 7, 3), (55, .iconst 0, 1), (56, .goto 4, 3), (59, .iconst 1, 1), (60, .ireturn, 1)]
def cd_122 : List (Nat × Instr × Nat) := [(0, .aload_n 0, 1), (1, .iload_n 1, 1), (2, .invokevirtual 102, 3), (5, .ifCond .eq 12, 3), (8, .aload_n 0, 1), (9, .getfield 50, 3), (12, .iload_n 1, 1), (13, .iaload, 1), (14, .ifCond .ne 5, 3), (17, .iconst (-1), 1), (18, .ireturn, 1), (19, .aload_n 0, 1), (20, .getfield 50, 3), (23, .iload_n 1, 1), (24, .iaload, 1), (25, .iconst 1, 1), (26, .if_icmp .ne 15, 3), (29, .bipush 100, 2), (31, .aload_n 0, 1), (32, .getfield 53, 3), (35, .iload_n 1, 1), (36, .iaload, 1), (37, .iadd, 1), (38, .goto 9, 3), (41, .aload_n 0, 1), (42, .getfield 59, 3), (45, .iload_n 1, 1), (46, .iaload, 1), (47, .ireturn, 1)]
def cd_123 : List (Nat × Instr × Nat) := [(0, .aload_n 0, 1), (1, .iload_n 1, 1), (2, .invokevirtual 102, 3), (5, .ifCond .eq 13, 3), (8, .iload_n 2, 1), (9, .ifCond .lt 9, 3), (12, .iload_n 2, 1), (13, .bipush 6, 2), (15, .if_icmp .le 9, 3), (18, .aload_n 0, 1), (19, .iconst (-1), 1), (20, .invokevirtual 106, 3), (23, .ireturn, 1), (24, .aload_n 0, 1), (25, .getfield 50, 3), (28, .iload_n 1, 1), (29, .iaload, 1), (30, .iconst 1, 1), (31, .if_icmp .ne 10, 3), (34, .aload_n 0, 1), (35, .bipush (-2), 2), (37, .invokevirtual 106, 3), (40, .ireturn, 1), (41, .aload_n 0, 1), (42, .getfield 50, 3), (45, .iload_n 1, 1), (46, .iaload, 1), (47, .ifCond .ne 10, 3), (50, .aload_n 0, 1), (51, .bipush (-3), 2), (53, .invokevirtual 106, 3), (56, .ireturn, 1), (57, .aload_n 0, 1), (58, .getfield 59, 3), (61, .iload_n 1, 1), (62, .iaload, 1), (63, .istore_n 3, 1), (64, .aload_n 0, 1), (65, .getfield 32, 3), (68, .iload_n 3, 1), (69, .iaload, 1), (70, .istore 4, 2), (72, .iload_n 2, 1), (73, .iconst 1, 1), (74, .if_icmp .ne 9, 3), (77, .iload 4, 2), (79, .iconst 3, 1), (80, .if_icmp .eq 26, 3), (83, .iload_n 2, 1), (84, .iconst 2, 1), (85, .if_icmp .ne 9, 3), (88, .iload 4, 2), (90, .iconst 5, 1), (91, .if_icmp .eq 15, 3), (94, .iload_n 2, 1), (95, .iconst 4, 1), (96, .if_icmp .ne 14, 3), (99, .iload 4, 2), (101, .bipush 6, 2), (103, .if_icmp .ne 7, 3), (106, .iconst 1, 1), (107, .goto 4, 3), (110, .iconst 0, 1), (111, .istore 5, 2), (113, .iload_n 2, 1), (114, .ifCond .eq 21, 3), (117, .iload_n 2, 1), (118, .iload 4, 2), (120, .if_icmp .eq 15, 3), (123, .iload 5, 2), (125, .ifCond .ne 10, 3), (128, .aload_n 0, 1), (129, .bipush (-2), 2), (131, .invokevirtual 106, 3), (134, .ireturn, 1), (135, .iload_n 2, 1), (136, .tableswitch 59 0 5 #[40, 47, 53, 47, 59, 53], 40), (176, .aload_n 0, 1), (177, .getfield 44, 3), (180, .iload_n 3, 1), (181, .iaload, 1), (182, .ireturn, 1), (183, .aload_n 0, 1), (184, .iload_n 3, 1), (185, .invokevirtual 113, 3), (188, .ireturn, 1), (189, .aload_n 0, 1), (190, .iload_n 3, 1), (191, .invokevirtual 116, 3), (194, .ireturn, 1), (195, .aload_n 0, 1), (196, .iload_n 3, 1), (197, .invokevirtual 119, 3), (200, .ireturn, 1)]
def cd_124 : List (Nat × Instr × Nat) := [(0, .aload_n 0, 1), (1, .iload_n 1, 1), (2, .invokevirtual 102, 3), (5, .ifCond .ne 7, 3), (8, .iconst (-1), 1), (9, .goto 33, 3), (12, .aload_n 0, 1), (13, .getfield 50, 3), (16, .iload_n 1, 1), (17, .iaload, 1), (18, .iconst 2, 1), (19, .if_icmp .ne 8, 3), (22, .bipush (-2), 2), (24, .goto 18, 3), (27, .aload_n 0, 1), (28, .getfield 50, 3), (31, .iload_n 1, 1), (32, .iaload, 1), (33, .ifCond .ne 8, 3), (36, .bipush (-3), 2), (38, .goto 4, 3), (41, .iconst 0, 1), (42, .ireturn, 1)]
def cd_125 : List (Nat × Instr × Nat) := [(0, .aload_n 0, 1), (1, .getfield 62, 3), (4, .sipush 160, 3), (7, .iload_n 1, 1), (8, .imul, 1), (9, .iload_n 2, 1), (10, .iadd, 1), (11, .laload, 1), (12, .l2i, 1), (13, .ireturn, 1)]
def cd_126 : List (Nat × Instr × Nat) := [(0, .aload_n 0, 1), (1, .iload_n 1, 1), (2, .invokevirtual 122, 3), (5, .istore_n 3, 1), (6, .iload_n 3, 1), (7, .ifCond .eq 5, 3), (10, .iload_n 3, 1), (11, .ireturn, 1), (12, .iload_n 2, 1), (13, .ifCond .ge 8, 3), (16, .bipush (-4), 2), (18, .goto 19, 3), (21, .iload_n 2, 1), (22, .aload_n 0, 1), (23, .getfield 56, 3), (26, .iload_n 1, 1), (27, .iaload, 1), (28, .if_icmp .le 8, 3), (31, .bipush (-5), 2), (33, .goto 4, 3), (36, .iconst 0, 1), (37, .ireturn, 1)]
def cd_127 : List (Nat × Instr × Nat) := [(0, .aload_n 0, 1), (1, .getfield 32, 3), (4, .aload_n 0, 1), (5, .getfield 99, 3), (8, .iload_n 1, 1), (9, .iastore, 1), (10, .aload_n 0, 1), (11, .getfield 35, 3), (14, .aload_n 0, 1), (15, .getfield 99, 3), (18, .iload_n 2, 1), (19, .iastore, 1), (20, .aload_n 0, 1), (21, .getfield 38, 3), (24, .aload_n 0, 1), (25, .getfield 99, 3), (28, .iconst 0, 1), (29, .iastore, 1), (30, .aload_n 0, 1), (31, .getfield 41, 3), (34, .aload_n 0, 1), (35, .getfield 99, 3), (38, .iconst 0, 1), (39, .iastore, 1), (40, .aload_n 0, 1), (41, .getfield 44, 3), (44, .aload_n 0, 1), (45, .getfield 99, 3), (48, .iconst 0, 1), (49, .iastore, 1), (50, .aload_n 0, 1), (51, .getfield 47, 3), (54, .aload_n 0, 1), (55, .getfield 99, 3), (58, .iconst 0, 1), (59, .iastore, 1), (60, .aload_n 0, 1), (61, .dup, 1), (62, .getfield 99, 3), (65, .dup_x1, 1), (66, .iconst 1, 1), (67, .iadd, 1), (68, .putfield 99, 3), (71, .ireturn, 1)]
def cd_128 : List (Nat × Instr × Nat) := [(0, .iload_n 1, 1), (1, .ifCond .lt 9, 3), (4, .iload_n 1, 1), (5, .bipush 6, 2), (7, .if_icmp .le 9, 3), (10, .aload_n 0, 1), (11, .iconst (-1), 1), (12, .invokevirtual 106, 3), (15, .ireturn, 1), (16, .iload_n 2, 1), (17, .ifCond .lt 9, 3), (20, .iload_n 2, 1), (21, .bipush 9, 2), (23, .if_icmp .le 10, 3), (26, .aload_n 0, 1), (27, .bipush (-6), 2), (29, .invokevirtual 106, 3), (32, .ireturn, 1), (33, .aload_n 0, 1), (34, .getfield 99, 3), (37, .iconst 4, 1), (38, .if_icmp .ne 12, 3), (41, .aload_n 0, 1), (42, .bipush (-7), 2), (44, .invokevirtual 106, 3), (47, .goto 9, 3), (50, .aload_n 0, 1), (51, .iload_n 1, 1), (52, .iload_n 2, 1), (53, .invokevirtual 125, 3), (56, .ireturn, 1)]
def cd_129 : List (Nat × Instr × Nat) := [(0, .aload_n 0, 1), (1, .iload_n 1, 1), (2, .invokevirtual 110, 3), (5, .ifCond .ne 10, 3), (8, .aload_n 0, 1), (9, .bipush (-5), 2), (11, .invokevirtual 106, 3), (14, .ireturn, 1), (15, .iload_n 2, 1), (16, .tableswitch 82 0 5 #[40, 47, 54, 61, 68, 75], 40), (56, .aload_n 0, 1), (57, .getfield 32, 3), (60, .iload_n 1, 1), (61, .iaload, 1), (62, .ireturn, 1), (63, .aload_n 0, 1), (64, .getfield 35, 3), (67, .iload_n 1, 1), (68, .iaload, 1), (69, .ireturn, 1), (70, .aload_n 0, 1), (71, .getfield 38, 3), (74, .iload_n 1, 1), (75, .iaload, 1), (76, .ireturn, 1), (77, .aload_n 0, 1), (78, .getfield 41, 3), (81, .iload_n 1, 1), (82, .iaload, 1), (83, .ireturn, 1), (84, .aload_n 0, 1), (85, .getfield 44, 3), (88, .iload_n 1, 1), (89, .iaload, 1), (90, .ireturn, 1), (91, .aload_n 0, 1), (92, .getfield 47, 3), (95, .iload_n 1, 1), (96, .iaload, 1), (97, .ireturn, 1), (98, .aload_n 0, 1), (99, .bipush (-5), 2), (101, .invokevirtual 106, 3), (104, .ireturn, 1)]
def cd_130 : List (Nat × Instr × Nat) := [(0, .aload_n 0, 1), (1, .iload_n 1, 1), (2, .invokevirtual 110, 3), (5, .ifCond .ne 9, 3), (8, .aload_n 0, 1), (9, .iconst (-1), 1), (10, .invokevirtual 106, 3), (13, .ireturn, 1), (14, .iload_n 2, 1), (15, .ifCond .lt 26, 3), (18, .iload_n 2, 1), (19, .iconst 1, 1), (20, .if_icmp .gt 21, 3), (23, .iload_n 3, 1), (24, .ifCond .lt 17, 3), (27, .iload_n 3, 1), (28, .iload_n 2, 1), (29, .ifCond .ne 7, 3), (32, .iconst 1, 1), (33, .goto 5, 3), (36, .bipush 99, 2), (38, .if_icmp .le 10, 3), (41, .aload_n 0, 1), (42, .bipush (-6), 2), (44, .invokevirtual 106, 3), (47, .ireturn, 1), (48, .iload_n 2, 1), (49, .ifCond .ne 12, 3), (52, .aload_n 0, 1), (53, .getfield 38, 3), (56, .iload_n 1, 1), (57, .iaload, 1), (58, .goto 9, 3), (61, .aload_n 0, 1), (62, .getfield 41, 3), (65, .iload_n 1, 1), (66, .iaload, 1), (67, .istore 4, 2), (69, .iload_n 2, 1), (70, .ifCond .ne 13, 3), (73, .aload_n 0, 1), (74, .getfield 38, 3), (77, .iload_n 1, 1), (78, .iload_n 3, 1), (79, .iastore, 1), (80, .goto 10, 3), (83, .aload_n 0, 1), (84, .getfield 41, 3), (87, .iload_n 1, 1), (88, .iload_n 3, 1), (89, .iastore, 1), (90, .iload 4, 2), (92, .ireturn, 1)]
def cd_131 : List (Nat × Instr × Nat) := [(0, .iload_n 1, 1), (1, .ifCond .lt 28, 3), (4, .iload_n 2, 1), (5, .ifCond .lt 24, 3), (8, .iload_n 1, 1), (9, .iconst 3, 1), (10, .if_icmp .gt 19, 3), (13, .iload_n 2, 1), (14, .iconst 3, 1), (15, .if_icmp .gt 14, 3), (18, .iload_n 1, 1), (19, .iload_n 2, 1), (20, .iadd, 1), (21, .iconst 3, 1), (22, .if_icmp .gt 7, 3), (25, .iconst 1, 1), (26, .goto 4, 3), (29, .iconst 0, 1), (30, .ireturn, 1)]
def cd_132 : List (Nat × Instr × Nat) := [(0, .aload_n 0, 1), (1, .iload_n 1, 1), (2, .iload_n 2, 1), (3, .invokevirtual 129, 3), (6, .ifCond .ne 10, 3), (9, .aload_n 0, 1), (10, .bipush (-6), 2), (12, .invokevirtual 106, 3), (15, .ireturn, 1), (16, .aload_n 0, 1), (17, .iload_n 1, 1), (18, .putfield 7, 3), (21, .aload_n 0, 1), (22, .iload_n 2, 1), (23, .putfield 133, 3), (26, .iload_n 1, 1), (27, .iload_n 2, 1), (28, .iadd, 1), (29, .ireturn, 1)]
def cd_133 : List (Nat × Instr × Nat) := [(0, .iload_n 2, 1), (1, .iload_n 1, 1), (2, .iconst 2, 1), (3, .if_icmp .ge 7, 3), (6, .iconst 0, 1), (7, .goto 4, 3), (10, .iconst 1, 1), (11, .if_icmp .lt 33, 3), (14, .iload_n 2, 1), (15, .iload_n 1, 1), (16, .ifCond .ne 9, 3), (19, .sipush 999, 3), (22, .goto 15, 3), (25, .iload_n 1, 1), (26, .iconst 1, 1), (27, .if_icmp .ne 8, 3), (30, .bipush 99, 2), (32, .goto 5, 3), (35, .bipush 9, 2), (37, .if_icmp .gt 7, 3), (40, .iconst 1, 1), (41, .goto 4, 3), (44, .iconst 0, 1), (45, .ireturn, 1)]
def cd_134 : List (Nat × Instr × Nat) := [(0, .iload_n 1, 1), (1, .ifCond .ne 10, 3), (4, .aload_n 0, 1), (5, .getfield 13, 3), (8, .goto 31, 3), (11, .iload_n 1, 1), (12, .iconst 1, 1), (13, .if_icmp .ne 10, 3), (16, .aload_n 0, 1), (17, .getfield 136, 3), (20, .goto 19, 3), (23, .iload_n 1, 1), (24, .iconst 2, 1), (25, .if_icmp .ne 10, 3), (28, .aload_n 0, 1), (29, .getfield 16, 3), (32, .goto 7, 3), (35, .aload_n 0, 1), (36, .getfield 19, 3), (39, .istore_n 3, 1), (40, .iload_n 1, 1), (41, .tableswitch 51 0 2 #[27, 35, 43], 27), (68, .aload_n 0, 1), (69, .iload_n 2, 1), (70, .putfield 13, 3), (73, .goto 24, 3), (76, .aload_n 0, 1), (77, .iload_n 2, 1), (78, .putfield 136, 3), (81, .goto 16, 3), (84, .aload_n 0, 1), (85, .iload_n 2, 1), (86, .putfield 16, 3), (89, .goto 8, 3), (92, .aload_n 0, 1), (93, .iload_n 2, 1), (94, .putfield 19, 3), (97, .iload_n 3, 1), (98, .ireturn, 1)]
def cd_135 : List (Nat × Instr × Nat) := [(0, .iload_n 1, 1), (1, .ifCond .lt 26, 3), (4, .iload_n 1, 1), (5, .iconst 3, 1), (6, .if_icmp .gt 21, 3), (9, .aload_n 0, 1), (10, .iload_n 1, 1), (11, .iload_n 2, 1), (12, .invokevirtual 139, 3), (15, .ifCond .eq 12, 3), (18, .aload_n 0, 1), (19, .iload_n 1, 1), (20, .iload_n 2, 1), (21, .invokevirtual 142, 3), (24, .goto 9, 3), (27, .aload_n 0, 1), (28, .bipush (-6), 2), (30, .invokevirtual 106, 3), (33, .ireturn, 1)]
def cd_136 : List (Nat × Instr × Nat) := [(0, .aload_n 0, 1), (1, .iload_n 1, 1), (2, .putfield 145, 3), (5, .iconst 0, 1), (6, .ireturn, 1)]
def cd_137 : List (Nat × Instr × Nat) := [(0, .iconst 0, 1), (1, .istore_n 2, 1), (2, .iconst 0, 1), (3, .istore_n 3, 1), (4, .iload_n 3, 1), (5, .iload_n 1, 1), (6, .if_icmp .ge 26, 3), (9, .iload_n 3, 1), (10, .aload_n 0, 1), (11, .getfield 69, 3), (14, .iload_n 2, 1), (15, .iaload, 1), (16, .ifCond .ne 7, 3), (19, .iconst 1, 1), (20, .goto 4, 3), (23, .iconst 0, 1), (24, .iadd, 1), (25, .istore_n 3, 1), (26, .iinc 2 1, 3), (29, .goto (-25), 3), (32, .aload_n 0, 1), (33, .getfield 148, 3), (36, .istore_n 3, 1), (37, .aload_n 0, 1), (38, .getfield 69, 3), (41, .iload_n 2, 1), (42, .iaload, 1), (43, .bipush 32, 2), (45, .if_icmp .le 41, 3), (48, .iload_n 3, 1), (49, .aload_n 0, 1), (50, .getfield 151, 3), (53, .if_icmp .ge 33, 3), (56, .aload_n 0, 1), (57, .getfield 62, 3), (60, .aload_n 0, 1), (61, .getfield 154, 3), (64, .iload_n 3, 1), (65, .iadd, 1), (66, .laload, 1), (67, .l2i, 1), (68, .aload_n 0, 1), (69, .getfield 69, 3), (72, .iload_n 2, 1), (73, .iaload, 1), (74, .if_icmp .ne 12, 3), (77, .iinc 3 1, 3), (80, .iinc 2 1, 3), (83, .goto (-46), 3), (86, .aload_n 0, 1), (87, .getfield 69, 3), (90, .iload_n 2, 1), (91, .iaload, 1), (92, .bipush 32, 2), (94, .if_icmp .gt 7, 3), (97, .iconst 1, 1), (98, .goto 4, 3), (101, .iconst 0, 1), (102, .ireturn, 1)]
def cd_138 : List (Nat × Instr × Nat) := [(0, .iconst 0, 1), (1, .istore_n 1, 1), (2, .aload_n 0, 1), (3, .getfield 148, 3), (6, .istore_n 2, 1), (7, .iconst 0, 1), (8, .istore_n 3, 1), (9, .iload_n 3, 1), (10, .bipush 8, 2), (12, .if_icmp .ge 118, 3), (15, .aload_n 0, 1), (16, .getfield 148, 3), (19, .istore 4, 2), (21, .iload_n 1, 1), (22, .istore 5, 2), (24, .aload_n 0, 1), (25, .getfield 69, 3), (28, .iload 5, 2), (30, .iaload, 1), (31, .ifCond .eq 44, 3), (34, .iload 4, 2), (36, .aload_n 0, 1), (37, .getfield 151, 3), (40, .if_icmp .ge 35, 3), (43, .aload_n 0, 1), (44, .getfield 62, 3), (47, .aload_n 0, 1), (48, .getfield 154, 3), (51, .iload 4, 2), (53, .iadd, 1), (54, .laload, 1), (55, .l2i, 1), (56, .aload_n 0, 1), (57, .getfield 69, 3), (60, .iload 5, 2), (62, .iaload, 1), (63, .if_icmp .ne 12, 3), (66, .iinc 4 1, 3), (69, .iinc 5 1, 3), (72, .goto (-48), 3), (75, .aload_n 0, 1), (76, .getfield 69, 3), (79, .iload 5, 2), (81, .iaload, 1), (82, .ifCond .ne 11, 3), (85, .aload_n 0, 1), (86, .iload 4, 2), (88, .putfield 148, 3), (91, .iload_n 3, 1), (92, .ireturn, 1), (93, .iload 4, 2), (95, .iload_n 2, 1), (96, .if_icmp .le 8, 3), (99, .iload 4, 2), (101, .goto 4, 3), (104, .iload_n 2, 1), (105, .istore_n 2, 1), (106, .aload_n 0, 1), (107, .getfield 69, 3), (110, .iload_n 1, 1), (111, .iaload, 1), (112, .ifCond .eq 9, 3), (115, .iinc 1 1, 3), (118, .goto (-12), 3), (121, .iinc 1 1, 3), (124, .iinc 3 1, 3), (127, .goto (-118), 3), (130, .aload_n 0, 1), (131, .iload_n 2, 1), (132, .putfield 145, 3), (135, .iconst (-1), 1), (136, .ireturn, 1)]
def cd_139 : List (Nat × Instr × Nat) := [(0, .aload_n 0, 1), (1, .getfield 148, 3), (4, .aload_n 0, 1), (5, .getfield 151, 3), (8, .if_icmp .ge 47, 3), (11, .aload_n 0, 1), (12, .getfield 62, 3), (15, .aload_n 0, 1), (16, .getfield 154, 3), (19, .aload_n 0, 1), (20, .getfield 148, 3), (23, .iadd, 1), (24, .laload, 1), (25, .l2i, 1), (26, .bipush 48, 2), (28, .if_icmp .lt 27, 3), (31, .aload_n 0, 1), (32, .getfield 62, 3), (35, .aload_n 0, 1), (36, .getfield 154, 3), (39, .aload_n 0, 1), (40, .getfield 148, 3), (43, .iadd, 1), (44, .laload, 1), (45, .l2i, 1), (46, .bipush 57, 2), (48, .if_icmp .gt 7, 3), (51, .iconst 1, 1), (52, .goto 4, 3), (55, .iconst 0, 1), (56, .ireturn, 1)]
def cd_140 : List (Nat × Instr × Nat) := [(0, .aload_n 0, 1), (1, .iconst 0, 1), (2, .putfield 157, 3), (5, .aload_n 0, 1), (6, .invokevirtual 160, 3), (9, .ifCond .ne 12, 3), (12, .aload_n 0, 1), (13, .aload_n 0, 1), (14, .getfield 148, 3), (17, .invokevirtual 164, 3), (20, .ireturn, 1), (21, .iconst 0, 1), (22, .istore_n 1, 1), (23, .iload_n 1, 1), (24, .iconst 3, 1), (25, .if_icmp .ge 56, 3), (28, .aload_n 0, 1), (29, .invokevirtual 160, 3), (32, .ifCond .eq 49, 3), (35, .aload_n 0, 1), (36, .bipush 10, 2), (38, .aload_n 0, 1), (39, .getfield 157, 3), (42, .imul, 1), (43, .aload_n 0, 1), (44, .getfield 62, 3), (47, .aload_n 0, 1), (48, .getfield 154, 3), (51, .aload_n 0, 1), (52, .getfield 148, 3), (55, .iadd, 1), (56, .laload, 1), (57, .l2i, 1), (58, .iadd, 1), (59, .bipush 48, 2), (61, .isub, 1), (62, .putfield 157, 3), (65, .aload_n 0, 1), (66, .dup, 1), (67, .getfield 148, 3), (70, .iconst 1, 1), (71, .iadd, 1), (72, .putfield 148, 3), (75, .iinc 1 1, 3), (78, .goto (-55), 3), (81, .iconst 1, 1), (82, .ireturn, 1)]
def cd_141 : List (Nat × Instr × Nat) := [(0, .iload_n 1, 1), (1, .tableswitch 151 0 6 #[43, 67, 67, 84, 119, 129, 139], 43), (44, .aload_n 0, 1), (45, .getfield 157, 3), (48, .iload_n 2, 1), (49, .ifCond .ne 8, 3), (52, .bipush 6, 2), (54, .goto 5, 3), (57, .bipush 9, 2), (59, .if_icmp .gt 7, 3), (62, .iconst 1, 1), (63, .goto 4, 3), (66, .iconst 0, 1), (67, .ireturn, 1), (68, .aload_n 0, 1), (69, .getfield 157, 3), (72, .aload_n 0, 1), (73, .getfield 99, 3), (76, .if_icmp .ge 7, 3), (79, .iconst 1, 1), (80, .goto 4, 3), (83, .iconst 0, 1), (84, .ireturn, 1), (85, .aload_n 0, 1), (86, .getfield 157, 3), (89, .iconst 3, 1), (90, .if_icmp .gt 28, 3), (93, .iload_n 2, 1), (94, .ifCond .eq 20, 3), (97, .aload_n 0, 1), (98, .aload_n 0, 1), (99, .getfield 75, 3), (102, .iconst 0, 1), (103, .iaload, 1), (104, .aload_n 0, 1), (105, .getfield 157, 3), (108, .invokevirtual 129, 3), (111, .ifCond .eq 7, 3), (114, .iconst 1, 1), (115, .goto 4, 3), (118, .iconst 0, 1), (119, .ireturn, 1), (120, .aload_n 0, 1), (121, .iconst 0, 1), (122, .aload_n 0, 1), (123, .getfield 157, 3), (126, .invokevirtual 139, 3), (129, .ireturn, 1), (130, .aload_n 0, 1), (131, .iconst 1, 1), (132, .aload_n 0, 1), (133, .getfield 157, 3), (136, .invokevirtual 139, 3), (139, .ireturn, 1), (140, .aload_n 0, 1), (141, .iconst 2, 1), (142, .iload_n 2, 1), (143, .iadd, 1), (144, .aload_n 0, 1), (145, .getfield 157, 3), (148, .invokevirtual 139, 3), (151, .ireturn, 1), (152, .aload_n 0, 1), (153, .aload_n 0, 1), (154, .getfield 157, 3), (157, .invokevirtual 167, 3), (160, .ireturn, 1)]
def cd_142 : List (Nat × Instr × Nat) := [(0, .aload_n 0, 1), (1, .iconst 0, 1), (2, .invokevirtual 170, 3), (5, .ifCond .eq 20, 3), (8, .aload_n 0, 1), (9, .getfield 99, 3), (12, .iconst 4, 1), (13, .if_icmp .ne 12, 3), (16, .aload_n 0, 1), (17, .aload_n 0, 1), (18, .getfield 148, 3), (21, .invokevirtual 164, 3), (24, .ireturn, 1), (25, .aload_n 0, 1), (26, .invokevirtual 173, 3), (29, .istore_n 1, 1), (30, .iload_n 1, 1), (31, .iconst (-1), 1), (32, .if_icmp .ne 5, 3), (35, .iconst 0, 1), (36, .ireturn, 1), (37, .iconst 0, 1), (38, .istore_n 2, 1), (39, .iload_n 2, 1), (40, .aload_n 0, 1), (41, .getfield 72, 3), (44, .iload_n 1, 1), (45, .iaload, 1), (46, .if_icmp .ge 102, 3), (49, .iload_n 2, 1), (50, .ifCond .le 53, 3), (53, .aload_n 0, 1), (54, .getfield 148, 3), (57, .aload_n 0, 1), (58, .getfield 151, 3), (61, .if_icmp .ge 23, 3), (64, .aload_n 0, 1), (65, .getfield 62, 3), (68, .aload_n 0, 1), (69, .getfield 154, 3), (72, .aload_n 0, 1), (73, .getfield 148, 3), (76, .iadd, 1), (77, .laload, 1), (78, .l2i, 1), (79, .bipush 32, 2), (81, .if_icmp .eq 12, 3), (84, .aload_n 0, 1), (85, .aload_n 0, 1), (86, .getfield 148, 3), (89, .invokevirtual 164, 3), (92, .ireturn, 1), (93, .aload_n 0, 1), (94, .dup, 1), (95, .getfield 148, 3), (98, .iconst 1, 1), (99, .iadd, 1), (100, .putfield 148, 3), (103, .aload_n 0, 1), (104, .getfield 148, 3), (107, .istore_n 3, 1), (108, .aload_n 0, 1), (109, .invokevirtual 177, 3), (112, .ifCond .ne 5, 3), (115, .iconst 0, 1), (116, .ireturn, 1), (117, .aload_n 0, 1), (118, .iload_n 1, 1), (119, .iload_n 2, 1), (120, .invokevirtual 180, 3), (123, .ifCond .ne 9, 3), (126, .aload_n 0, 1), (127, .iload_n 3, 1), (128, .invokevirtual 164, 3), (131, .ireturn, 1), (132, .aload_n 0, 1), (133, .getfield 75, 3), (136, .iload_n 2, 1), (137, .aload_n 0, 1), (138, .getfield 157, 3), (141, .iastore, 1), (142, .iinc 2 1, 3), (145, .goto (-106), 3), (148, .iload_n 1, 1), (149, .tableswitch 147 0 6 #[43, 63, 63, 80, 103, 103, 120], 43), (192, .aload_n 0, 1), (193, .aload_n 0, 1), (194, .getfield 75, 3), (197, .iconst 0, 1), (198, .iaload, 1), (199, .aload_n 0, 1), (200, .getfield 75, 3), (203, .iconst 1, 1), (204, .iaload, 1), (205, .invokevirtual 125, 3), (208, .pop, 1), (209, .goto 97, 3), (212, .aload_n 0, 1), (213, .getfield 38, 3), (216, .aload_n 0, 1), (217, .getfield 75, 3), (220, .iconst 0, 1), (221, .iaload, 1), (222, .iconst 2, 1), (223, .iload_n 1, 1), (224, .isub, 1), (225, .iastore, 1), (226, .goto 80, 3), (229, .aload_n 0, 1), (230, .aload_n 0, 1), (231, .getfield 75, 3), (234, .iconst 0, 1), (235, .iaload, 1), (236, .putfield 7, 3), (239, .aload_n 0, 1), (240, .aload_n 0, 1), (241, .getfield 75, 3), (244, .iconst 1, 1), (245, .iaload, 1), (246, .putfield 133, 3), (249, .goto 57, 3), (252, .aload_n 0, 1), (253, .iload_n 1, 1), (254, .iconst 4, 1), (255, .isub, 1), (256, .aload_n 0, 1), (257, .getfield 75, 3), (260, .iconst 0, 1), (261, .iaload, 1), (262, .invokevirtual 142, 3), (265, .pop, 1), (266, .goto 40, 3), (269, .aload_n 0, 1), (270, .iconst 2, 1), (271, .aload_n 0, 1), (272, .getfield 75, 3), (275, .iconst 0, 1), (276, .iaload, 1), (277, .invokevirtual 142, 3), (280, .pop, 1), (281, .aload_n 0, 1), (282, .iconst 3, 1), (283, .aload_n 0, 1), (284, .getfield 75, 3), (287, .iconst 1, 1), (288, .iaload, 1), (289, .invokevirtual 142, 3), (292, .pop, 1), (293, .goto 13, 3), (296, .aload_n 0, 1), (297, .aload_n 0, 1), (298, .getfield 75, 3), (301, .iconst 0, 1), (302, .iaload, 1), (303, .invokevirtual 183, 3), (306, .iconst 1, 1), (307, .ireturn, 1)]
def cd_143 : List (Nat × Instr × Nat) := [(0, .iconst 0, 1), (1, .istore 5, 2), (3, .iload 5, 2), (5, .iconst 4, 1), (6, .if_icmp .ge 37, 3), (9, .iload 4, 2), (11, .ifCond .eq 16, 3), (14, .aload_n 1, 1), (15, .iload 5, 2), (17, .aload_n 2, 1), (18, .iload_n 3, 1), (19, .iload 5, 2), (21, .iadd, 1), (22, .iaload, 1), (23, .iastore, 1), (24, .goto 13, 3), (27, .aload_n 2, 1), (28, .iload_n 3, 1), (29, .iload 5, 2), (31, .iadd, 1), (32, .aload_n 1, 1), (33, .iload 5, 2), (35, .iaload, 1), (36, .iastore, 1), (37, .iinc 5 1, 3), (40, .goto (-37), 3), (43, .iload_n 3, 1), (44, .iconst 4, 1), (45, .iadd, 1), (46, .ireturn, 1)]
def cd_144 : List (Nat × Instr × Nat) := [(0, .aload_n 0, 1), (1, .aload_n 0, 1), (2, .getfield 32, 3), (5, .aload_n 1, 1), (6, .iload_n 2, 1), (7, .iload_n 3, 1), (8, .invokevirtual 187, 3), (11, .istore 4, 2), (13, .aload_n 0, 1), (14, .aload_n 0, 1), (15, .getfield 35, 3), (18, .aload_n 1, 1), (19, .iload 4, 2), (21, .iload_n 3, 1), (22, .invokevirtual 187, 3), (25, .istore 4, 2), (27, .aload_n 0, 1), (28, .aload_n 0, 1), (29, .getfield 38, 3), (32, .aload_n 1, 1), (33, .iload 4, 2), (35, .iload_n 3, 1), (36, .invokevirtual 187, 3), (39, .istore 4, 2), (41, .aload_n 0, 1), (42, .aload_n 0, 1), (43, .getfield 41, 3), (46, .aload_n 1, 1), (47, .iload 4, 2), (49, .iload_n 3, 1), (50, .invokevirtual 187, 3), (53, .istore 4, 2), (55, .aload_n 0, 1), (56, .aload_n 0, 1), (57, .getfield 44, 3), (60, .aload_n 1, 1), (61, .iload 4, 2), (63, .iload_n 3, 1), (64, .invokevirtual 187, 3), (67, .istore 4, 2), (69, .aload_n 0, 1), (70, .aload_n 0, 1), (71, .getfield 47, 3), (74, .aload_n 1, 1), (75, .iload 4, 2), (77, .iload_n 3, 1), (78, .invokevirtual 187, 3), (81, .istore 4, 2), (83, .iload_n 3, 1), (84, .ifCond .eq 86, 3), (87, .aload_n 0, 1), (88, .aload_n 1, 1), (89, .iload 4, 2), (91, .iaload, 1), (92, .putfield 99, 3), (95, .aload_n 0, 1), (96, .aload_n 1, 1), (97, .iload 4, 2), (99, .iconst 1, 1), (100, .iadd, 1), (101, .iaload, 1), (102, .putfield 7, 3), (105, .aload_n 0, 1), (106, .aload_n 1, 1), (107, .iload 4, 2), (109, .iconst 2, 1), (110, .iadd, 1), (111, .iaload, 1), (112, .putfield 133, 3), (115, .aload_n 0, 1), (116, .aload_n 1, 1), (117, .iload 4, 2), (119, .iconst 3, 1), (120, .iadd, 1), (121, .iaload, 1), (122, .putfield 13, 3), (125, .aload_n 0, 1), (126, .aload_n 1, 1), (127, .iload 4, 2), (129, .iconst 4, 1), (130, .iadd, 1), (131, .iaload, 1), (132, .putfield 136, 3), (135, .aload_n 0, 1), (136, .aload_n 1, 1), (137, .iload 4, 2), (139, .iconst 5, 1), (140, .iadd, 1), (141, .iaload, 1), (142, .putfield 16, 3), (145, .aload_n 0, 1), (146, .aload_n 1, 1), (147, .iload 4, 2), (149, .bipush 6, 2), (151, .iadd, 1), (152, .iaload, 1), (153, .putfield 19, 3), (156, .aload_n 0, 1), (157, .aload_n 1, 1), (158, .iload 4, 2), (160, .bipush 7, 2), (162, .iadd, 1), (163, .iaload, 1), (164, .putfield 22, 3), (167, .goto 83, 3), (170, .aload_n 1, 1), (171, .iload 4, 2), (173, .aload_n 0, 1), (174, .getfield 99, 3), (177, .iastore, 1), (178, .aload_n 1, 1), (179, .iload 4, 2), (181, .iconst 1, 1), (182, .iadd, 1), (183, .aload_n 0, 1), (184, .getfield 7, 3), (187, .iastore, 1), (188, .aload_n 1, 1), (189, .iload 4, 2), (191, .iconst 2, 1), (192, .iadd, 1), (193, .aload_n 0, 1), (194, .getfield 133, 3), (197, .iastore, 1), (198, .aload_n 1, 1), (199, .iload 4, 2), (201, .iconst 3, 1), (202, .iadd, 1), (203, .aload_n 0, 1), (204, .getfield 13, 3), (207, .iastore, 1), (208, .aload_n 1, 1), (209, .iload 4, 2), (211, .iconst 4, 1), (212, .iadd, 1), (213, .aload_n 0, 1), (214, .getfield 136, 3), (217, .iastore, 1), (218, .aload_n 1, 1), (219, .iload 4, 2), (221, .iconst 5, 1), (222, .iadd, 1), (223, .aload_n 0, 1), (224, .getfield 16, 3), (227, .iastore, 1), (228, .aload_n 1, 1), (229, .iload 4, 2), (231, .bipush 6, 2), (233, .iadd, 1), (234, .aload_n 0, 1), (235, .getfield 19, 3), (238, .iastore, 1), (239, .aload_n 1, 1), (240, .iload 4, 2), (242, .bipush 7, 2), (244, .iadd, 1), (245, .aload_n 0, 1), (246, .getfield 22, 3), (249, .iastore, 1), (250, .return_, 1)]
def cd_145 : List (Nat × Instr × Nat) := [(0, .aload_n 0, 1), (1, .iload_n 1, 1), (2, .invokevirtual 122, 3), (5, .istore_n 2, 1), (6, .iload_n 2, 1), (7, .ifCond .eq 9, 3), (10, .aload_n 0, 1), (11, .iload_n 2, 1), (12, .invokevirtual 106, 3), (15, .ireturn, 1), (16, .aload_n 0, 1), (17, .aload_n 0, 1), (18, .getfield 78, 3), (21, .iconst 0, 1), (22, .iconst 0, 1), (23, .invokevirtual 191, 3), (26, .aload_n 0, 1), (27, .sipush 160, 3), (30, .iload_n 1, 1), (31, .imul, 1), (32, .putfield 154, 3), (35, .aload_n 0, 1), (36, .iconst 0, 1), (37, .putfield 148, 3), (40, .aload_n 0, 1), (41, .aload_n 0, 1), (42, .getfield 56, 3), (45, .iload_n 1, 1), (46, .iaload, 1), (47, .putfield 151, 3), (50, .aload_n 0, 1), (51, .iconst (-1), 1), (52, .putfield 25, 3), (55, .iconst 1, 1), (56, .istore_n 3, 1), (57, .aload_n 0, 1), (58, .invokevirtual 195, 3), (61, .istore 4, 2), (63, .iload 4, 2), (65, .ifCond .eq 69, 3), (68, .aload_n 0, 1), (69, .getfield 148, 3), (72, .aload_n 0, 1), (73, .getfield 151, 3), (76, .if_icmp .ge 58, 3), (79, .aload_n 0, 1), (80, .getfield 62, 3), (83, .aload_n 0, 1), (84, .getfield 154, 3), (87, .aload_n 0, 1), (88, .getfield 148, 3), (91, .iadd, 1), (92, .laload, 1), (93, .l2i, 1), (94, .bipush 59, 2), (96, .if_icmp .eq 16, 3), (99, .aload_n 0, 1), (100, .aload_n 0, 1), (101, .getfield 148, 3), (104, .invokevirtual 164, 3), (107, .istore 4, 2), (109, .goto (-46), 3), (112, .aload_n 0, 1), (113, .dup, 1), (114, .getfield 148, 3), (117, .iconst 1, 1), (118, .iadd, 1), (119, .putfield 148, 3), (122, .iinc 3 1, 3), (125, .aload_n 0, 1), (126, .invokevirtual 195, 3), (129, .istore 4, 2), (131, .goto (-68), 3), (134, .iload 4, 2), (136, .ifCond .eq 5, 3), (139, .iload_n 3, 1), (140, .ireturn, 1), (141, .aload_n 0, 1), (142, .aload_n 0, 1), (143, .getfield 78, 3), (146, .iconst 0, 1), (147, .iconst 1, 1), (148, .invokevirtual 191, 3), (151, .aload_n 0, 1), (152, .aload_n 0, 1), (153, .getfield 145, 3), (156, .putfield 25, 3), (159, .aload_n 0, 1), (160, .bipush (-6), 2), (162, .invokevirtual 106, 3), (165, .ireturn, 1)]
def cd_146 : List (Nat × Instr × Nat) := [(0, .aload_n 0, 1), (1, .getfield 25, 3), (4, .ireturn, 1)]
def cd_147 : List (Nat × Instr × Nat) := [(0, .iload_n 1, 1), (1, .iconst 1, 1), (2, .if_icmp .ge 7, 3), (5, .iconst 1, 1), (6, .goto 4, 3), (9, .iload_n 1, 1), (10, .ireturn, 1)]
def cd_148 : List (Nat × Instr × Nat) := [(0, .aload_n 0, 1), (1, .getfield 32, 3), (4, .iload_n 1, 1), (5, .iaload, 1), (6, .istore_n 2, 1), (7, .aload_n 0, 1), (8, .aload_n 0, 1), (9, .getfield 19, 3), (12, .iload_n 2, 1), (13, .iconst 1, 1), (14, .if_icmp .ne 7, 3), (17, .iconst 1, 1), (18, .goto 28, 3), (21, .iload_n 2, 1), (22, .iconst 3, 1), (23, .if_icmp .ne 7, 3), (26, .iconst 2, 1), (27, .goto 19, 3), (30, .iload_n 2, 1), (31, .iconst 4, 1), (32, .if_icmp .eq 9, 3), (35, .iload_n 2, 1), (36, .bipush 6, 2), (38, .if_icmp .ne 7, 3), (41, .iconst (-1), 1), (42, .goto 4, 3), (45, .iconst 0, 1), (46, .isub, 1), (47, .invokevirtual 198, 3), (50, .ireturn, 1)]
def cd_149 : List (Nat × Instr × Nat) := [(0, .aload_n 0, 1), (1, .getfield 32, 3), (4, .iload_n 1, 1), (5, .iaload, 1), (6, .istore_n 2, 1), (7, .aload_n 0, 1), (8, .getfield 16, 3), (11, .aload_n 0, 1), (12, .getfield 41, 3), (15, .iload_n 1, 1), (16, .iaload, 1), (17, .bipush 10, 2), (19, .idiv, 1), (20, .iadd, 1), (21, .istore_n 3, 1), (22, .iload_n 2, 1), (23, .bipush 6, 2), (25, .if_icmp .ne 11, 3), (28, .aload_n 0, 1), (29, .iconst 2, 1), (30, .iload_n 3, 1), (31, .imul, 1), (32, .invokevirtual 198, 3), (35, .ireturn, 1), (36, .aload_n 0, 1), (37, .iload_n 3, 1), (38, .iload_n 2, 1), (39, .iconst 2, 1), (40, .if_icmp .ne 7, 3), (43, .iconst 2, 1), (44, .goto 23, 3), (47, .iload_n 2, 1), (48, .iconst 5, 1), (49, .if_icmp .ne 7, 3), (52, .iconst 3, 1), (53, .goto 14, 3), (56, .iload_n 2, 1), (57, .iconst 4, 1), (58, .if_icmp .ne 8, 3), (61, .bipush (-2), 2), (63, .goto 4, 3), (66, .iconst 0, 1), (67, .isub, 1), (68, .invokevirtual 198, 3), (71, .ireturn, 1)]
def cd_150 : List (Nat × Instr × Nat) := [(0, .aload_n 0, 1), (1, .getfield 16, 3), (4, .iconst 2, 1), (5, .idiv, 1), (6, .aload_n 0, 1), (7, .getfield 41, 3), (10, .iload_n 1, 1), (11, .iaload, 1), (12, .bipush 10, 2), (14, .idiv, 1), (15, .iadd, 1), (16, .iconst 1, 1), (17, .iadd, 1), (18, .ireturn, 1)]
def cd_151 : List (Nat × Instr × Nat) := [(0, .iload_n 1, 1), (1, .sipush 700, 3), (4, .if_icmp .ne 5, 3), (7, .iconst 1, 1), (8, .ireturn, 1), (9, .iload_n 1, 1), (10, .bipush 100, 2), (12, .idiv, 1), (13, .istore_n 2, 1), (14, .iload_n 1, 1), (15, .bipush 10, 2), (17, .idiv, 1), (18, .bipush 10, 2), (20, .irem, 1), (21, .istore_n 3, 1), (22, .iload_n 1, 1), (23, .bipush 10, 2), (25, .irem, 1), (26, .istore 4, 2), (28, .iload_n 1, 1), (29, .ifCond .lt 17, 3), (32, .iload_n 2, 1), (33, .bipush 6, 2), (35, .if_icmp .gt 11, 3), (38, .aload_n 0, 1), (39, .iload_n 3, 1), (40, .invokevirtual 110, 3), (43, .ifCond .ne 5, 3), (46, .iconst 0, 1), (47, .ireturn, 1), (48, .iload_n 2, 1), (49, .iconst 1, 1), (50, .if_icmp .eq 8, 3), (53, .iload_n 2, 1), (54, .iconst 3, 1), (55, .if_icmp .ne 26, 3), (58, .iload 4, 2), (60, .iload_n 3, 1), (61, .if_icmp .le 16, 3), (64, .aload_n 0, 1), (65, .iload 4, 2), (67, .invokevirtual 110, 3), (70, .ifCond .eq 7, 3), (73, .iconst 1, 1), (74, .goto 17, 3), (77, .iconst 0, 1), (78, .goto 13, 3), (81, .iload 4, 2), (83, .ifCond .ne 7, 3), (86, .iconst 1, 1), (87, .goto 4, 3), (90, .iconst 0, 1), (91, .ireturn, 1)]
def cd_152 : List (Nat × Instr × Nat) := [(0, .iload_n 1, 1), (1, .bipush 100, 2), (3, .idiv, 1), (4, .istore_n 2, 1), (5, .iload_n 1, 1), (6, .bipush 10, 2), (8, .idiv, 1), (9, .bipush 10, 2), (11, .irem, 1), (12, .istore_n 3, 1), (13, .iload_n 1, 1), (14, .bipush 10, 2), (16, .irem, 1), (17, .istore 4, 2), (19, .iload_n 2, 1), (20, .tableswitch 125 0 6 #[44, 50, 85, 91, 110, 116, 118], 44), (64, .aload_n 0, 1), (65, .iload_n 3, 1), (66, .invokevirtual 113, 3), (69, .ireturn, 1), (70, .aload_n 0, 1), (71, .aload_n 0, 1), (72, .iload_n 3, 1), (73, .invokevirtual 113, 3), (76, .aload_n 0, 1), (77, .iload 4, 2), (79, .invokevirtual 113, 3), (82, .if_icmp .ge 11, 3), (85, .aload_n 0, 1), (86, .iload_n 3, 1), (87, .invokevirtual 113, 3), (90, .goto 9, 3), (93, .aload_n 0, 1), (94, .iload 4, 2), (96, .invokevirtual 113, 3), (99, .iconst 1, 1), (100, .isub, 1), (101, .invokevirtual 198, 3), (104, .ireturn, 1), (105, .aload_n 0, 1), (106, .iload_n 3, 1), (107, .invokevirtual 116, 3), (110, .ireturn, 1), (111, .aload_n 0, 1), (112, .aload_n 0, 1), (113, .iload_n 3, 1), (114, .invokevirtual 116, 3), (117, .aload_n 0, 1), (118, .iload 4, 2), (120, .invokevirtual 116, 3), (123, .iadd, 1), (124, .iconst 2, 1), (125, .idiv, 1), (126, .invokevirtual 198, 3), (129, .ireturn, 1), (130, .aload_n 0, 1), (131, .iload_n 3, 1), (132, .invokevirtual 119, 3), (135, .ireturn, 1), (136, .iconst 2, 1), (137, .ireturn, 1), (138, .aload_n 0, 1), (139, .getfield 19, 3), (142, .iconst 1, 1), (143, .iadd, 1), (144, .ireturn, 1), (145, .iconst 5, 1), (146, .ireturn, 1)]
def cd_153 : List (Nat × Instr × Nat) := [(0, .iload_n 1, 1), (1, .iconst 2, 1), (2, .if_icmp .lt 9, 3), (5, .iload_n 1, 1), (6, .bipush 6, 2), (8, .if_icmp .ne 7, 3), (11, .iconst 1, 1), (12, .goto 4, 3), (15, .iconst 0, 1), (16, .ireturn, 1)]
def cd_154 : List (Nat × Instr × Nat) := [(0, .aload_n 0, 1), (1, .iload_n 1, 1), (2, .invokevirtual 201, 3), (5, .ifCond .eq 15, 3), (8, .aload_n 0, 1), (9, .iload_n 1, 1), (10, .invokevirtual 204, 3), (13, .aload_n 0, 1), (14, .getfield 13, 3), (17, .if_icmp .le 5, 3), (20, .iconst 0, 1), (21, .ireturn, 1), (22, .iload_n 1, 1), (23, .bipush 100, 2), (25, .idiv, 1), (26, .istore_n 2, 1), (27, .iload_n 1, 1), (28, .bipush 10, 2), (30, .idiv, 1), (31, .bipush 10, 2), (33, .irem, 1), (34, .istore_n 3, 1), (35, .iload_n 1, 1), (36, .bipush 10, 2), (38, .irem, 1), (39, .istore 4, 2), (41, .iload_n 2, 1), (42, .bipush 7, 2), (44, .if_icmp .ne 5, 3), (47, .iconst 1, 1), (48, .ireturn, 1), (49, .aload_n 0, 1), (50, .iload_n 2, 1), (51, .invokevirtual 207, 3), (54, .ifCond .eq 7, 3), (57, .iconst 1, 1), (58, .goto 4, 3), (61, .iconst 0, 1), (62, .istore 5, 2), (64, .aload_n 0, 1), (65, .getfield 38, 3), (68, .iload_n 3, 1), (69, .iaload, 1), (70, .iload 5, 2), (72, .if_icmp .ne 25, 3), (75, .iload_n 2, 1), (76, .iconst 1, 1), (77, .if_icmp .eq 8, 3), (80, .iload_n 2, 1), (81, .iconst 3, 1), (82, .if_icmp .ne 17, 3), (85, .aload_n 0, 1), (86, .getfield 38, 3), (89, .iload 4, 2), (91, .iaload, 1), (92, .iload 5, 2), (94, .if_icmp .eq 5, 3), (97, .iconst 0, 1), (98, .ireturn, 1), (99, .iload_n 2, 1), (100, .iconst 2, 1), (101, .if_icmp .ge 16, 3), (104, .aload_n 0, 1), (105, .getfield 133, 3), (108, .ifCond .le 7, 3), (111, .iconst 1, 1), (112, .goto 4, 3), (115, .iconst 0, 1), (116, .ireturn, 1), (117, .iload_n 2, 1), (118, .iconst 4, 1), (119, .if_icmp .eq 9, 3), (122, .iload_n 2, 1), (123, .bipush 6, 2), (125, .if_icmp .ne 5, 3), (128, .iconst 1, 1), (129, .ireturn, 1), (130, .aload_n 0, 1), (131, .getfield 7, 3), (134, .ifCond .le 19, 3), (137, .iload_n 2, 1), (138, .iconst 5, 1), (139, .if_icmp .ne 10, 3), (142, .aload_n 0, 1), (143, .getfield 136, 3), (146, .ifCond .le 7, 3), (149, .iconst 1, 1), (150, .goto 4, 3), (153, .iconst 0, 1), (154, .ireturn, 1)]
def cd_155 : List (Nat × Instr × Nat) := [(0, .aload_n 0, 1), (1, .getfield 32, 3), (4, .iload_n 1, 1), (5, .iaload, 1), (6, .iconst 2, 1), (7, .if_icmp .eq 13, 3), (10, .aload_n 0, 1), (11, .getfield 32, 3), (14, .iload_n 1, 1), (15, .iaload, 1), (16, .iconst 5, 1), (17, .if_icmp .ne 7, 3), (20, .iconst 5, 1), (21, .goto 12, 3), (24, .bipush 8, 2), (26, .aload_n 0, 1), (27, .getfield 35, 3), (30, .iload_n 1, 1), (31, .iaload, 1), (32, .iadd, 1), (33, .ireturn, 1)]
def cd_156 : List (Nat × Instr × Nat) := [(0, .iload_n 1, 1), (1, .bipush 100, 2), (3, .idiv, 1), (4, .istore_n 2, 1), (5, .iload_n 1, 1), (6, .bipush 10, 2), (8, .idiv, 1), (9, .bipush 10, 2), (11, .irem, 1), (12, .istore_n 3, 1), (13, .iload_n 1, 1), (14, .bipush 10, 2), (16, .irem, 1), (17, .istore 4, 2), (19, .aload_n 0, 1), (20, .iload_n 1, 1), (21, .invokevirtual 204, 3), (24, .istore 5, 2), (26, .iload_n 2, 1), (27, .iconst 1, 1), (28, .if_icmp .eq 8, 3), (31, .iload_n 2, 1), (32, .iconst 3, 1), (33, .if_icmp .ne 7, 3), (36, .iconst 1, 1), (37, .goto 4, 3), (40, .iconst 0, 1), (41, .istore 6, 2), (43, .aload_n 0, 1), (44, .dup, 1), (45, .getfield 13, 3), (48, .iload 5, 2), (50, .isub, 1), (51, .putfield 13, 3), (54, .iconst 0, 1), (55, .istore 7, 2), (57, .iload 7, 2), (59, .aload_n 0, 1), (60, .getfield 99, 3), (63, .if_icmp .ge 210, 3), (66, .iload_n 2, 1), (67, .bipush 7, 2), (69, .if_icmp .eq 25, 3), (72, .iload 7, 2), (74, .iload_n 3, 1), (75, .if_icmp .eq 15, 3), (78, .iload 6, 2), (80, .ifCond .eq 14, 3), (83, .iload 7, 2), (85, .iload 4, 2), (87, .if_icmp .ne 7, 3), (90, .iconst 1, 1), (91, .goto 4, 3), (94, .iconst 0, 1), (95, .istore 8, 2), (97, .iload 8, 2), (99, .ifCond .ne 57, 3), (102, .aload_n 0, 1), (103, .getfield 41, 3), (106, .iload 7, 2), (108, .aload_n 0, 1), (109, .getfield 41, 3), (112, .iload 7, 2), (114, .iaload, 1), (115, .iload 5, 2), (117, .if_icmp .le 16, 3), (120, .aload_n 0, 1), (121, .getfield 41, 3), (124, .iload 7, 2), (126, .iaload, 1), (127, .iload 5, 2), (129, .isub, 1), (130, .goto 4, 3), (133, .iconst 0, 1), (134, .iastore, 1), (135, .iload_n 2, 1), (136, .bipush 7, 2), (138, .if_icmp .eq 129, 3), (141, .aload_n 0, 1), (142, .getfield 47, 3), (145, .iload 7, 2), (147, .dup2, 1), (148, .iaload, 1), (149, .iload 5, 2), (151, .iadd, 1), (152, .iastore, 1), (153, .goto 114, 3), (156, .aload_n 0, 1), (157, .getfield 38, 3), (160, .iload 7, 2), (162, .iconst 1, 1), (163, .aload_n 0, 1), (164, .getfield 38, 3), (167, .iload 7, 2), (169, .iaload, 1), (170, .isub, 1), (171, .iastore, 1), (172, .iload_n 2, 1), (173, .iconst 2, 1), (174, .if_icmp .ge 14, 3), (177, .aload_n 0, 1), (178, .getfield 44, 3), (181, .iload 7, 2), (183, .dup2, 1), (184, .iaload, 1), (185, .iconst 1, 1), (186, .iadd, 1), (187, .iastore, 1), (188, .iload_n 2, 1), (189, .iconst 2, 1), (190, .if_icmp .ne 12, 3), (193, .aload_n 0, 1), (194, .iload 7, 2), (196, .invokevirtual 210, 3), (199, .goto 29, 3), (202, .iload_n 2, 1), (203, .iconst 3, 1), (204, .if_icmp .ne 14, 3), (207, .aload_n 0, 1), (208, .iload 7, 2), (210, .invokevirtual 210, 3), (213, .iconst 2, 1), (214, .idiv, 1), (215, .goto 13, 3), (218, .iload_n 2, 1), (219, .iconst 4, 1), (220, .if_icmp .ne 7, 3), (223, .iconst 3, 1), (224, .goto 4, 3), (227, .iconst 0, 1), (228, .istore 9, 2), (230, .aload_n 0, 1), (231, .getfield 41, 3), (234, .iload 7, 2), (236, .aload_n 0, 1), (237, .getfield 41, 3), (240, .iload 7, 2), (242, .iaload, 1), (243, .iload 9, 2), (245, .iadd, 1), (246, .bipush 99, 2), (248, .if_icmp .le 8, 3), (251, .bipush 99, 2), (253, .goto 13, 3), (256, .aload_n 0, 1), (257, .getfield 41, 3), (260, .iload 7, 2), (262, .iaload, 1), (263, .iload 9, 2), (265, .iadd, 1), (266, .iastore, 1), (267, .iinc 7 1, 3), (270, .goto (-213), 3), (273, .iload_n 2, 1), (274, .iconst 2, 1), (275, .if_icmp .ge 23, 3), (278, .aload_n 0, 1), (279, .dup, 1), (280, .getfield 133, 3), (283, .iconst 1, 1), (284, .isub, 1), (285, .putfield 133, 3), (288, .aload_n 0, 1), (289, .dup, 1), (290, .getfield 7, 3), (293, .iconst 1, 1), (294, .iadd, 1), (295, .putfield 7, 3), (298, .iload_n 2, 1), (299, .iconst 2, 1), (300, .if_icmp .eq 13, 3), (303, .iload_n 2, 1), (304, .iconst 3, 1), (305, .if_icmp .eq 8, 3), (308, .iload_n 2, 1), (309, .iconst 5, 1), (310, .if_icmp .ne 23, 3), (313, .aload_n 0, 1), (314, .dup, 1), (315, .getfield 7, 3), (318, .iconst 1, 1), (319, .isub, 1), (320, .putfield 7, 3), (323, .aload_n 0, 1), (324, .dup, 1), (325, .getfield 133, 3), (328, .iconst 1, 1), (329, .iadd, 1), (330, .putfield 133, 3), (333, .iload_n 2, 1), (334, .iconst 5, 1), (335, .if_icmp .ne 13, 3), (338, .aload_n 0, 1), (339, .dup, 1), (340, .getfield 136, 3), (343, .iconst 1, 1), (344, .isub, 1), (345, .putfield 136, 3), (348, .return_, 1)]
def cd_157 : List (Nat × Instr × Nat) := [(0, .aload_n 0, 1), (1, .iload_n 1, 1), (2, .invokevirtual 201, 3), (5, .ifCond .eq 11, 3), (8, .aload_n 0, 1), (9, .iload_n 1, 1), (10, .invokevirtual 204, 3), (13, .goto 9, 3), (16, .aload_n 0, 1), (17, .bipush (-6), 2), (19, .invokevirtual 106, 3), (22, .ireturn, 1)]
def cd_158 : List (Nat × Instr × Nat) := [(0, .aload_n 0, 1), (1, .iload_n 1, 1), (2, .invokevirtual 201, 3), (5, .ifCond .eq 19, 3), (8, .aload_n 0, 1), (9, .iload_n 1, 1), (10, .invokevirtual 167, 3), (13, .ifCond .eq 7, 3), (16, .iconst 1, 1), (17, .goto 13, 3), (20, .iconst 0, 1), (21, .goto 9, 3), (24, .aload_n 0, 1), (25, .bipush (-6), 2), (27, .invokevirtual 106, 3), (30, .ireturn, 1)]
def cd_159 : List (Nat × Instr × Nat) := [(0, .iload_n 1, 1), (1, .iconst 1, 1), (2, .iadd, 1), (3, .istore_n 2, 1), (4, .iload_n 2, 1), (5, .sipush 700, 3), (8, .if_icmp .gt 38, 3), (11, .iload_n 2, 1), (12, .bipush 10, 2), (14, .irem, 1), (15, .iconst 4, 1), (16, .if_icmp .ge 24, 3), (19, .iload_n 2, 1), (20, .bipush 10, 2), (22, .idiv, 1), (23, .bipush 10, 2), (25, .irem, 1), (26, .iconst 4, 1), (27, .if_icmp .ge 13, 3), (30, .aload_n 0, 1), (31, .iload_n 2, 1), (32, .invokevirtual 167, 3), (35, .ifCond .eq 5, 3), (38, .iload_n 2, 1), (39, .ireturn, 1), (40, .iinc 2 1, 3), (43, .goto (-39), 3), (46, .iconst (-1), 1), (47, .ireturn, 1)]
def cd_160 : List (Nat × Instr × Nat) := [(0, .iconst 0, 1), (1, .istore_n 1, 1), (2, .aload_n 0, 1), (3, .iconst (-1), 1), (4, .invokevirtual 213, 3), (7, .istore_n 2, 1), (8, .iload_n 2, 1), (9, .iconst (-1), 1), (10, .if_icmp .eq 15, 3), (13, .iinc 1 1, 3), (16, .aload_n 0, 1), (17, .iload_n 2, 1), (18, .invokevirtual 213, 3), (21, .istore_n 2, 1), (22, .goto (-14), 3), (25, .iload_n 1, 1), (26, .ireturn, 1)]
def cd_161 : List (Nat × Instr × Nat) := [(0, .iload_n 1, 1), (1, .istore_n 2, 1), (2, .aload_n 0, 1), (3, .iconst (-1), 1), (4, .invokevirtual 213, 3), (7, .istore_n 3, 1), (8, .iload_n 3, 1), (9, .iconst (-1), 1), (10, .if_icmp .eq 21, 3), (13, .iload_n 2, 1), (14, .ifCond .ne 5, 3), (17, .iload_n 3, 1), (18, .ireturn, 1), (19, .iinc 2 (-1), 3), (22, .aload_n 0, 1), (23, .iload_n 3, 1), (24, .invokevirtual 213, 3), (27, .istore_n 3, 1), (28, .goto (-20), 3), (31, .iconst (-1), 1), (32, .ireturn, 1)]
def cd_162 : List (Nat × Instr × Nat) := [(0, .iload_n 1, 1), (1, .iconst (-1), 1), (2, .if_icmp .ne 8, 3), (5, .aload_n 0, 1), (6, .invokevirtual 216, 3), (9, .ireturn, 1), (10, .iload_n 1, 1), (11, .ifCond .ge 7, 3), (14, .iconst (-1), 1), (15, .goto 8, 3), (18, .aload_n 0, 1), (19, .iload_n 1, 1), (20, .invokevirtual 219, 3), (23, .istore_n 2, 1), (24, .iload_n 2, 1), (25, .iconst (-1), 1), (26, .if_icmp .ne 12, 3), (29, .aload_n 0, 1), (30, .bipush (-5), 2), (32, .invokevirtual 106, 3), (35, .goto 4, 3), (38, .iload_n 2, 1), (39, .ireturn, 1)]
def cd_163 : List (Nat × Instr × Nat) := [(0, .iconst 0, 1), (1, .istore_n 2, 1), (2, .iconst 0, 1), (3, .istore_n 3, 1), (4, .iload_n 3, 1), (5, .aload_n 0, 1), (6, .getfield 99, 3), (9, .if_icmp .ge 15, 3), (12, .iload_n 2, 1), (13, .aload_n 1, 1), (14, .iload_n 3, 1), (15, .iaload, 1), (16, .iadd, 1), (17, .istore_n 2, 1), (18, .iinc 3 1, 3), (21, .goto (-17), 3), (24, .iload_n 2, 1), (25, .ireturn, 1)]
def cd_164 : List (Nat × Instr × Nat) := [(0, .aload_n 0, 1), (1, .aload_n 0, 1), (2, .getfield 44, 3), (5, .invokevirtual 222, 3), (8, .istore_n 3, 1), (9, .aload_n 0, 1), (10, .getfield 226, 3), (13, .iconst (-1), 1), (14, .if_icmp .eq 30, 3), (17, .iload_n 3, 1), (18, .aload_n 0, 1), (19, .getfield 229, 3), (22, .if_icmp .gt 22, 3), (25, .iload_n 3, 1), (26, .aload_n 0, 1), (27, .getfield 229, 3), (30, .if_icmp .ne 61, 3), (33, .aload_n 0, 1), (34, .getfield 13, 3), (37, .aload_n 0, 1), (38, .getfield 232, 3), (41, .if_icmp .le 50, 3), (44, .aload_n 0, 1), (45, .iload_n 1, 1), (46, .putfield 226, 3), (49, .aload_n 0, 1), (50, .iload_n 3, 1), (51, .putfield 229, 3), (54, .aload_n 0, 1), (55, .aload_n 0, 1), (56, .getfield 13, 3), (59, .putfield 232, 3), (62, .iconst 0, 1), (63, .istore 4, 2), (65, .iload 4, 2), (67, .iload_n 1, 1), (68, .if_icmp .ge 23, 3), (71, .aload_n 0, 1), (72, .getfield 93, 3), (75, .iload 4, 2), (77, .aload_n 0, 1), (78, .getfield 90, 3), (81, .iload 4, 2), (83, .iaload, 1), (84, .iastore, 1), (85, .iinc 4 1, 3), (88, .goto (-23), 3), (91, .iload_n 1, 1), (92, .iload_n 2, 1), (93, .if_icmp .ne 4, 3), (96, .return_, 1), (97, .aload_n 0, 1), (98, .aload_n 0, 1), (99, .getfield 87, 3), (102, .bipush 40, 2), (104, .iload_n 1, 1), (105, .imul, 1), (106, .iconst 0, 1), (107, .invokevirtual 191, 3), (110, .aload_n 0, 1), (111, .iconst (-1), 1), (112, .invokevirtual 213, 3), (115, .istore 4, 2), (117, .iload 4, 2), (119, .iconst (-1), 1), (120, .if_icmp .eq 49, 3), (123, .aload_n 0, 1), (124, .getfield 90, 3), (127, .iload_n 1, 1), (128, .iload 4, 2), (130, .iastore, 1), (131, .aload_n 0, 1), (132, .iload 4, 2), (134, .invokevirtual 183, 3), (137, .aload_n 0, 1), (138, .iload_n 1, 1), (139, .iconst 1, 1), (140, .iadd, 1), (141, .iload_n 2, 1), (142, .invokevirtual 235, 3), (145, .aload_n 0, 1), (146, .aload_n 0, 1), (147, .getfield 87, 3), (150, .bipush 40, 2), (152, .iload_n 1, 1), (153, .imul, 1), (154, .iconst 1, 1), (155, .invokevirtual 191, 3), (158, .aload_n 0, 1), (159, .iload 4, 2), (161, .invokevirtual 213, 3), (164, .istore 4, 2), (166, .goto (-49), 3), (169, .return_, 1)]
def cd_165 : List (Nat × Instr × Nat) := [(0, .iload_n 2, 1), (1, .iconst (-1), 1), (2, .if_icmp .ge 10, 3), (5, .aload_n 0, 1), (6, .bipush (-5), 2), (8, .invokevirtual 106, 3), (11, .ireturn, 1), (12, .iload_n 1, 1), (13, .iconst 1, 1), (14, .if_icmp .lt 8, 3), (17, .iload_n 1, 1), (18, .iconst 3, 1), (19, .if_icmp .le 10, 3), (22, .aload_n 0, 1), (23, .bipush (-6), 2), (25, .invokevirtual 106, 3), (28, .ireturn, 1), (29, .aload_n 0, 1), (30, .aload_n 0, 1), (31, .getfield 44, 3), (34, .invokevirtual 222, 3), (37, .istore_n 3, 1), (38, .aload_n 0, 1), (39, .iconst (-1), 1), (40, .putfield 226, 3), (43, .aload_n 0, 1), (44, .iconst 0, 1), (45, .iload_n 1, 1), (46, .invokevirtual 235, 3), (49, .iload_n 2, 1), (50, .iconst (-1), 1), (51, .if_icmp .ne 10, 3), (54, .aload_n 0, 1), (55, .getfield 229, 3), (58, .iload_n 3, 1), (59, .isub, 1), (60, .ireturn, 1), (61, .iload_n 2, 1), (62, .aload_n 0, 1), (63, .getfield 226, 3), (66, .if_icmp .ge 12, 3), (69, .aload_n 0, 1), (70, .getfield 93, 3), (73, .iload_n 2, 1), (74, .iaload, 1), (75, .goto 9, 3), (78, .aload_n 0, 1), (79, .bipush (-5), 2), (81, .invokevirtual 106, 3), (84, .ireturn, 1)]
def cd_166 : List (Nat × Instr × Nat) := [(0, .aload_n 0, 1), (1, .iconst 0, 1), (2, .putfield 239, 3), (5, .aload_n 0, 1), (6, .iconst 0, 1), (7, .putfield 242, 3), (10, .aload_n 0, 1), (11, .iconst 0, 1), (12, .putfield 245, 3), (15, .return_, 1)]
def cd_167 : List (Nat × Instr × Nat) := [(0, .iconst (-1), 1), (1, .istore_n 2, 1), (2, .iconst 0, 1), (3, .istore_n 3, 1), (4, .iload_n 3, 1), (5, .aload_n 0, 1), (6, .getfield 99, 3), (9, .if_icmp .ge 61, 3), (12, .bipush 100, 2), (14, .iload_n 1, 1), (15, .imul, 1), (16, .bipush 10, 2), (18, .iload_n 3, 1), (19, .imul, 1), (20, .iadd, 1), (21, .istore 4, 2), (23, .aload_n 0, 1), (24, .iload 4, 2), (26, .invokevirtual 167, 3), (29, .ifCond .ne 6, 3), (32, .goto 32, 3), (35, .iload_n 2, 1), (36, .iconst (-1), 1), (37, .if_icmp .eq 24, 3), (40, .aload_n 0, 1), (41, .getfield 41, 3), (44, .iload_n 3, 1), (45, .iaload, 1), (46, .aload_n 0, 1), (47, .getfield 41, 3), (50, .iload_n 2, 1), (51, .bipush 10, 2), (53, .idiv, 1), (54, .bipush 10, 2), (56, .irem, 1), (57, .iaload, 1), (58, .if_icmp .ge 6, 3), (61, .iload 4, 2), (63, .istore_n 2, 1), (64, .iinc 3 1, 3), (67, .goto (-63), 3), (70, .iload_n 2, 1), (71, .ireturn, 1)]
def cd_168 : List (Nat × Instr × Nat) := [(0, .iconst (-1), 1), (1, .istore_n 3, 1), (2, .bipush 100, 2), (4, .iload_n 1, 1), (5, .imul, 1), (6, .istore 4, 2), (8, .iload 4, 2), (10, .bipush 100, 2), (12, .iload_n 1, 1), (13, .imul, 1), (14, .bipush 40, 2), (16, .iadd, 1), (17, .if_icmp .ge 56, 3), (20, .iload 4, 2), (22, .bipush 10, 2), (24, .irem, 1), (25, .iconst 3, 1), (26, .if_icmp .gt 41, 3), (29, .aload_n 0, 1), (30, .iload 4, 2), (32, .invokevirtual 167, 3), (35, .ifCond .ne 6, 3), (38, .goto 29, 3), (41, .iload_n 3, 1), (42, .iconst (-1), 1), (43, .if_icmp .eq 21, 3), (46, .iload_n 2, 1), (47, .ifCond .eq 20, 3), (50, .aload_n 0, 1), (51, .iload 4, 2), (53, .invokevirtual 204, 3), (56, .aload_n 0, 1), (57, .iload_n 3, 1), (58, .invokevirtual 204, 3), (61, .if_icmp .ge 6, 3), (64, .iload 4, 2), (66, .istore_n 3, 1), (67, .iinc 4 1, 3), (70, .goto (-62), 3), (73, .iload_n 3, 1), (74, .ireturn, 1)]
def cd_169 : List (Nat × Instr × Nat) := [(0, .aload_n 0, 1), (1, .getfield 99, 3), (4, .ifCond .le 166, 3), (7, .aload_n 0, 1), (8, .getfield 242, 3), (11, .aload_n 0, 1), (12, .getfield 99, 3), (15, .if_icmp .ge 155, 3), (18, .iload_n 1, 1), (19, .ifCond .eq 27, 3), (22, .aload_n 0, 1), (23, .sipush 500, 3), (26, .bipush 10, 2), (28, .aload_n 0, 1), (29, .getfield 239, 3), (32, .imul, 1), (33, .iadd, 1), (34, .invokevirtual 167, 3), (37, .ifCond .eq 9, 3), (40, .sipush 500, 3), (43, .goto 6, 3), (46, .sipush 200, 3), (49, .bipush 10, 2), (51, .aload_n 0, 1), (52, .getfield 239, 3), (55, .imul, 1), (56, .iadd, 1), (57, .istore_n 2, 1), (58, .aload_n 0, 1), (59, .getfield 245, 3), (62, .ifCond .ne 35, 3), (65, .aload_n 0, 1), (66, .bipush 10, 2), (68, .aload_n 0, 1), (69, .getfield 239, 3), (72, .imul, 1), (73, .invokevirtual 167, 3), (76, .ifCond .eq 21, 3), (79, .aload_n 0, 1), (80, .iconst 1, 1), (81, .putfield 245, 3), (84, .aload_n 0, 1), (85, .iconst 0, 1), (86, .putfield 242, 3), (89, .bipush 10, 2), (91, .aload_n 0, 1), (92, .getfield 239, 3), (95, .imul, 1), (96, .ireturn, 1), (97, .aload_n 0, 1), (98, .getfield 239, 3), (101, .istore_n 3, 1), (102, .aload_n 0, 1), (103, .getfield 245, 3), (106, .istore 4, 2), (108, .aload_n 0, 1), (109, .iconst 0, 1), (110, .putfield 245, 3), (113, .aload_n 0, 1), (114, .aload_n 0, 1), (115, .getfield 239, 3), (118, .iconst 1, 1), (119, .iadd, 1), (120, .aload_n 0, 1), (121, .getfield 99, 3), (124, .irem, 1), (125, .putfield 239, 3), (128, .aload_n 0, 1), (129, .getfield 38, 3), (132, .iload_n 3, 1), (133, .iaload, 1), (134, .ifCond .ne 18, 3), (137, .aload_n 0, 1), (138, .iload_n 2, 1), (139, .invokevirtual 167, 3), (142, .ifCond .eq 10, 3), (145, .aload_n 0, 1), (146, .iconst 0, 1), (147, .putfield 242, 3), (150, .iload_n 2, 1), (151, .ireturn, 1), (152, .iload 4, 2), (154, .ifCond .ne 13, 3), (157, .aload_n 0, 1), (158, .dup, 1), (159, .getfield 242, 3), (162, .iconst 1, 1), (163, .iadd, 1), (164, .putfield 242, 3), (167, .goto (-167), 3), (170, .iconst (-1), 1), (171, .ireturn, 1)]
def cd_170 : List (Nat × Instr × Nat) := [(0, .iload_n 1, 1), (1, .tableswitch 149 0 3 #[31, 75, 81, 102], 31), (32, .aload_n 0, 1), (33, .getfield 99, 3), (36, .iconst 2, 1), (37, .if_icmp .ge 7, 3), (40, .iconst (-1), 1), (41, .goto 34, 3), (44, .aload_n 0, 1), (45, .bipush 101, 2), (47, .invokevirtual 167, 3), (50, .ifCond .eq 8, 3), (53, .bipush 101, 2), (55, .goto 20, 3), (58, .aload_n 0, 1), (59, .sipush 301, 3), (62, .invokevirtual 167, 3), (65, .ifCond .eq 9, 3), (68, .sipush 301, 3), (71, .goto 4, 3), (74, .iconst (-1), 1), (75, .ireturn, 1), (76, .aload_n 0, 1), (77, .iconst 0, 1), (78, .invokevirtual 249, 3), (81, .ireturn, 1), (82, .aload_n 0, 1), (83, .iconst 0, 1), (84, .invokevirtual 253, 3), (87, .istore_n 2, 1), (88, .iload_n 2, 1), (89, .iconst (-1), 1), (90, .if_icmp .eq 7, 3), (93, .iload_n 2, 1), (94, .goto 8, 3), (97, .aload_n 0, 1), (98, .iconst 2, 1), (99, .invokevirtual 253, 3), (102, .ireturn, 1), (103, .aload_n 0, 1), (104, .iconst 1, 1), (105, .iconst 0, 1), (106, .invokevirtual 256, 3), (109, .istore_n 2, 1), (110, .iload_n 2, 1), (111, .iconst (-1), 1), (112, .if_icmp .ne 10, 3), (115, .aload_n 0, 1), (116, .iconst 2, 1), (117, .iconst 1, 1), (118, .invokevirtual 256, 3), (121, .istore_n 2, 1), (122, .iload_n 2, 1), (123, .iconst (-1), 1), (124, .if_icmp .ne 10, 3), (127, .aload_n 0, 1), (128, .iconst 4, 1), (129, .iconst 0, 1), (130, .invokevirtual 256, 3), (133, .istore_n 2, 1), (134, .iload_n 2, 1), (135, .iconst (-1), 1), (136, .if_icmp .eq 7, 3), (139, .iload_n 2, 1), (140, .goto 9, 3), (143, .aload_n 0, 1), (144, .iconst 0, 1), (145, .iconst 0, 1), (146, .invokevirtual 256, 3), (149, .ireturn, 1), (150, .aload_n 0, 1), (151, .iconst 1, 1), (152, .invokevirtual 249, 3), (155, .ireturn, 1)]
def cd_171 : List (Nat × Instr × Nat) := [(0, .aload_n 0, 1), (1, .invokevirtual 260, 3), (4, .aload_n 0, 1), (5, .iconst 0, 1), (6, .putfield 263, 3), (9, .aload_n 0, 1), (10, .getfield 263, 3), (13, .iload_n 2, 1), (14, .if_icmp .ge 33, 3), (17, .aload_n 0, 1), (18, .iload_n 1, 1), (19, .invokevirtual 266, 3), (22, .istore_n 3, 1), (23, .iload_n 3, 1), (24, .iconst (-1), 1), (25, .if_icmp .ne 4, 3), (28, .return_, 1), (29, .aload_n 0, 1), (30, .iload_n 3, 1), (31, .invokevirtual 183, 3), (34, .aload_n 0, 1), (35, .dup, 1), (36, .getfield 263, 3), (39, .iconst 1, 1), (40, .iadd, 1), (41, .putfield 263, 3), (44, .goto (-35), 3), (47, .return_, 1)]
def cd_172 : List (Nat × Instr × Nat) := [(0, .iload_n 1, 1), (1, .ifCond .lt 12, 3), (4, .iload_n 1, 1), (5, .iconst 3, 1), (6, .if_icmp .gt 7, 3), (9, .iconst 1, 1), (10, .goto 4, 3), (13, .iconst 0, 1), (14, .ireturn, 1)]
def cd_173 : List (Nat × Instr × Nat) := [(0, .iload_n 2, 1), (1, .iconst (-1), 1), (2, .if_icmp .lt 25, 3), (5, .iload_n 2, 1), (6, .iconst 5, 1), (7, .if_icmp .gt 20, 3), (10, .iload_n 2, 1), (11, .ifCond .lt 23, 3), (14, .iload_n 2, 1), (15, .iconst 4, 1), (16, .if_icmp .ge 18, 3), (19, .aload_n 0, 1), (20, .iload_n 2, 1), (21, .invokevirtual 110, 3), (24, .ifCond .ne 10, 3), (27, .aload_n 0, 1), (28, .bipush (-5), 2), (30, .invokevirtual 106, 3), (33, .ireturn, 1), (34, .aload_n 0, 1), (35, .iload_n 1, 1), (36, .invokevirtual 269, 3), (39, .ifCond .ne 10, 3), (42, .aload_n 0, 1), (43, .bipush (-6), 2), (45, .invokevirtual 106, 3), (48, .ireturn, 1), (49, .iload_n 2, 1), (50, .ifCond .ge 14, 3), (53, .aload_n 0, 1), (54, .aload_n 0, 1), (55, .getfield 44, 3), (58, .invokevirtual 222, 3), (61, .goto 18, 3), (64, .iload_n 2, 1), (65, .iconst 4, 1), (66, .if_icmp .ge 12, 3), (69, .aload_n 0, 1), (70, .getfield 44, 3), (73, .iload_n 2, 1), (74, .iaload, 1), (75, .goto 4, 3), (78, .iconst 0, 1), (79, .istore_n 3, 1), (80, .aload_n 0, 1), (81, .aload_n 0, 1), (82, .getfield 84, 3), (85, .iconst 0, 1), (86, .iconst 0, 1), (87, .invokevirtual 191, 3), (90, .aload_n 0, 1), (91, .iload_n 1, 1), (92, .sipush 300, 3), (95, .invokevirtual 272, 3), (98, .iload_n 2, 1), (99, .ifCond .ge 16, 3), (102, .aload_n 0, 1), (103, .aload_n 0, 1), (104, .getfield 44, 3), (107, .invokevirtual 222, 3), (110, .iload_n 3, 1), (111, .isub, 1), (112, .goto 35, 3), (115, .iload_n 2, 1), (116, .iconst 4, 1), (117, .if_icmp .ge 14, 3), (120, .aload_n 0, 1), (121, .getfield 44, 3), (124, .iload_n 2, 1), (125, .iaload, 1), (126, .iload_n 3, 1), (127, .isub, 1), (128, .goto 19, 3), (131, .iload_n 2, 1), (132, .iconst 4, 1), (133, .if_icmp .ne 10, 3), (136, .aload_n 0, 1), (137, .getfield 13, 3), (140, .goto 7, 3), (143, .aload_n 0, 1), (144, .getfield 263, 3), (147, .istore 4, 2), (149, .aload_n 0, 1), (150, .aload_n 0, 1), (151, .getfield 84, 3), (154, .iconst 0, 1), (155, .iconst 1, 1), (156, .invokevirtual 191, 3), (159, .iload 4, 2), (161, .ireturn, 1)]
def cd_174 : List (Nat × Instr × Nat) := [(0, .aload_n 0, 1), (1, .aload_n 0, 1), (2, .getfield 84, 3), (5, .iconst 0, 1), (6, .iconst 0, 1), (7, .invokevirtual 191, 3), (10, .aload_n 0, 1), (11, .iload_n 1, 1), (12, .sipush 300, 3), (15, .invokevirtual 272, 3), (18, .aload_n 0, 1), (19, .getfield 44, 3), (22, .iconst 0, 1), (23, .iaload, 1), (24, .istore_n 2, 1), (25, .aload_n 0, 1), (26, .getfield 44, 3), (29, .iconst 0, 1), (30, .iaload, 1), (31, .istore_n 3, 1), (32, .iconst 1, 1), (33, .istore 4, 2), (35, .iload 4, 2), (37, .aload_n 0, 1), (38, .getfield 99, 3), (41, .if_icmp .ge 55, 3), (44, .aload_n 0, 1), (45, .getfield 44, 3), (48, .iload 4, 2), (50, .iaload, 1), (51, .iload_n 2, 1), (52, .if_icmp .ge 13, 3), (55, .aload_n 0, 1), (56, .getfield 44, 3), (59, .iload 4, 2), (61, .iaload, 1), (62, .goto 4, 3), (65, .iload_n 2, 1), (66, .istore_n 2, 1), (67, .aload_n 0, 1), (68, .getfield 44, 3), (71, .iload 4, 2), (73, .iaload, 1), (74, .iload_n 3, 1), (75, .if_icmp .le 13, 3), (78, .aload_n 0, 1), (79, .getfield 44, 3), (82, .iload 4, 2), (84, .iaload, 1), (85, .goto 4, 3), (88, .iload_n 3, 1), (89, .istore_n 3, 1), (90, .iinc 4 1, 3), (93, .goto (-58), 3), (96, .aload_n 0, 1), (97, .aload_n 0, 1), (98, .getfield 84, 3), (101, .iconst 0, 1), (102, .iconst 1, 1), (103, .invokevirtual 191, 3), (106, .iload_n 3, 1), (107, .iload_n 2, 1), (108, .isub, 1), (109, .ireturn, 1)]
def cd_175 : List (Nat × Instr × Nat) := [(0, .aload_n 0, 1), (1, .getfield 99, 3), (4, .ifCond .ne 10, 3), (7, .aload_n 0, 1), (8, .bipush (-5), 2), (10, .invokevirtual 106, 3), (13, .ireturn, 1), (14, .aload_n 0, 1), (15, .iload_n 1, 1), (16, .invokevirtual 269, 3), (19, .ifCond .eq 11, 3), (22, .aload_n 0, 1), (23, .iload_n 1, 1), (24, .invokevirtual 275, 3), (27, .goto 9, 3), (30, .aload_n 0, 1), (31, .bipush (-6), 2), (33, .invokevirtual 106, 3), (36, .ireturn, 1)]
def cd_176 : List (Nat × Instr × Nat) := [(0, .aload_n 0, 1), (1, .getfield 99, 3), (4, .ifCond .eq 12, 3), (7, .iload_n 1, 1), (8, .ifCond .lt 8, 3), (11, .iload_n 1, 1), (12, .iconst 1, 1), (13, .if_icmp .le 10, 3), (16, .aload_n 0, 1), (17, .bipush (-5), 2), (19, .invokevirtual 106, 3), (22, .ireturn, 1), (23, .iconst 0, 1), (24, .istore_n 2, 1), (25, .iconst 1, 1), (26, .istore_n 3, 1), (27, .iload_n 3, 1), (28, .iconst 4, 1), (29, .if_icmp .ge 46, 3), (32, .iload_n 1, 1), (33, .ifCond .ne 21, 3), (36, .aload_n 0, 1), (37, .iload_n 3, 1), (38, .iconst (-1), 1), (39, .invokevirtual 278, 3), (42, .aload_n 0, 1), (43, .iload_n 2, 1), (44, .iconst (-1), 1), (45, .invokevirtual 278, 3), (48, .if_icmp .le 21, 3), (51, .goto 16, 3), (54, .aload_n 0, 1), (55, .iload_n 3, 1), (56, .invokevirtual 275, 3), (59, .aload_n 0, 1), (60, .iload_n 2, 1), (61, .invokevirtual 275, 3), (64, .if_icmp .ge 5, 3), (67, .iload_n 3, 1), (68, .istore_n 2, 1), (69, .iinc 3 1, 3), (72, .goto (-45), 3), (75, .iload_n 2, 1), (76, .ireturn, 1)]
def cd_177 : List (Nat × Instr × Nat) := [(0, .iconst 0, 1), (1, .istore_n 3, 1), (2, .iload_n 3, 1), (3, .iload_n 2, 1), (4, .if_icmp .ge 34, 3), (7, .aload_n 0, 1), (8, .aload_n 0, 1), (9, .iload_n 1, 1), (10, .iload_n 3, 1), (11, .invokevirtual 281, 3), (14, .invokevirtual 167, 3), (17, .ifCond .ne 5, 3), (20, .iload_n 3, 1), (21, .ireturn, 1), (22, .aload_n 0, 1), (23, .aload_n 0, 1), (24, .iload_n 1, 1), (25, .iload_n 3, 1), (26, .invokevirtual 281, 3), (29, .invokevirtual 183, 3), (32, .iinc 3 1, 3), (35, .goto (-33), 3), (38, .iconst (-1), 1), (39, .ireturn, 1)]
def cd_178 : List (Nat × Instr × Nat) := [(0, .aload_n 0, 1), (1, .iload_n 1, 1), (2, .iload_n 2, 1), (3, .invokevirtual 284, 3), (6, .istore_n 3, 1), (7, .iload_n 3, 1), (8, .ifCond .ne 14, 3), (11, .iload_n 2, 1), (12, .bipush 60, 2), (14, .if_icmp .le 8, 3), (17, .bipush (-6), 2), (19, .goto 4, 3), (22, .iload_n 3, 1), (23, .ireturn, 1)]
def cd_179 : List (Nat × Instr × Nat) := [(0, .aload_n 0, 1), (1, .iload_n 1, 1), (2, .iload_n 2, 1), (3, .invokevirtual 287, 3), (6, .istore_n 3, 1), (7, .iload_n 3, 1), (8, .ifCond .eq 9, 3), (11, .aload_n 0, 1), (12, .iload_n 3, 1), (13, .invokevirtual 290, 3), (16, .ireturn, 1), (17, .aload_n 0, 1), (18, .aload_n 0, 1), (19, .getfield 84, 3), (22, .iconst 0, 1), (23, .iconst 0, 1), (24, .invokevirtual 191, 3), (27, .aload_n 0, 1), (28, .iload_n 1, 1), (29, .iload_n 2, 1), (30, .invokevirtual 293, 3), (33, .istore 4, 2), (35, .aload_n 0, 1), (36, .aload_n 0, 1), (37, .getfield 84, 3), (40, .iconst 0, 1), (41, .iconst 1, 1), (42, .invokevirtual 191, 3), (45, .iload 4, 2), (47, .ireturn, 1)]
def cd_180 : List (Nat × Instr × Nat) := [(0, .aload_n 0, 1), (1, .iload_n 1, 1), (2, .iload_n 2, 1), (3, .invokevirtual 284, 3), (6, .istore 4, 2), (8, .iload 4, 2), (10, .ifCond .ne 16, 3), (13, .iload_n 3, 1), (14, .ifCond .lt 8, 3), (17, .iload_n 3, 1), (18, .iconst 3, 1), (19, .if_icmp .le 7, 3), (22, .bipush (-5), 2), (24, .istore 4, 2), (26, .iload 4, 2), (28, .ifCond .ne 11, 3), (31, .aload_n 0, 1), (32, .iload_n 1, 1), (33, .iload_n 2, 1), (34, .invokevirtual 287, 3), (37, .istore 4, 2), (39, .iload 4, 2), (41, .ifCond .eq 10, 3), (44, .aload_n 0, 1), (45, .iload 4, 2), (47, .invokevirtual 106, 3), (50, .ireturn, 1), (51, .aload_n 0, 1), (52, .aload_n 0, 1), (53, .getfield 84, 3), (56, .iconst 0, 1), (57, .iconst 0, 1), (58, .invokevirtual 191, 3), (61, .aload_n 0, 1), (62, .iload_n 1, 1), (63, .iload_n 2, 1), (64, .invokevirtual 293, 3), (67, .istore 5, 2), (69, .iload_n 3, 1), (70, .ifCond .ne 14, 3), (73, .aload_n 0, 1), (74, .aload_n 0, 1), (75, .getfield 44, 3), (78, .invokevirtual 222, 3), (81, .goto 35, 3), (84, .iload_n 3, 1), (85, .iconst 1, 1), (86, .if_icmp .ne 10, 3), (89, .aload_n 0, 1), (90, .getfield 13, 3), (93, .goto 23, 3), (96, .iload_n 3, 1), (97, .iconst 2, 1), (98, .if_icmp .ne 14, 3), (101, .aload_n 0, 1), (102, .aload_n 0, 1), (103, .getfield 47, 3), (106, .invokevirtual 222, 3), (109, .goto 7, 3), (112, .aload_n 0, 1), (113, .getfield 136, 3), (116, .istore 6, 2), (118, .aload_n 0, 1), (119, .aload_n 0, 1), (120, .getfield 84, 3), (123, .iconst 0, 1), (124, .iconst 1, 1), (125, .invokevirtual 191, 3), (128, .iload 5, 2), (130, .iconst (-1), 1), (131, .if_icmp .ne 8, 3), (134, .iload 6, 2), (136, .goto 9, 3), (139, .aload_n 0, 1), (140, .bipush (-6), 2), (142, .invokevirtual 106, 3), (145, .ireturn, 1)]
def cd_181 : List (Nat × Instr × Nat) := [(0, .aload_n 0, 1), (1, .iload_n 1, 1), (2, .iload_n 2, 1), (3, .invokevirtual 287, 3), (6, .istore_n 3, 1), (7, .iload_n 3, 1), (8, .ifCond .eq 9, 3), (11, .aload_n 0, 1), (12, .iload_n 3, 1), (13, .invokevirtual 106, 3), (16, .ireturn, 1), (17, .aload_n 0, 1), (18, .aload_n 0, 1), (19, .getfield 84, 3), (22, .iconst 0, 1), (23, .iconst 0, 1), (24, .invokevirtual 191, 3), (27, .aload_n 0, 1), (28, .iload_n 1, 1), (29, .iload_n 2, 1), (30, .invokevirtual 293, 3), (33, .iconst (-1), 1), (34, .if_icmp .ne 8, 3), (37, .aload_n 0, 1), (38, .getfield 13, 3), (41, .ireturn, 1), (42, .aload_n 0, 1), (43, .aload_n 0, 1), (44, .getfield 84, 3), (47, .iconst 0, 1), (48, .iconst 1, 1), (49, .invokevirtual 191, 3), (52, .aload_n 0, 1), (53, .bipush (-6), 2), (55, .invokevirtual 106, 3), (58, .ireturn, 1)]
def cd_182 : List (Nat × Instr × Nat) := [(0, .iconst 0, 1), (1, .istore_n 3, 1), (2, .iload_n 3, 1), (3, .aload_n 0, 1), (4, .getfield 99, 3), (7, .if_icmp .ge 26, 3), (10, .aload_n 0, 1), (11, .iload_n 2, 1), (12, .iload_n 3, 1), (13, .invokevirtual 278, 3), (16, .aload_n 0, 1), (17, .iload_n 1, 1), (18, .iload_n 3, 1), (19, .invokevirtual 281, 3), (22, .if_icmp .eq 5, 3), (25, .iconst 0, 1), (26, .ireturn, 1), (27, .iinc 3 1, 3), (30, .goto (-28), 3), (33, .iconst 1, 1), (34, .ireturn, 1)]
def cd_183 : List (Nat × Instr × Nat) := [(0, .aload_n 0, 1), (1, .iload_n 1, 1), (2, .invokevirtual 122, 3), (5, .istore_n 2, 1), (6, .iload_n 2, 1), (7, .ifCond .ne 19, 3), (10, .aload_n 0, 1), (11, .getfield 99, 3), (14, .aload_n 0, 1), (15, .getfield 56, 3), (18, .iload_n 1, 1), (19, .iaload, 1), (20, .if_icmp .le 6, 3), (23, .bipush (-5), 2), (25, .istore_n 2, 1), (26, .iload_n 2, 1), (27, .ifCond .eq 9, 3), (30, .aload_n 0, 1), (31, .iload_n 2, 1), (32, .invokevirtual 106, 3), (35, .ireturn, 1), (36, .iconst 0, 1), (37, .istore_n 3, 1), (38, .iconst 0, 1), (39, .istore 4, 2), (41, .iload 4, 2), (43, .iconst 4, 1), (44, .if_icmp .ge 26, 3), (47, .aload_n 0, 1), (48, .iload_n 1, 1), (49, .iload 4, 2), (51, .invokevirtual 296, 3), (54, .ifCond .eq 10, 3), (57, .iload_n 3, 1), (58, .iconst 1, 1), (59, .iload 4, 2), (61, .ishl, 1), (62, .ior, 1), (63, .istore_n 3, 1), (64, .iinc 4 1, 3), (67, .goto (-26), 3), (70, .iload_n 3, 1), (71, .ireturn, 1)]
def cd_184 : List (Nat × Instr × Nat) := [(0, .iload 4, 2), (2, .iload 5, 2), (4, .imul, 1), (5, .iload_n 3, 1), (6, .iload 5, 2), (8, .isub, 1), (9, .bipush 10, 2), (11, .aload_n 0, 1), (12, .getfield 35, 3), (15, .iload_n 1, 1), (16, .iaload, 1), (17, .iadd, 1), (18, .imul, 1), (19, .iadd, 1), (20, .istore 6, 2), (22, .bipush 10, 2), (24, .aload_n 0, 1), (25, .getfield 35, 3), (28, .iload_n 2, 1), (29, .iaload, 1), (30, .iadd, 1), (31, .iload 5, 2), (33, .imul, 1), (34, .istore 7, 2), (36, .iload 4, 2), (38, .iload 5, 2), (40, .imul, 1), (41, .istore 8, 2), (43, .iload 7, 2), (45, .iload 8, 2), (47, .if_icmp .le 8, 3), (50, .iload 7, 2), (52, .goto 5, 3), (55, .iload 8, 2), (57, .iload_n 3, 1), (58, .iload 5, 2), (60, .isub, 1), (61, .iload 4, 2), (63, .imul, 1), (64, .iadd, 1), (65, .istore 9, 2), (67, .iload 5, 2), (69, .iload_n 3, 1), (70, .if_icmp .ne 7, 3), (73, .iload 7, 2), (75, .istore 9, 2), (77, .iload 6, 2), (79, .iload 9, 2), (81, .if_icmp .le 8, 3), (84, .iload 6, 2), (86, .goto 5, 3), (89, .iload 9, 2), (91, .ireturn, 1)]
def cd_185 : List (Nat × Instr × Nat) := [(0, .aload_n 0, 1), (1, .iload_n 1, 1), (2, .invokevirtual 110, 3), (5, .ifCond .eq 11, 3), (8, .aload_n 0, 1), (9, .iload_n 2, 1), (10, .invokevirtual 110, 3), (13, .ifCond .ne 9, 3), (16, .aload_n 0, 1), (17, .iconst (-1), 1), (18, .invokevirtual 106, 3), (21, .ireturn, 1), (22, .iload 5, 2), (24, .ifCond .lt 9, 3), (27, .iload 5, 2), (29, .iconst 1, 1), (30, .if_icmp .le 10, 3), (33, .aload_n 0, 1), (34, .bipush (-5), 2), (36, .invokevirtual 106, 3), (39, .ireturn, 1), (40, .iload_n 1, 1), (41, .iload_n 2, 1), (42, .if_icmp .eq 28, 3), (45, .iload_n 3, 1), (46, .iconst 1, 1), (47, .if_icmp .lt 23, 3), (50, .iload_n 3, 1), (51, .sipush 500, 3), (54, .if_icmp .gt 16, 3), (57, .iload 4, 2), (59, .iconst 1, 1), (60, .if_icmp .lt 10, 3), (63, .iload 4, 2), (65, .bipush 20, 2), (67, .if_icmp .le 10, 3), (70, .aload_n 0, 1), (71, .bipush (-6), 2), (73, .invokevirtual 106, 3), (76, .ireturn, 1), (77, .iconst 0, 1), (78, .istore 6, 2), (80, .iconst 1, 1), (81, .istore 7, 2), (83, .iload 7, 2), (85, .iload_n 3, 1), (86, .if_icmp .gt 38, 3), (89, .aload_n 0, 1), (90, .iload_n 1, 1), (91, .iload_n 2, 1), (92, .iload_n 3, 1), (93, .iload 4, 2), (95, .iload 7, 2), (97, .invokevirtual 299, 3), (100, .aload_n 0, 1), (101, .iload_n 1, 1), (102, .iload_n 2, 1), (103, .iload_n 3, 1), (104, .iload 4, 2), (106, .iload 6, 2), (108, .invokevirtual 299, 3), (111, .if_icmp .ge 7, 3), (114, .iload 7, 2), (116, .istore 6, 2), (118, .iinc 7 1, 3), (121, .goto (-38), 3), (124, .iload 5, 2), (126, .ifCond .ne 8, 3), (129, .iload 6, 2), (131, .goto 14, 3), (134, .aload_n 0, 1), (135, .iload_n 1, 1), (136, .iload_n 2, 1), (137, .iload_n 3, 1), (138, .iload 4, 2), (140, .iload 6, 2), (142, .invokevirtual 299, 3), (145, .ireturn, 1)]
def cd_186 : List (Nat × Instr × Nat) := [(0, .aload_n 0, 1), (1, .getfield 99, 3), (4, .ifCond .ne 10, 3), (7, .aload_n 0, 1), (8, .bipush (-5), 2), (10, .invokevirtual 106, 3), (13, .ireturn, 1), (14, .iload_n 1, 1), (15, .ifCond .lt 9, 3), (18, .iload_n 1, 1), (19, .bipush 9, 2), (21, .if_icmp .le 10, 3), (24, .aload_n 0, 1), (25, .bipush (-6), 2), (27, .invokevirtual 106, 3), (30, .ireturn, 1), (31, .iconst (-1), 1), (32, .istore_n 2, 1), (33, .iconst (-1), 1), (34, .istore_n 3, 1), (35, .iconst 0, 1), (36, .istore 4, 2), (38, .iload 4, 2), (40, .iload_n 1, 1), (41, .if_icmp .gt 68, 3), (44, .aload_n 0, 1), (45, .aload_n 0, 1), (46, .getfield 84, 3), (49, .iconst 0, 1), (50, .iconst 0, 1), (51, .invokevirtual 191, 3), (54, .aload_n 0, 1), (55, .iload 4, 2), (57, .putfield 136, 3), (60, .aload_n 0, 1), (61, .iconst 4, 1), (62, .sipush 300, 3), (65, .invokevirtual 272, 3), (68, .aload_n 0, 1), (69, .aload_n 0, 1), (70, .getfield 44, 3), (73, .invokevirtual 222, 3), (76, .istore 5, 2), (78, .aload_n 0, 1), (79, .aload_n 0, 1), (80, .getfield 84, 3), (83, .iconst 0, 1), (84, .iconst 1, 1), (85, .invokevirtual 191, 3), (88, .iload 5, 2), (90, .iload_n 3, 1), (91, .if_icmp .gt 6, 3), (94, .goto 9, 3), (97, .iload 4, 2), (99, .istore_n 2, 1), (100, .iload 5, 2), (102, .istore_n 3, 1), (103, .iinc 4 1, 3), (106, .goto (-68), 3), (109, .iload_n 2, 1), (110, .ireturn, 1)]
def cd_187 : List (Nat × Instr × Nat) := [(0, .aload_n 0, 1), (1, .getfield 99, 3), (4, .ifCond .eq 12, 3), (7, .iload_n 1, 1), (8, .ifCond .lt 8, 3), (11, .iload_n 1, 1), (12, .iconst 2, 1), (13, .if_icmp .le 10, 3), (16, .aload_n 0, 1), (17, .bipush (-5), 2), (19, .invokevirtual 106, 3), (22, .ireturn, 1), (23, .iconst 0, 1), (24, .istore_n 2, 1), (25, .iconst 1, 1), (26, .istore_n 3, 1), (27, .iload_n 3, 1), (28, .aload_n 0, 1), (29, .getfield 99, 3), (32, .if_icmp .ge 71, 3), (35, .iload_n 1, 1), (36, .ifCond .ne 21, 3), (39, .aload_n 0, 1), (40, .getfield 41, 3), (43, .iload_n 3, 1), (44, .iaload, 1), (45, .aload_n 0, 1), (46, .getfield 41, 3), (49, .iload_n 2, 1), (50, .iaload, 1), (51, .if_icmp .ge 46, 3), (54, .goto 41, 3), (57, .iload_n 1, 1), (58, .iconst 1, 1), (59, .if_icmp .ne 21, 3), (62, .aload_n 0, 1), (63, .getfield 44, 3), (66, .iload_n 3, 1), (67, .iaload, 1), (68, .aload_n 0, 1), (69, .getfield 44, 3), (72, .iload_n 2, 1), (73, .iaload, 1), (74, .if_icmp .le 23, 3), (77, .goto 18, 3), (80, .aload_n 0, 1), (81, .getfield 47, 3), (84, .iload_n 3, 1), (85, .iaload, 1), (86, .aload_n 0, 1), (87, .getfield 47, 3), (90, .iload_n 2, 1), (91, .iaload, 1), (92, .if_icmp .le 5, 3), (95, .iload_n 3, 1), (96, .istore_n 2, 1), (97, .iinc 3 1, 3), (100, .goto (-73), 3), (103, .iload_n 2, 1), (104, .ireturn, 1)]
def cd_188 : List (Nat × Instr × Nat) := [(0, .aload_n 0, 1), (1, .iload_n 1, 1), (2, .invokevirtual 167, 3), (5, .ifCond .ne 10, 3), (8, .aload_n 0, 1), (9, .bipush (-6), 2), (11, .invokevirtual 106, 3), (14, .ireturn, 1), (15, .aload_n 0, 1), (16, .iload_n 1, 1), (17, .invokevirtual 183, 3), (20, .aload_n 0, 1), (21, .getfield 13, 3), (24, .ireturn, 1)]
def cd_189 : List (Nat × Instr × Nat) := [(0, .aload_n 0, 1), (1, .iload_n 1, 1), (2, .invokevirtual 269, 3), (5, .ifCond .eq 14, 3), (8, .iload_n 2, 1), (9, .iconst 1, 1), (10, .if_icmp .lt 9, 3), (13, .iload_n 2, 1), (14, .bipush 60, 2), (16, .if_icmp .le 10, 3), (19, .aload_n 0, 1), (20, .bipush (-6), 2), (22, .invokevirtual 106, 3), (25, .ireturn, 1), (26, .aload_n 0, 1), (27, .iload_n 1, 1), (28, .iload_n 2, 1), (29, .invokevirtual 272, 3), (32, .aload_n 0, 1), (33, .getfield 263, 3), (36, .ireturn, 1)]
def cd_190 : List (Nat × Instr × Nat) := [(0, .aload_n 0, 1), (1, .aload_n 0, 1), (2, .getfield 22, 3), (5, .ldc_w 303, 3), (8, .imul, 1), (9, .sipush 12345, 3), (12, .iadd, 1), (13, .putfield 22, 3), (16, .aload_n 0, 1), (17, .getfield 22, 3), (20, .bipush 16, 2), (22, .iushr, 1), (23, .iload_n 1, 1), (24, .irem, 1), (25, .ireturn, 1)]
def cd_191 : List (Nat × Instr × Nat) := [(0, .iload_n 1, 1), (1, .iconst 1, 1), (2, .if_icmp .lt 9, 3), (5, .iload_n 1, 1), (6, .bipush 60, 2), (8, .if_icmp .le 10, 3), (11, .aload_n 0, 1), (12, .bipush (-6), 2), (14, .invokevirtual 106, 3), (17, .ireturn, 1), (18, .aload_n 0, 1), (19, .aload_n 0, 1), (20, .getfield 44, 3), (23, .invokevirtual 222, 3), (26, .istore_n 2, 1), (27, .iconst 0, 1), (28, .istore_n 3, 1), (29, .iload_n 3, 1), (30, .iload_n 1, 1), (31, .if_icmp .ge 34, 3), (34, .aload_n 0, 1), (35, .invokevirtual 216, 3), (38, .istore 4, 2), (40, .iload 4, 2), (42, .ifCond .le 17, 3), (45, .aload_n 0, 1), (46, .aload_n 0, 1), (47, .aload_n 0, 1), (48, .iload 4, 2), (50, .invokevirtual 304, 3), (53, .invokevirtual 219, 3), (56, .invokevirtual 183, 3), (59, .iinc 3 1, 3), (62, .goto (-33), 3), (65, .aload_n 0, 1), (66, .aload_n 0, 1), (67, .getfield 44, 3), (70, .invokevirtual 222, 3), (73, .iload_n 2, 1), (74, .isub, 1), (75, .ireturn, 1)]
def cd_192 : List (Nat × Instr × Nat) := [(0, .aload_n 0, 1), (1, .iconst 0, 1), (2, .iload_n 1, 1), (3, .invokevirtual 139, 3), (6, .ifCond .ne 10, 3), (9, .aload_n 0, 1), (10, .bipush (-6), 2), (12, .invokevirtual 106, 3), (15, .ireturn, 1), (16, .aload_n 0, 1), (17, .aload_n 0, 1), (18, .getfield 44, 3), (21, .invokevirtual 222, 3), (24, .istore_n 2, 1), (25, .iconst 0, 1), (26, .istore_n 3, 1), (27, .iload_n 3, 1), (28, .aload_n 0, 1), (29, .getfield 99, 3), (32, .if_icmp .ge 37, 3), (35, .aload_n 0, 1), (36, .getfield 38, 3), (39, .iload_n 3, 1), (40, .iconst 0, 1), (41, .iastore, 1), (42, .aload_n 0, 1), (43, .getfield 41, 3), (46, .iload_n 3, 1), (47, .iconst 0, 1), (48, .iastore, 1), (49, .aload_n 0, 1), (50, .getfield 44, 3), (53, .iload_n 3, 1), (54, .iconst 0, 1), (55, .iastore, 1), (56, .aload_n 0, 1), (57, .getfield 47, 3), (60, .iload_n 3, 1), (61, .iconst 0, 1), (62, .iastore, 1), (63, .iinc 3 1, 3), (66, .goto (-39), 3), (69, .aload_n 0, 1), (70, .dup, 1), (71, .getfield 7, 3), (74, .aload_n 0, 1), (75, .getfield 133, 3), (78, .iadd, 1), (79, .putfield 7, 3), (82, .aload_n 0, 1), (83, .iconst 0, 1), (84, .putfield 133, 3), (87, .aload_n 0, 1), (88, .iload_n 1, 1), (89, .putfield 13, 3), (92, .iload_n 2, 1), (93, .ireturn, 1)]
def cd_193 : List (Nat × Instr × Nat) := [(0, .aload_n 0, 1), (1, .getfield 22, 3), (4, .istore_n 2, 1), (5, .aload_n 0, 1), (6, .iload_n 1, 1), (7, .putfield 22, 3), (10, .iload_n 2, 1), (11, .ireturn, 1)]
def cd_194 : List (Nat × Instr × Nat) := [(0, .aload_n 0, 1), (1, .getfield 307, 3), (4, .bipush 20, 2), (6, .if_icmp .ge 13, 3), (9, .aload_n 0, 1), (10, .getfield 96, 3), (13, .aload_n 0, 1), (14, .getfield 307, 3), (17, .iload_n 1, 1), (18, .iastore, 1), (19, .aload_n 0, 1), (20, .dup, 1), (21, .getfield 307, 3), (24, .iconst 1, 1), (25, .iadd, 1), (26, .putfield 307, 3), (29, .return_, 1)]
def cd_195 : List (Nat × Instr × Nat) := [(0, .aload_n 0, 1), (1, .getfield 32, 3), (4, .iload_n 1, 1), (5, .iaload, 1), (6, .istore_n 3, 1), (7, .iload_n 3, 1), (8, .bipush 6, 2), (10, .if_icmp .ne 9, 3), (13, .aload_n 0, 1), (14, .bipush 70, 2), (16, .invokevirtual 310, 3), (19, .iload_n 3, 1), (20, .iconst 4, 1), (21, .if_icmp .eq 9, 3), (24, .iload_n 3, 1), (25, .bipush 6, 2), (27, .if_icmp .ne 9, 3), (30, .aload_n 0, 1), (31, .bipush 51, 2), (33, .invokevirtual 310, 3), (36, .iload_n 3, 1), (37, .iconst 1, 1), (38, .if_icmp .eq 8, 3), (41, .iload_n 3, 1), (42, .iconst 3, 1), (43, .if_icmp .ne 9, 3), (46, .aload_n 0, 1), (47, .bipush 20, 2), (49, .invokevirtual 310, 3), (52, .aload_n 0, 1), (53, .bipush 10, 2), (55, .invokevirtual 310, 3), (58, .iload_n 2, 1), (59, .iload_n 1, 1), (60, .iadd, 1), (61, .istore 4, 2), (63, .iload_n 3, 1), (64, .iconst 1, 1), (65, .if_icmp .eq 8, 3), (68, .iload_n 3, 1), (69, .iconst 3, 1), (70, .if_icmp .ne 14, 3), (73, .iload 4, 2), (75, .aload_n 0, 1), (76, .getfield 35, 3), (79, .iload_n 1, 1), (80, .iaload, 1), (81, .iadd, 1), (82, .istore 4, 2), (84, .iload_n 3, 1), (85, .iconst 4, 1), (86, .if_icmp .eq 9, 3), (89, .iload_n 3, 1), (90, .bipush 6, 2), (92, .if_icmp .ne 9, 3), (95, .iload 4, 2), (97, .iload_n 1, 1), (98, .isub, 1), (99, .istore 4, 2), (101, .iload_n 3, 1), (102, .bipush 6, 2), (104, .if_icmp .ne 10, 3), (107, .iload 4, 2), (109, .iconst 2, 1), (110, .imul, 1), (111, .goto 5, 3), (114, .iload 4, 2), (116, .ireturn, 1)]
def cd_196 : List (Nat × Instr × Nat) := [(0, .aload_n 0, 1), (1, .getfield 32, 3), (4, .iload_n 1, 1), (5, .iaload, 1), (6, .istore_n 3, 1), (7, .iload_n 2, 1), (8, .istore 4, 2), (10, .iload_n 3, 1), (11, .bipush 6, 2), (13, .if_icmp .ne 19, 3), (16, .aload_n 0, 1), (17, .bipush 71, 2), (19, .invokevirtual 310, 3), (22, .iload_n 2, 1), (23, .aload_n 0, 1), (24, .getfield 35, 3), (27, .iload_n 1, 1), (28, .iaload, 1), (29, .isub, 1), (30, .istore 4, 2), (32, .iload_n 3, 1), (33, .iconst 3, 1), (34, .if_icmp .ne 14, 3), (37, .aload_n 0, 1), (38, .bipush 40, 2), (40, .invokevirtual 310, 3), (43, .iload_n 2, 1), (44, .iconst 1, 1), (45, .iadd, 1), (46, .istore 4, 2), (48, .iload_n 3, 1), (49, .iconst 2, 1), (50, .if_icmp .eq 8, 3), (53, .iload_n 3, 1), (54, .iconst 5, 1), (55, .if_icmp .ne 7, 3), (58, .iconst 1, 1), (59, .goto 4, 3), (62, .iconst 0, 1), (63, .istore 5, 2), (65, .iload 5, 2), (67, .ifCond .eq 9, 3), (70, .aload_n 0, 1), (71, .bipush 30, 2), (73, .invokevirtual 310, 3), (76, .aload_n 0, 1), (77, .bipush 11, 2), (79, .invokevirtual 310, 3), (82, .aload_n 0, 1), (83, .iload_n 1, 1), (84, .iload 4, 2), (86, .invokevirtual 313, 3), (89, .iconst 2, 1), (90, .imul, 1), (91, .istore 6, 2), (93, .iload 5, 2), (95, .ifCond .eq 10, 3), (98, .iload 6, 2), (100, .iconst 3, 1), (101, .imul, 1), (102, .goto 5, 3), (105, .iload 6, 2), (107, .ireturn, 1)]
def cd_197 : List (Nat × Instr × Nat) := [(0, .aload_n 0, 1), (1, .getfield 32, 3), (4, .iload_n 1, 1), (5, .iaload, 1), (6, .istore_n 3, 1), (7, .iload_n 3, 1), (8, .iconst 4, 1), (9, .if_icmp .eq 9, 3), (12, .iload_n 3, 1), (13, .bipush 6, 2), (15, .if_icmp .ne 9, 3), (18, .aload_n 0, 1), (19, .bipush 50, 2), (21, .invokevirtual 310, 3), (24, .iload_n 3, 1), (25, .iconst 5, 1), (26, .if_icmp .ne 9, 3), (29, .aload_n 0, 1), (30, .bipush 60, 2), (32, .invokevirtual 310, 3), (35, .aload_n 0, 1), (36, .bipush 12, 2), (38, .invokevirtual 310, 3), (41, .aload_n 0, 1), (42, .iload_n 1, 1), (43, .iload_n 2, 1), (44, .invokevirtual 316, 3), (47, .istore 4, 2), (49, .iload 4, 2), (51, .aload_n 0, 1), (52, .iload_n 1, 1), (53, .iload_n 2, 1), (54, .aload_n 0, 1), (55, .getfield 35, 3), (58, .iload_n 1, 1), (59, .iaload, 1), (60, .isub, 1), (61, .invokevirtual 313, 3), (64, .ixor, 1), (65, .istore 4, 2), (67, .iload_n 3, 1), (68, .iconst 4, 1), (69, .if_icmp .eq 9, 3), (72, .iload_n 3, 1), (73, .bipush 6, 2), (75, .if_icmp .ne 9, 3), (78, .iload 4, 2), (80, .ineg, 1), (81, .goto 17, 3), (84, .iload_n 3, 1), (85, .iconst 5, 1), (86, .if_icmp .ne 10, 3), (89, .iload 4, 2), (91, .iconst 5, 1), (92, .ixor, 1), (93, .goto 5, 3), (96, .iload 4, 2), (98, .ireturn, 1)]
def cd_198 : List (Nat × Instr × Nat) := [(0, .aload_n 0, 1), (1, .iconst 0, 1), (2, .putfield 307, 3), (5, .aload_n 0, 1), (6, .iload_n 1, 1), (7, .invokevirtual 110, 3), (10, .ifCond .eq 12, 3), (13, .iload_n 2, 1), (14, .ifCond .lt 8, 3), (17, .iload_n 2, 1), (18, .iconst 2, 1), (19, .if_icmp .le 5, 3), (22, .iconst 0, 1), (23, .ireturn, 1), (24, .iload_n 2, 1), (25, .ifCond .ne 12, 3), (28, .aload_n 0, 1), (29, .iload_n 1, 1), (30, .iload_n 3, 1), (31, .invokevirtual 313, 3), (34, .goto 23, 3), (37, .iload_n 2, 1), (38, .iconst 1, 1), (39, .if_icmp .ne 12, 3), (42, .aload_n 0, 1), (43, .iload_n 1, 1), (44, .iload_n 3, 1), (45, .invokevirtual 316, 3), (48, .goto 9, 3), (51, .aload_n 0, 1), (52, .iload_n 1, 1), (53, .iload_n 3, 1), (54, .invokevirtual 319, 3), (57, .ireturn, 1)]
def cd_199 : List (Nat × Instr × Nat) := [(0, .iload_n 1, 1), (1, .ifCond .lt 26, 3), (4, .iload_n 1, 1), (5, .bipush 20, 2), (7, .if_icmp .ge 20, 3), (10, .iload_n 1, 1), (11, .aload_n 0, 1), (12, .getfield 307, 3), (15, .if_icmp .ge 12, 3), (18, .aload_n 0, 1), (19, .getfield 96, 3), (22, .iload_n 1, 1), (23, .iaload, 1), (24, .goto 4, 3), (27, .iconst (-1), 1), (28, .ireturn, 1)]
def cd_200 : List (Nat × Instr × Nat) := [(0, .aload_n 0, 1), (1, .iconst 1, 1), (2, .putfield 322, 3), (5, .aload_n 0, 1), (6, .aload_n 0, 1), (7, .getfield 81, 3), (10, .iconst 0, 1), (11, .iconst 0, 1), (12, .invokevirtual 191, 3), (15, .aload_n 0, 1), (16, .getfield 99, 3), (19, .ireturn, 1)]
def cd_201 : List (Nat × Instr × Nat) := [(0, .aload_n 0, 1), (1, .getfield 322, 3), (4, .ifCond .ne 10, 3), (7, .aload_n 0, 1), (8, .bipush (-6), 2), (10, .invokevirtual 106, 3), (13, .ireturn, 1), (14, .aload_n 0, 1), (15, .aload_n 0, 1), (16, .getfield 81, 3), (19, .iconst 0, 1), (20, .iconst 1, 1), (21, .invokevirtual 191, 3), (24, .iconst 0, 1), (25, .istore_n 1, 1), (26, .iload_n 1, 1), (27, .bipush 8, 2), (29, .if_icmp .ge 39, 3), (32, .aload_n 0, 1), (33, .getfield 50, 3), (36, .iload_n 1, 1), (37, .iaload, 1), (38, .iconst 2, 1), (39, .if_icmp .ne 23, 3), (42, .aload_n 0, 1), (43, .getfield 59, 3), (46, .iload_n 1, 1), (47, .iaload, 1), (48, .aload_n 0, 1), (49, .getfield 99, 3), (52, .if_icmp .lt 10, 3), (55, .aload_n 0, 1), (56, .getfield 50, 3), (59, .iload_n 1, 1), (60, .iconst 0, 1), (61, .iastore, 1), (62, .iinc 1 1, 3), (65, .goto (-39), 3), (68, .aload_n 0, 1), (69, .getfield 99, 3), (72, .ireturn, 1)]
def cd_202 : List (Nat × Instr × Nat) := [(0, .iload_n 1, 1), (1, .bipush 11, 2), (3, .if_icmp .lt 19, 3), (6, .iload_n 1, 1), (7, .bipush 17, 2), (9, .if_icmp .gt 13, 3), (12, .aload_n 0, 1), (13, .getfield 28, 3), (16, .iload_n 1, 1), (17, .bipush 10, 2), (19, .isub, 1), (20, .iaload, 1), (21, .ireturn, 1), (22, .iconst 0, 1), (23, .istore_n 2, 1), (24, .iload_n 1, 1), (25, .tableswitch 142 0 10 #[59, 64, 93, 98, 103, 108, 113, 118, 123, 132, 137], 59), (84, .aload_n 0, 1), (85, .getfield 99, 3), (88, .ireturn, 1), (89, .iconst 0, 1), (90, .istore_n 3, 1), (91, .iload_n 3, 1), (92, .aload_n 0, 1), (93, .getfield 99, 3), (96, .if_icmp .ge 20, 3), (99, .iload_n 2, 1), (100, .aload_n 0, 1), (101, .getfield 38, 3), (104, .iload_n 3, 1), (105, .iaload, 1), (106, .iload_n 3, 1), (107, .ishl, 1), (108, .ior, 1), (109, .istore_n 2, 1), (110, .iinc 3 1, 3), (113, .goto (-22), 3), (116, .iload_n 2, 1), (117, .ireturn, 1), (118, .aload_n 0, 1), (119, .getfield 7, 3), (122, .ireturn, 1), (123, .aload_n 0, 1), (124, .getfield 133, 3), (127, .ireturn, 1), (128, .aload_n 0, 1), (129, .getfield 13, 3), (132, .ireturn, 1), (133, .aload_n 0, 1), (134, .getfield 136, 3), (137, .ireturn, 1), (138, .aload_n 0, 1), (139, .getfield 16, 3), (142, .ireturn, 1), (143, .aload_n 0, 1), (144, .getfield 19, 3), (147, .ireturn, 1), (148, .aload_n 0, 1), (149, .aload_n 0, 1), (150, .getfield 44, 3), (153, .invokevirtual 222, 3), (156, .ireturn, 1), (157, .aload_n 0, 1), (158, .getfield 22, 3), (161, .ireturn, 1), (162, .aload_n 0, 1), (163, .getfield 307, 3), (166, .ireturn, 1), (167, .iconst (-1), 1), (168, .ireturn, 1)]
def cd_203 : List (Nat × Instr × Nat) := [(0, .aload_n 0, 1), (1, .getfield 9, 3), (4, .arraylength, 1), (5, .aload_n 0, 1), (6, .invokevirtual 335, 3), (9, .ishr, 1), (10, .ireturn, 1)]
def cd_204 : List (Nat × Instr × Nat) := [(0, .aload_n 0, 1), (1, .invokevirtual 492, 3), (4, .ifCond .eq 12, 3), (7, .aload_n 0, 1), (8, .getfield 9, 3), (11, .iload_n 1, 1), (12, .invokestatic 495, 3), (15, .ireturn, 1), (16, .aload_n 0, 1), (17, .getfield 9, 3), (20, .iload_n 1, 1), (21, .invokestatic 498, 3), (24, .ireturn, 1)]
def cd_205 : List (Nat × Instr × Nat) := [(0, .getstatic 38, 3), (3, .ifCond .eq 10, 3), (6, .aload_n 0, 1), (7, .getfield 15, 3), (10, .goto 4, 3), (13, .iconst 1, 1), (14, .ireturn, 1)]
def cd_206 : List (Nat × Instr × Nat) := [(0, .getstatic 38, 3), (3, .ifCond .eq 14, 3), (6, .aload_n 0, 1), (7, .getfield 15, 3), (10, .ifCond .ne 7, 3), (13, .iconst 1, 1), (14, .goto 4, 3), (17, .iconst 0, 1), (18, .ireturn, 1)]
def cd_207 : List (Nat × Instr × Nat) := [(0, .iload_n 0, 1), (1, .iload_n 1, 1), (2, .getstatic 1053, 3), (5, .invokestatic 1059, 3), (8, .pop, 1), (9, .return_, 1)]
def cd_208 : List (Nat × Instr × Nat) := [(0, .iload_n 1, 1), (1, .aload_n 0, 1), (2, .arraylength, 1), (3, .invokestatic 9, 3), (6, .aload_n 0, 1), (7, .iload_n 1, 1), (8, .baload, 1), (9, .sipush 255, 3), (12, .iand, 1), (13, .i2c, 1), (14, .ireturn, 1)]
def cd_209 : List (Nat × Instr × Nat) := [(0, .iload_n 0, 1), (1, .ifCond .lt 8, 3), (4, .iload_n 0, 1), (5, .iload_n 1, 1), (6, .if_icmp .lt 10, 3), (9, .aload_n 2, 1), (10, .iload_n 0, 1), (11, .iload_n 1, 1), (12, .invokestatic 95, 3), (15, .athrow, 1), (16, .iload_n 0, 1), (17, .ireturn, 1)]
def ma_cd (μ : Nat) : List (Nat × Instr × Nat) := match μ with
  | 0 => cd_0
  | 1 => cd_1
  | 2 => cd_2
  | 3 => cd_3
  | 4 => cd_4
  | 5 => cd_5
  | 6 => cd_6
  | 7 => cd_7
  | 8 => cd_8
  | 9 => cd_9
  | 10 => cd_10
  | 11 => cd_11
  | 12 => cd_12
  | 13 => cd_13
  | 14 => cd_14
  | 15 => cd_15
  | 16 => cd_16
  | 17 => cd_17
  | 18 => cd_18
  | 19 => cd_19
  | 20 => cd_20
  | 21 => cd_21
  | 22 => cd_22
  | 23 => cd_23
  | 24 => cd_24
  | 25 => cd_25
  | 26 => cd_26
  | 27 => cd_27
  | 28 => cd_28
  | 29 => cd_29
  | 30 => cd_30
  | 31 => cd_31
  | 32 => cd_32
  | 33 => cd_33
  | 34 => cd_34
  | 35 => cd_35
  | 36 => cd_36
  | 37 => cd_37
  | 38 => cd_38
  | 39 => cd_39
  | 40 => cd_40
  | 41 => cd_41
  | 42 => cd_42
  | 43 => cd_43
  | 44 => cd_44
  | 45 => cd_45
  | 46 => cd_46
  | 47 => cd_47
  | 48 => cd_48
  | 49 => cd_49
  | 50 => cd_50
  | 51 => cd_51
  | 52 => cd_52
  | 53 => cd_53
  | 54 => cd_54
  | 55 => cd_55
  | 56 => cd_56
  | 57 => cd_57
  | 58 => cd_58
  | 59 => cd_59
  | 60 => cd_60
  | 61 => cd_61
  | 62 => cd_62
  | 63 => cd_63
  | 64 => cd_64
  | 65 => cd_65
  | 66 => cd_66
  | 67 => cd_67
  | 68 => cd_68
  | 69 => cd_69
  | 70 => cd_70
  | 71 => cd_71
  | 72 => cd_72
  | 73 => cd_73
  | 74 => cd_74
  | 75 => cd_75
  | 76 => cd_76
  | 77 => cd_77
  | 78 => cd_78
  | 79 => cd_79
  | 80 => cd_80
  | 81 => cd_81
  | 82 => cd_82
  | 83 => cd_83
  | 84 => cd_84
  | 85 => cd_85
  | 86 => cd_86
  | 87 => cd_87
  | 88 => cd_88
  | 89 => cd_89
  | 90 => cd_90
  | 91 => cd_91
  | 92 => cd_92
  | 93 => cd_93
  | 94 => cd_94
  | 95 => cd_95
  | 96 => cd_96
  | 97 => cd_97
  | 98 => cd_98
  | 99 => cd_99
  | 100 => cd_100
  | 101 => cd_101
  | 102 => cd_102
  | 103 => cd_103
  | 104 => cd_104
  | 105 => cd_105
  | 106 => cd_106
  | 107 => cd_107
  | 108 => cd_108
  | 109 => cd_109
  | 110 => cd_110
  | 111 => cd_111
  | 112 => cd_112
  | 113 => cd_113
  | 114 => cd_114
  | 115 => cd_115
  | 116 => cd_116
  | 117 => cd_117
  | 118 => cd_118
  | 119 => cd_119
  | 120 => cd_120
  | 121 => cd_121
  | 122 => cd_122
  | 123 => cd_123
  | 124 => cd_124
  | 125 => cd_125
  | 126 => cd_126
  | 127 => cd_127
  | 128 => cd_128
  | 129 => cd_129
  | 130 => cd_130
  | 131 => cd_131
  | 132 => cd_132
  | 133 => cd_133
  | 134 => cd_134
  | 135 => cd_135
  | 136 => cd_136
  | 137 => cd_137
  | 138 => cd_138
  | 139 => cd_139
  | 140 => cd_140
  | 141 => cd_141
  | 142 => cd_142
  | 143 => cd_143
  | 144 => cd_144
  | 145 => cd_145
  | 146 => cd_146
  | 147 => cd_147
  | 148 => cd_148
  | 149 => cd_149
  | 150 => cd_150
  | 151 => cd_151
  | 152 => cd_152
  | 153 => cd_153
  | 154 => cd_154
  | 155 => cd_155
  | 156 => cd_156
  | 157 => cd_157
  | 158 => cd_158
  | 159 => cd_159
  | 160 => cd_160
  | 161 => cd_161
  | 162 => cd_162
  | 163 => cd_163
  | 164 => cd_164
  | 165 => cd_165
  | 166 => cd_166
  | 167 => cd_167
  | 168 => cd_168
  | 169 => cd_169
  | 170 => cd_170
  | 171 => cd_171
  | 172 => cd_172
  | 173 => cd_173
  | 174 => cd_174
  | 175 => cd_175
  | 176 => cd_176
  | 177 => cd_177
  | 178 => cd_178
  | 179 => cd_179
  | 180 => cd_180
  | 181 => cd_181
  | 182 => cd_182
  | 183 => cd_183
  | 184 => cd_184
  | 185 => cd_185
  | 186 => cd_186
  | 187 => cd_187
  | 188 => cd_188
  | 189 => cd_189
  | 190 => cd_190
  | 191 => cd_191
  | 192 => cd_192
  | 193 => cd_193
  | 194 => cd_194
  | 195 => cd_195
  | 196 => cd_196
  | 197 => cd_197
  | 198 => cd_198
  | 199 => cd_199
  | 200 => cd_200
  | 201 => cd_201
  | 202 => cd_202
  | 203 => cd_203
  | 204 => cd_204
  | 205 => cd_205
  | 206 => cd_206
  | 207 => cd_207
  | 208 => cd_208
  | 209 => cd_209
  | _ => []
theorem hc_0 : ma_cd 0 = cd_0 := rfl
theorem hc_1 : ma_cd 1 = cd_1 := rfl
theorem hc_2 : ma_cd 2 = cd_2 := rfl
theorem hc_3 : ma_cd 3 = cd_3 := rfl
theorem hc_4 : ma_cd 4 = cd_4 := rfl
theorem hc_5 : ma_cd 5 = cd_5 := rfl
theorem hc_6 : ma_cd 6 = cd_6 := rfl
theorem hc_7 : ma_cd 7 = cd_7 := rfl
theorem hc_8 : ma_cd 8 = cd_8 := rfl
theorem hc_9 : ma_cd 9 = cd_9 := rfl
theorem hc_10 : ma_cd 10 = cd_10 := rfl
theorem hc_11 : ma_cd 11 = cd_11 := rfl
theorem hc_12 : ma_cd 12 = cd_12 := rfl
theorem hc_13 : ma_cd 13 = cd_13 := rfl
theorem hc_14 : ma_cd 14 = cd_14 := rfl
theorem hc_15 : ma_cd 15 = cd_15 := rfl
theorem hc_16 : ma_cd 16 = cd_16 := rfl
theorem hc_17 : ma_cd 17 = cd_17 := rfl
theorem hc_18 : ma_cd 18 = cd_18 := rfl
theorem hc_19 : ma_cd 19 = cd_19 := rfl
theorem hc_20 : ma_cd 20 = cd_20 := rfl
theorem hc_21 : ma_cd 21 = cd_21 := rfl
theorem hc_22 : ma_cd 22 = cd_22 := rfl
theorem hc_23 : ma_cd 23 = cd_23 := rfl
theorem hc_24 : ma_cd 24 = cd_24 := rfl
theorem hc_25 : ma_cd 25 = cd_25 := rfl
theorem hc_26 : ma_cd 26 = cd_26 := rfl
theorem hc_27 : ma_cd 27 = cd_27 := rfl
theorem hc_28 : ma_cd 28 = cd_28 := rfl
theorem hc_29 : ma_cd 29 = cd_29 := rfl
theorem hc_30 : ma_cd 30 = cd_30 := rfl
theorem hc_31 : ma_cd 31 = cd_31 := rfl
theorem hc_32 : ma_cd 32 = cd_32 := rfl
theorem hc_33 : ma_cd 33 = cd_33 := rfl
theorem hc_34 : ma_cd 34 = cd_34 := rfl
theorem hc_35 : ma_cd 35 = cd_35 := rfl
theorem hc_36 : ma_cd 36 = cd_36 := rfl
theorem hc_37 : ma_cd 37 = cd_37 := rfl
theorem hc_38 : ma_cd 38 = cd_38 := rfl
theorem hc_39 : ma_cd 39 = cd_39 := rfl
theorem hc_40 : ma_cd 40 = cd_40 := rfl
theorem hc_41 : ma_cd 41 = cd_41 := rfl
theorem hc_42 : ma_cd 42 = cd_42 := rfl
theorem hc_43 : ma_cd 43 = cd_43 := rfl
theorem hc_44 : ma_cd 44 = cd_44 := rfl
theorem hc_45 : ma_cd 45 = cd_45 := rfl
theorem hc_46 : ma_cd 46 = cd_46 := rfl
theorem hc_47 : ma_cd 47 = cd_47 := rfl
theorem hc_48 : ma_cd 48 = cd_48 := rfl
theorem hc_49 : ma_cd 49 = cd_49 := rfl
theorem hc_50 : ma_cd 50 = cd_50 := rfl
theorem hc_51 : ma_cd 51 = cd_51 := rfl
theorem hc_52 : ma_cd 52 = cd_52 := rfl
theorem hc_53 : ma_cd 53 = cd_53 := rfl
theorem hc_54 : ma_cd 54 = cd_54 := rfl
theorem hc_55 : ma_cd 55 = cd_55 := rfl
theorem hc_56 : ma_cd 56 = cd_56 := rfl
theorem hc_57 : ma_cd 57 = cd_57 := rfl
theorem hc_58 : ma_cd 58 = cd_58 := rfl
theorem hc_59 : ma_cd 59 = cd_59 := rfl
theorem hc_60 : ma_cd 60 = cd_60 := rfl
theorem hc_61 : ma_cd 61 = cd_61 := rfl
theorem hc_62 : ma_cd 62 = cd_62 := rfl
theorem hc_63 : ma_cd 63 = cd_63 := rfl
theorem hc_64 : ma_cd 64 = cd_64 := rfl
theorem hc_65 : ma_cd 65 = cd_65 := rfl
theorem hc_66 : ma_cd 66 = cd_66 := rfl
theorem hc_67 : ma_cd 67 = cd_67 := rfl
theorem hc_68 : ma_cd 68 = cd_68 := rfl
theorem hc_69 : ma_cd 69 = cd_69 := rfl
theorem hc_70 : ma_cd 70 = cd_70 := rfl
theorem hc_71 : ma_cd 71 = cd_71 := rfl
theorem hc_72 : ma_cd 72 = cd_72 := rfl
theorem hc_73 : ma_cd 73 = cd_73 := rfl
theorem hc_74 : ma_cd 74 = cd_74 := rfl
theorem hc_75 : ma_cd 75 = cd_75 := rfl
theorem hc_76 : ma_cd 76 = cd_76 := rfl
theorem hc_77 : ma_cd 77 = cd_77 := rfl
theorem hc_78 : ma_cd 78 = cd_78 := rfl
theorem hc_79 : ma_cd 79 = cd_79 := rfl
theorem hc_80 : ma_cd 80 = cd_80 := rfl
theorem hc_81 : ma_cd 81 = cd_81 := rfl
theorem hc_82 : ma_cd 82 = cd_82 := rfl
theorem hc_83 : ma_cd 83 = cd_83 := rfl
theorem hc_84 : ma_cd 84 = cd_84 := rfl
theorem hc_85 : ma_cd 85 = cd_85 := rfl
theorem hc_86 : ma_cd 86 = cd_86 := rfl
theorem hc_87 : ma_cd 87 = cd_87 := rfl
theorem hc_88 : ma_cd 88 = cd_88 := rfl
theorem hc_89 : ma_cd 89 = cd_89 := rfl
theorem hc_90 : ma_cd 90 = cd_90 := rfl
theorem hc_91 : ma_cd 91 = cd_91 := rfl
theorem hc_92 : ma_cd 92 = cd_92 := rfl
theorem hc_93 : ma_cd 93 = cd_93 := rfl
theorem hc_94 : ma_cd 94 = cd_94 := rfl
theorem hc_95 : ma_cd 95 = cd_95 := rfl
theorem hc_96 : ma_cd 96 = cd_96 := rfl
theorem hc_97 : ma_cd 97 = cd_97 := rfl
theorem hc_98 : ma_cd 98 = cd_98 := rfl
theorem hc_99 : ma_cd 99 = cd_99 := rfl
theorem hc_100 : ma_cd 100 = cd_100 := rfl
theorem hc_101 : ma_cd 101 = cd_101 := rfl
theorem hc_102 : ma_cd 102 = cd_102 := rfl
theorem hc_103 : ma_cd 103 = cd_103 := rfl
theorem hc_104 : ma_cd 104 = cd_104 := rfl
theorem hc_105 : ma_cd 105 = cd_105 := rfl
theorem hc_106 : ma_cd 106 = cd_106 := rfl
theorem hc_107 : ma_cd 107 = cd_107 := rfl
theorem hc_108 : ma_cd 108 = cd_108 := rfl
theorem hc_109 : ma_cd 109 = cd_109 := rfl
theorem hc_110 : ma_cd 110 = cd_110 := rfl
theorem hc_111 : ma_cd 111 = cd_111 := rfl
theorem hc_112 : ma_cd 112 = cd_112 := rfl
theorem hc_113 : ma_cd 113 = cd_113 := rfl
theorem hc_114 : ma_cd 114 = cd_114 := rfl
theorem hc_115 : ma_cd 115 = cd_115 := rfl
theorem hc_116 : ma_cd 116 = cd_116 := rfl
theorem hc_117 : ma_cd 117 = cd_117 := rfl
theorem hc_118 : ma_cd 118 = cd_118 := rfl
theorem hc_119 : ma_cd 119 = cd_119 := rfl
theorem hc_120 : ma_cd 120 = cd_120 := rfl
theorem hc_121 : ma_cd 121 = cd_121 := rfl
theorem hc_122 : ma_cd 122 = cd_122 := rfl
theorem hc_123 : ma_cd 123 = cd_123 := rfl
theorem hc_124 : ma_cd 124 = cd_124 := rfl
theorem hc_125 : ma_cd 125 = cd_125 := rfl
theorem hc_126 : ma_cd 126 = cd_126 := rfl
theorem hc_127 : ma_cd 127 = cd_127 := rfl
theorem hc_128 : ma_cd 128 = cd_128 := rfl
theorem hc_129 : ma_cd 129 = cd_129 := rfl
theorem hc_130 : ma_cd 130 = cd_130 := rfl
theorem hc_131 : ma_cd 131 = cd_131 := rfl
theorem hc_132 : ma_cd 132 = cd_132 := rfl
theorem hc_133 : ma_cd 133 = cd_133 := rfl
theorem hc_134 : ma_cd 134 = cd_134 := rfl
theorem hc_135 : ma_cd 135 = cd_135 := rfl
theorem hc_136 : ma_cd 136 = cd_136 := rfl
theorem hc_137 : ma_cd 137 = cd_137 := rfl
theorem hc_138 : ma_cd 138 = cd_138 := rfl
theorem hc_139 : ma_cd 139 = cd_139 := rfl
theorem hc_140 : ma_cd 140 = cd_140 := rfl
theorem hc_141 : ma_cd 141 = cd_141 := rfl
theorem hc_142 : ma_cd 142 = cd_142 := rfl
theorem hc_143 : ma_cd 143 = cd_143 := rfl
theorem hc_144 : ma_cd 144 = cd_144 := rfl
theorem hc_145 : ma_cd 145 = cd_145 := rfl
theorem hc_146 : ma_cd 146 = cd_146 := rfl
theorem hc_147 : ma_cd 147 = cd_147 := rfl
theorem hc_148 : ma_cd 148 = cd_148 := rfl
theorem hc_149 : ma_cd 149 = cd_149 := rfl
theorem hc_150 : ma_cd 150 = cd_150 := rfl
theorem hc_151 : ma_cd 151 = cd_151 := rfl
theorem hc_152 : ma_cd 152 = cd_152 := rfl
theorem hc_153 : ma_cd 153 = cd_153 := rfl
theorem hc_154 : ma_cd 154 = cd_154 := rfl
theorem hc_155 : ma_cd 155 = cd_155 := rfl
theorem hc_156 : ma_cd 156 = cd_156 := rfl
theorem hc_157 : ma_cd 157 = cd_157 := rfl
theorem hc_158 : ma_cd 158 = cd_158 := rfl
theorem hc_159 : ma_cd 159 = cd_159 := rfl
theorem hc_160 : ma_cd 160 = cd_160 := rfl
theorem hc_161 : ma_cd 161 = cd_161 := rfl
theorem hc_162 : ma_cd 162 = cd_162 := rfl
theorem hc_163 : ma_cd 163 = cd_163 := rfl
theorem hc_164 : ma_cd 164 = cd_164 := rfl
theorem hc_165 : ma_cd 165 = cd_165 := rfl
theorem hc_166 : ma_cd 166 = cd_166 := rfl
theorem hc_167 : ma_cd 167 = cd_167 := rfl
theorem hc_168 : ma_cd 168 = cd_168 := rfl
theorem hc_169 : ma_cd 169 = cd_169 := rfl
theorem hc_170 : ma_cd 170 = cd_170 := rfl
theorem hc_171 : ma_cd 171 = cd_171 := rfl
theorem hc_172 : ma_cd 172 = cd_172 := rfl
theorem hc_173 : ma_cd 173 = cd_173 := rfl
theorem hc_174 : ma_cd 174 = cd_174 := rfl
theorem hc_175 : ma_cd 175 = cd_175 := rfl
theorem hc_176 : ma_cd 176 = cd_176 := rfl
theorem hc_177 : ma_cd 177 = cd_177 := rfl
theorem hc_178 : ma_cd 178 = cd_178 := rfl
theorem hc_179 : ma_cd 179 = cd_179 := rfl
theorem hc_180 : ma_cd 180 = cd_180 := rfl
theorem hc_181 : ma_cd 181 = cd_181 := rfl
theorem hc_182 : ma_cd 182 = cd_182 := rfl
theorem hc_183 : ma_cd 183 = cd_183 := rfl
theorem hc_184 : ma_cd 184 = cd_184 := rfl
theorem hc_185 : ma_cd 185 = cd_185 := rfl
theorem hc_186 : ma_cd 186 = cd_186 := rfl
theorem hc_187 : ma_cd 187 = cd_187 := rfl
theorem hc_188 : ma_cd 188 = cd_188 := rfl
theorem hc_189 : ma_cd 189 = cd_189 := rfl
theorem hc_190 : ma_cd 190 = cd_190 := rfl
theorem hc_191 : ma_cd 191 = cd_191 := rfl
theorem hc_192 : ma_cd 192 = cd_192 := rfl
theorem hc_193 : ma_cd 193 = cd_193 := rfl
theorem hc_194 : ma_cd 194 = cd_194 := rfl
theorem hc_195 : ma_cd 195 = cd_195 := rfl
theorem hc_196 : ma_cd 196 = cd_196 := rfl
theorem hc_197 : ma_cd 197 = cd_197 := rfl
theorem hc_198 : ma_cd 198 = cd_198 := rfl
theorem hc_199 : ma_cd 199 = cd_199 := rfl
theorem hc_200 : ma_cd 200 = cd_200 := rfl
theorem hc_201 : ma_cd 201 = cd_201 := rfl
theorem hc_202 : ma_cd 202 = cd_202 := rfl
theorem hc_203 : ma_cd 203 = cd_203 := rfl
theorem hc_204 : ma_cd 204 = cd_204 := rfl
theorem hc_205 : ma_cd 205 = cd_205 := rfl
theorem hc_206 : ma_cd 206 = cd_206 := rfl
theorem hc_207 : ma_cd 207 = cd_207 := rfl
theorem hc_208 : ma_cd 208 = cd_208 := rfl
theorem hc_209 : ma_cd 209 = cd_209 := rfl
def ma_by (μ : Nat) : ByteArray := match μ with
  | 0 => prog_2_method_2_code
  | 1 => prog_2_method_3_code
  | 2 => prog_2_method_4_code
  | 3 => prog_2_method_5_code
  | 4 => prog_2_method_6_code
  | 5 => prog_2_method_7_code
  | 6 => prog_2_method_8_code
  | 7 => prog_2_method_9_code
  | 8 => prog_2_method_10_code
  | 9 => prog_2_method_11_code
  | 10 => prog_2_method_12_code
  | 11 => prog_2_method_13_code
  | 12 => prog_2_method_14_code
  | 13 => prog_2_method_15_code
  | 14 => prog_2_method_16_code
  | 15 => prog_2_method_17_code
  | 16 => prog_2_method_18_code
  | 17 => prog_2_method_19_code
  | 18 => prog_2_method_20_code
  | 19 => prog_2_method_21_code
  | 20 => prog_2_method_22_code
  | 21 => prog_3_method_2_code
  | 22 => prog_3_method_3_code
  | 23 => prog_3_method_4_code
  | 24 => prog_4_method_2_code
  | 25 => prog_4_method_3_code
  | 26 => prog_4_method_4_code
  | 27 => prog_4_method_5_code
  | 28 => prog_4_method_6_code
  | 29 => prog_4_method_7_code
  | 30 => prog_4_method_8_code
  | 31 => prog_4_method_9_code
  | 32 => prog_4_method_10_code
  | 33 => prog_5_method_2_code
  | 34 => prog_5_method_3_code
  | 35 => prog_5_method_4_code
  | 36 => prog_5_method_5_code
  | 37 => prog_5_method_6_code
  | 38 => prog_5_method_7_code
  | 39 => prog_5_method_8_code
  | 40 => prog_5_method_9_code
  | 41 => prog_5_method_10_code
  | 42 => prog_5_method_11_code
  | 43 => prog_6_method_2_code
  | 44 => prog_6_method_3_code
  | 45 => prog_6_method_4_code
  | 46 => prog_6_method_5_code
  | 47 => prog_6_method_6_code
  | 48 => prog_6_method_7_code
  | 49 => prog_6_method_8_code
  | 50 => prog_7_method_2_code
  | 51 => prog_7_method_3_code
  | 52 => prog_7_method_4_code
  | 53 => prog_7_method_5_code
  | 54 => prog_7_method_6_code
  | 55 => prog_7_method_7_code
  | 56 => prog_7_method_8_code
  | 57 => prog_8_method_2_code
  | 58 => prog_8_method_3_code
  | 59 => prog_8_method_4_code
  | 60 => prog_1_method_2_code
  | 61 => prog_1_method_3_code
  | 62 => prog_1_method_4_code
  | 63 => prog_1_method_5_code
  | 64 => prog_1_method_6_code
  | 65 => prog_1_method_7_code
  | 66 => prog_1_method_8_code
  | 67 => prog_1_method_9_code
  | 68 => prog_1_method_10_code
  | 69 => prog_1_method_11_code
  | 70 => prog_1_method_12_code
  | 71 => prog_1_method_13_code
  | 72 => prog_1_method_14_code
  | 73 => prog_1_method_15_code
  | 74 => prog_1_method_16_code
  | 75 => prog_1_method_17_code
  | 76 => prog_1_method_18_code
  | 77 => prog_1_method_19_code
  | 78 => prog_1_method_20_code
  | 79 => prog_1_method_21_code
  | 80 => prog_1_method_22_code
  | 81 => prog_1_method_23_code
  | 82 => prog_1_method_24_code
  | 83 => prog_1_method_25_code
  | 84 => prog_1_method_26_code
  | 85 => prog_1_method_27_code
  | 86 => prog_1_method_28_code
  | 87 => prog_1_method_29_code
  | 88 => prog_1_method_30_code
  | 89 => prog_1_method_31_code
  | 90 => prog_1_method_32_code
  | 91 => prog_1_method_33_code
  | 92 => prog_1_method_34_code
  | 93 => prog_1_method_35_code
  | 94 => prog_1_method_36_code
  | 95 => prog_1_method_37_code
  | 96 => prog_1_method_38_code
  | 97 => prog_1_method_39_code
  | 98 => prog_1_method_40_code
  | 99 => prog_1_method_41_code
  | 100 => prog_1_method_42_code
  | 101 => prog_1_method_43_code
  | 102 => prog_1_method_44_code
  | 103 => prog_1_method_45_code
  | 104 => prog_1_method_46_code
  | 105 => prog_1_method_47_code
  | 106 => prog_1_method_48_code
  | 107 => prog_1_method_49_code
  | 108 => prog_1_method_50_code
  | 109 => prog_1_method_51_code
  | 110 => prog_1_method_52_code
  | 111 => prog_1_method_53_code
  | 112 => prog_1_method_54_code
  | 113 => prog_10_method_2_code
  | 114 => prog_10_method_3_code
  | 115 => prog_10_method_4_code
  | 116 => prog_10_method_5_code
  | 117 => prog_10_method_6_code
  | 118 => prog_10_method_7_code
  | 119 => prog_10_method_8_code
  | 120 => prog_10_method_9_code
  | 121 => prog_10_method_10_code
  | 122 => prog_10_method_11_code
  | 123 => prog_10_method_12_code
  | 124 => prog_10_method_13_code
  | 125 => prog_10_method_14_code
  | 126 => prog_10_method_15_code
  | 127 => prog_10_method_16_code
  | 128 => prog_10_method_17_code
  | 129 => prog_10_method_18_code
  | 130 => prog_10_method_19_code
  | 131 => prog_10_method_20_code
  | 132 => prog_10_method_21_code
  | 133 => prog_10_method_22_code
  | 134 => prog_10_method_23_code
  | 135 => prog_10_method_24_code
  | 136 => prog_10_method_25_code
  | 137 => prog_10_method_26_code
  | 138 => prog_10_method_27_code
  | 139 => prog_10_method_28_code
  | 140 => prog_10_method_29_code
  | 141 => prog_10_method_30_code
  | 142 => prog_10_method_31_code
  | 143 => prog_10_method_32_code
  | 144 => prog_10_method_33_code
  | 145 => prog_10_method_34_code
  | 146 => prog_10_method_35_code
  | 147 => prog_10_method_36_code
  | 148 => prog_10_method_37_code
  | 149 => prog_10_method_38_code
  | 150 => prog_10_method_39_code
  | 151 => prog_10_method_40_code
  | 152 => prog_10_method_41_code
  | 153 => prog_10_method_42_code
  | 154 => prog_10_method_43_code
  | 155 => prog_10_method_44_code
  | 156 => prog_10_method_45_code
  | 157 => prog_10_method_46_code
  | 158 => prog_10_method_47_code
  | 159 => prog_10_method_48_code
  | 160 => prog_10_method_49_code
  | 161 => prog_10_method_50_code
  | 162 => prog_10_method_51_code
  | 163 => prog_10_method_52_code
  | 164 => prog_10_method_53_code
  | 165 => prog_10_method_54_code
  | 166 => prog_10_method_55_code
  | 167 => prog_10_method_56_code
  | 168 => prog_10_method_57_code
  | 169 => prog_10_method_58_code
  | 170 => prog_10_method_59_code
  | 171 => prog_10_method_60_code
  | 172 => prog_10_method_61_code
  | 173 => prog_10_method_62_code
  | 174 => prog_10_method_63_code
  | 175 => prog_10_method_64_code
  | 176 => prog_10_method_65_code
  | 177 => prog_10_method_66_code
  | 178 => prog_10_method_67_code
  | 179 => prog_10_method_68_code
  | 180 => prog_10_method_69_code
  | 181 => prog_10_method_70_code
  | 182 => prog_10_method_71_code
  | 183 => prog_10_method_72_code
  | 184 => prog_10_method_73_code
  | 185 => prog_10_method_74_code
  | 186 => prog_10_method_75_code
  | 187 => prog_10_method_76_code
  | 188 => prog_10_method_77_code
  | 189 => prog_10_method_78_code
  | 190 => prog_10_method_79_code
  | 191 => prog_10_method_80_code
  | 192 => prog_10_method_81_code
  | 193 => prog_10_method_82_code
  | 194 => prog_10_method_83_code
  | 195 => prog_10_method_84_code
  | 196 => prog_10_method_85_code
  | 197 => prog_10_method_86_code
  | 198 => prog_10_method_87_code
  | 199 => prog_10_method_88_code
  | 200 => prog_10_method_89_code
  | 201 => prog_10_method_90_code
  | 202 => prog_10_method_91_code
  | 203 => prog_12_method_54_code
  | 204 => prog_12_method_56_code
  | 205 => prog_12_method_152_code
  | 206 => prog_12_method_154_code
  | 207 => prog_12_method_155_code
  | 208 => prog_13_method_2_code
  | 209 => prog_16_method_11_code
  | _ => prog_2_method_1_code
def ma_nm (μ : Nat) : MethodName := match μ with
  | 0 => ⟨"OneSledgeForTwo$Hill", "become", "(LOneSledgeForTwo$Hill;)V"⟩
  | 1 => ⟨"OneSledgeForTwo$Hill", "beginDay", "(I)V"⟩
  | 2 => ⟨"OneSledgeForTwo$Hill", "has", "(I)Z"⟩
  | 3 => ⟨"OneSledgeForTwo$Hill", "hasRoom", "()Z"⟩
  | 4 => ⟨"OneSledgeForTwo$Hill", "addRider", "(II)I"⟩
  | 5 => ⟨"OneSledgeForTwo$Hill", "atTop", "()I"⟩
  | 6 => ⟨"OneSledgeForTwo$Hill", "allRuns", "()I"⟩
  | 7 => ⟨"OneSledgeForTwo$Hill", "allWaited", "()I"⟩
  | 8 => ⟨"OneSledgeForTwo$Hill", "runsApart", "()I"⟩
  | 9 => ⟨"OneSledgeForTwo$Hill", "drawBelow", "(I)I"⟩
  | 10 => ⟨"OneSledgeForTwo$Hill", "moveOf", "(III)I"⟩
  | 11 => ⟨"OneSledgeForTwo$Hill", "sortOf", "(I)I"⟩
  | 12 => ⟨"OneSledgeForTwo$Hill", "isByTwo", "(I)Z"⟩
  | 13 => ⟨"OneSledgeForTwo$Hill", "runsOf", "(I)I"⟩
  | 14 => ⟨"OneSledgeForTwo$Hill", "isMove", "(I)Z"⟩
  | 15 => ⟨"OneSledgeForTwo$Hill", "minutesOf", "(I)I"⟩
  | 16 => ⟨"OneSledgeForTwo$Hill", "mayBe", "(I)Z"⟩
  | 17 => ⟨"OneSledgeForTwo$Hill", "make", "(I)Z"⟩
  | 18 => ⟨"OneSledgeForTwo$Hill", "takesPart", "(II)Z"⟩
  | 19 => ⟨"OneSledgeForTwo$Hill", "bringSledge", "(I)V"⟩
  | 20 => ⟨"OneSledgeForTwo$Hill", "list", "(II)I"⟩
  | 21 => ⟨"OneSledgeForTwo$Lookahead", "find", "(LOneSledgeForTwo$Hill;I)V"⟩
  | 22 => ⟨"OneSledgeForTwo$Lookahead", "look", "(LOneSledgeForTwo$Lookahead;IIII)V"⟩
  | 23 => ⟨"OneSledgeForTwo$Lookahead", "compare", "(III)V"⟩
  | 24 => ⟨"OneSledgeForTwo$Reader", "read", "(LOneSledgeForTwo$Hill;LOneSledgeForTwo$Shelf;)I"⟩
  | 25 => ⟨"OneSledgeForTwo$Reader", "readItem", "()V"⟩
  | 26 => ⟨"OneSledgeForTwo$Reader", "readRider", "(I)V"⟩
  | 27 => ⟨"OneSledgeForTwo$Reader", "place", "(I)V"⟩
  | 28 => ⟨"OneSledgeForTwo$Reader", "word", "(I)Ljava/lang/String;"⟩
  | 29 => ⟨"OneSledgeForTwo$Reader", "readWord", "()I"⟩
  | 30 => ⟨"OneSledgeForTwo$Reader", "readNumber", "(II)I"⟩
  | 31 => ⟨"OneSledgeForTwo$Reader", "expect", "(C)V"⟩
  | 32 => ⟨"OneSledgeForTwo$Reader", "letterAt", "(I)I"⟩
  | 33 => ⟨"OneSledgeForTwo$Rider", "begin", "(II)V"⟩
  | 34 => ⟨"OneSledgeForTwo$Rider", "beginDay", "()V"⟩
  | 35 => ⟨"OneSledgeForTwo$Rider", "become", "(LOneSledgeForTwo$Rider;)V"⟩
  | 36 => ⟨"OneSledgeForTwo$Rider", "isOf", "(I)Z"⟩
  | 37 => ⟨"OneSledgeForTwo$Rider", "downAlone", "(I)I"⟩
  | 38 => ⟨"OneSledgeForTwo$Rider", "pullAlone", "(I)I"⟩
  | 39 => ⟨"OneSledgeForTwo$Rider", "walkUp", "(I)I"⟩
  | 40 => ⟨"OneSledgeForTwo$Rider", "onFoot", "()I"⟩
  | 41 => ⟨"OneSledgeForTwo$Rider", "comeAlong", "(I)V"⟩
  | 42 => ⟨"OneSledgeForTwo$Rider", "recover", "(I)V"⟩
  | 43 => ⟨"OneSledgeForTwo$Sharing", "play", "(LOneSledgeForTwo$Hill;III)I"⟩
  | 44 => ⟨"OneSledgeForTwo$Sharing", "together", "()I"⟩
  | 45 => ⟨"OneSledgeForTwo$Sharing", "inTurns", "()I"⟩
  | 46 => ⟨"OneSledgeForTwo$Sharing", "rested", "()I"⟩
  | 47 => ⟨"OneSledgeForTwo$Sharing", "leastTired", "(I)I"⟩
  | 48 => ⟨"OneSledgeForTwo$Sharing", "strongest", "()I"⟩
  | 49 => ⟨"OneSledgeForTwo$Sharing", "quickest", "(I)I"⟩
  | 50 => ⟨"OneSledgeForTwo$Shelf", "hasRow", "()Z"⟩
  | 51 => ⟨"OneSledgeForTwo$Shelf", "hasRider", "()Z"⟩
  | 52 => ⟨"OneSledgeForTwo$Shelf", "hasElement", "(I)Z"⟩
  | 53 => ⟨"OneSledgeForTwo$Shelf", "hold", "(I)V"⟩
  | 54 => ⟨"OneSledgeForTwo$Shelf", "holdRow", "(II)V"⟩
  | 55 => ⟨"OneSledgeForTwo$Shelf", "put", "(IJ)V"⟩
  | 56 => ⟨"OneSledgeForTwo$Shelf", "asInt", "(I)I"⟩
  | 57 => ⟨"OneSledgeForTwo$Trace", "clear", "()V"⟩
  | 58 => ⟨"OneSledgeForTwo$Trace", "note", "(I)V"⟩
  | 59 => ⟨"OneSledgeForTwo$Trace", "bodyAt", "(I)I"⟩
  | 60 => ⟨"OneSledgeForTwo", "row", "(III)I"⟩
  | 61 => ⟨"OneSledgeForTwo", "set", "(IIJ)I"⟩
  | 62 => ⟨"OneSledgeForTwo", "copy", "(IIIII)I"⟩
  | 63 => ⟨"OneSledgeForTwo", "element", "(II)J"⟩
  | 64 => ⟨"OneSledgeForTwo", "show", "(II)I"⟩
  | 65 => ⟨"OneSledgeForTwo", "holds", "(I)I"⟩
  | 66 => ⟨"OneSledgeForTwo", "says", "(II)I"⟩
  | 67 => ⟨"OneSledgeForTwo", "rider", "(II)I"⟩
  | 68 => ⟨"OneSledgeForTwo", "riderOf", "(II)I"⟩
  | 69 => ⟨"OneSledgeForTwo", "tell", "(III)I"⟩
  | 70 => ⟨"OneSledgeForTwo", "sledges", "(II)I"⟩
  | 71 => ⟨"OneSledgeForTwo", "ask", "(II)I"⟩
  | 72 => ⟨"OneSledgeForTwo", "hill", "(I)I"⟩
  | 73 => ⟨"OneSledgeForTwo", "fault", "()I"⟩
  | 74 => ⟨"OneSledgeForTwo", "takes", "(I)I"⟩
  | 75 => ⟨"OneSledgeForTwo", "may", "(I)I"⟩
  | 76 => ⟨"OneSledgeForTwo", "next", "(I)I"⟩
  | 77 => ⟨"OneSledgeForTwo", "ahead", "(II)I"⟩
  | 78 => ⟨"OneSledgeForTwo", "by", "(II)I"⟩
  | 79 => ⟨"OneSledgeForTwo", "fair", "(I)I"⟩
  | 80 => ⟨"OneSledgeForTwo", "best", "(I)I"⟩
  | 81 => ⟨"OneSledgeForTwo", "fits", "(I)I"⟩
  | 82 => ⟨"OneSledgeForTwo", "pennies", "(I)I"⟩
  | 83 => ⟨"OneSledgeForTwo", "who", "(I)I"⟩
  | 84 => ⟨"OneSledgeForTwo", "judge", "(II)I"⟩
  | 85 => ⟨"OneSledgeForTwo", "behind", "(III)I"⟩
  | 86 => ⟨"OneSledgeForTwo", "done", "(II)I"⟩
  | 87 => ⟨"OneSledgeForTwo", "road", "(IIIII)I"⟩
  | 88 => ⟨"OneSledgeForTwo", "move", "(I)I"⟩
  | 89 => ⟨"OneSledgeForTwo", "goes", "(II)I"⟩
  | 90 => ⟨"OneSledgeForTwo", "winter", "(I)I"⟩
  | 91 => ⟨"OneSledgeForTwo", "day", "(I)I"⟩
  | 92 => ⟨"OneSledgeForTwo", "seed", "(I)I"⟩
  | 93 => ⟨"OneSledgeForTwo", "act", "(III)I"⟩
  | 94 => ⟨"OneSledgeForTwo", "trace", "(I)I"⟩
  | 95 => ⟨"OneSledgeForTwo", "image", "()I"⟩
  | 96 => ⟨"OneSledgeForTwo", "restore", "()I"⟩
  | 97 => ⟨"OneSledgeForTwo", "status", "(I)I"⟩
  | 98 => ⟨"OneSledgeForTwo", "refuse", "(I)I"⟩
  | 99 => ⟨"OneSledgeForTwo", "rowRefusal", "(I)I"⟩
  | 100 => ⟨"OneSledgeForTwo", "copyRefusal", "(IIIII)I"⟩
  | 101 => ⟨"OneSledgeForTwo", "toldRefusal", "(IIZ)I"⟩
  | 102 => ⟨"OneSledgeForTwo", "isShelf", "(I)Z"⟩
  | 103 => ⟨"OneSledgeForTwo", "isKind", "(I)Z"⟩
  | 104 => ⟨"OneSledgeForTwo", "isRule", "(I)Z"⟩
  | 105 => ⟨"OneSledgeForTwo", "isIn", "(III)Z"⟩
  | 106 => ⟨"OneSledgeForTwo", "saying", "(LOneSledgeForTwo$Rider;I)I"⟩
  | 107 => ⟨"OneSledgeForTwo", "standing", "(LOneSledgeForTwo$Rider;I)I"⟩
  | 108 => ⟨"OneSledgeForTwo", "runsMore", "(I)I"⟩
  | 109 => ⟨"OneSledgeForTwo", "hadSo", "(LOneSledgeForTwo$Shelf;)Z"⟩
  | 110 => ⟨"OneSledgeForTwo", "firstWrong", "(LOneSledgeForTwo$Shelf;I)I"⟩
  | 111 => ⟨"OneSledgeForTwo", "laterThere", "(IIIII)I"⟩
  | 112 => ⟨"OneSledgeForTwo", "perform", "(LOneSledgeForTwo$Rider;IIILOneSledgeForTwo$Trace;I)I"⟩
  | 113 => ⟨"OneSledgeForTwoModel", "no", "(I)I"⟩
  | 114 => ⟨"OneSledgeForTwoModel", "noTen", "(I)I"⟩
  | 115 => ⟨"OneSledgeForTwoModel", "isShelf", "(I)Z"⟩
  | 116 => ⟨"OneSledgeForTwoModel", "isRider", "(I)Z"⟩
  | 117 => ⟨"OneSledgeForTwoModel", "row", "(III)I"⟩
  | 118 => ⟨"OneSledgeForTwoModel", "set", "(IIJ)I"⟩
  | 119 => ⟨"OneSledgeForTwoModel", "copy", "(IIIII)I"⟩
  | 120 => ⟨"OneSledgeForTwoModel", "element", "(II)J"⟩
  | 121 => ⟨"OneSledgeForTwoModel", "show", "(II)I"⟩
  | 122 => ⟨"OneSledgeForTwoModel", "holds", "(I)I"⟩
  | 123 => ⟨"OneSledgeForTwoModel", "says", "(II)I"⟩
  | 124 => ⟨"OneSledgeForTwoModel", "wanted", "(I)I"⟩
  | 125 => ⟨"OneSledgeForTwoModel", "intAt", "(II)I"⟩
  | 126 => ⟨"OneSledgeForTwoModel", "bars", "(II)I"⟩
  | 127 => ⟨"OneSledgeForTwoModel", "adds", "(II)I"⟩
  | 128 => ⟨"OneSledgeForTwoModel", "rider", "(II)I"⟩
  | 129 => ⟨"OneSledgeForTwoModel", "riderOf", "(II)I"⟩
  | 130 => ⟨"OneSledgeForTwoModel", "tell", "(III)I"⟩
  | 131 => ⟨"OneSledgeForTwoModel", "areSledges", "(II)Z"⟩
  | 132 => ⟨"OneSledgeForTwoModel", "sledges", "(II)I"⟩
  | 133 => ⟨"OneSledgeForTwoModel", "isAsked", "(II)Z"⟩
  | 134 => ⟨"OneSledgeForTwoModel", "asks", "(II)I"⟩
  | 135 => ⟨"OneSledgeForTwoModel", "ask", "(II)I"⟩
  | 136 => ⟨"OneSledgeForTwoModel", "wrong", "(I)Z"⟩
  | 137 => ⟨"OneSledgeForTwoModel", "isWordAt", "(I)Z"⟩
  | 138 => ⟨"OneSledgeForTwoModel", "word", "()I"⟩
  | 139 => ⟨"OneSledgeForTwoModel", "isDigit", "()Z"⟩
  | 140 => ⟨"OneSledgeForTwoModel", "reads", "()Z"⟩
  | 141 => ⟨"OneSledgeForTwoModel", "isSo", "(II)Z"⟩
  | 142 => ⟨"OneSledgeForTwoModel", "item", "()Z"⟩
  | 143 => ⟨"OneSledgeForTwoModel", "carries", "([I[IIZ)I"⟩
  | 144 => ⟨"OneSledgeForTwoModel", "all", "([IIZ)V"⟩
  | 145 => ⟨"OneSledgeForTwoModel", "hill", "(I)I"⟩
  | 146 => ⟨"OneSledgeForTwoModel", "fault", "()I"⟩
  | 147 => ⟨"OneSledgeForTwoModel", "one", "(I)I"⟩
  | 148 => ⟨"OneSledgeForTwoModel", "down", "(I)I"⟩
  | 149 => ⟨"OneSledgeForTwoModel", "pull", "(I)I"⟩
  | 150 => ⟨"OneSledgeForTwoModel", "walk", "(I)I"⟩
  | 151 => ⟨"OneSledgeForTwoModel", "isMove", "(I)Z"⟩
  | 152 => ⟨"OneSledgeForTwoModel", "lasts", "(I)I"⟩
  | 153 => ⟨"OneSledgeForTwoModel", "goesDown", "(I)Z"⟩
  | 154 => ⟨"OneSledgeForTwoModel", "mayBe", "(I)Z"⟩
  | 155 => ⟨"OneSledgeForTwoModel", "pulled", "(I)I"⟩
  | 156 => ⟨"OneSledgeForTwoModel", "moves", "(I)V"⟩
  | 157 => ⟨"OneSledgeForTwoModel", "takes", "(I)I"⟩
  | 158 => ⟨"OneSledgeForTwoModel", "may", "(I)I"⟩
  | 159 => ⟨"OneSledgeForTwoModel", "above", "(I)I"⟩
  | 160 => ⟨"OneSledgeForTwoModel", "countMoves", "()I"⟩
  | 161 => ⟨"OneSledgeForTwoModel", "moveAt", "(I)I"⟩
  | 162 => ⟨"OneSledgeForTwoModel", "next", "(I)I"⟩
  | 163 => ⟨"OneSledgeForTwoModel", "allOf", "([I)I"⟩
  | 164 => ⟨"OneSledgeForTwoModel", "looks", "(II)V"⟩
  | 165 => ⟨"OneSledgeForTwoModel", "ahead", "(II)I"⟩
  | 166 => ⟨"OneSledgeForTwoModel", "begins", "()V"⟩
  | 167 => ⟨"OneSledgeForTwoModel", "leastOf", "(I)I"⟩
  | 168 => ⟨"OneSledgeForTwoModel", "firstOf", "(IZ)I"⟩
  | 169 => ⟨"OneSledgeForTwoModel", "turned", "(Z)I"⟩
  | 170 => ⟨"OneSledgeForTwoModel", "ruled", "(I)I"⟩
  | 171 => ⟨"OneSledgeForTwoModel", "goesOn", "(II)V"⟩
  | 172 => ⟨"OneSledgeForTwoModel", "isRule", "(I)Z"⟩
  | 173 => ⟨"OneSledgeForTwoModel", "by", "(II)I"⟩
  | 174 => ⟨"OneSledgeForTwoModel", "fairOf", "(I)I"⟩
  | 175 => ⟨"OneSledgeForTwoModel", "fair", "(I)I"⟩
  | 176 => ⟨"OneSledgeForTwoModel", "best", "(I)I"⟩
  | 177 => ⟨"OneSledgeForTwoModel", "wrongIn", "(II)I"⟩
  | 178 => ⟨"OneSledgeForTwoModel", "barsOf", "(II)I"⟩
  | 179 => ⟨"OneSledgeForTwoModel", "judge", "(II)I"⟩
  | 180 => ⟨"OneSledgeForTwoModel", "behind", "(III)I"⟩
  | 181 => ⟨"OneSledgeForTwoModel", "done", "(II)I"⟩
  | 182 => ⟨"OneSledgeForTwoModel", "isFit", "(II)Z"⟩
  | 183 => ⟨"OneSledgeForTwoModel", "fits", "(I)I"⟩
  | 184 => ⟨"OneSledgeForTwoModel", "later", "(IIIII)I"⟩
  | 185 => ⟨"OneSledgeForTwoModel", "road", "(IIIII)I"⟩
  | 186 => ⟨"OneSledgeForTwoModel", "pennies", "(I)I"⟩
  | 187 => ⟨"OneSledgeForTwoModel", "who", "(I)I"⟩
  | 188 => ⟨"OneSledgeForTwoModel", "move", "(I)I"⟩
  | 189 => ⟨"OneSledgeForTwoModel", "goes", "(II)I"⟩
  | 190 => ⟨"OneSledgeForTwoModel", "draw", "(I)I"⟩
  | 191 => ⟨"OneSledgeForTwoModel", "winter", "(I)I"⟩
  | 192 => ⟨"OneSledgeForTwoModel", "day", "(I)I"⟩
  | 193 => ⟨"OneSledgeForTwoModel", "seed", "(I)I"⟩
  | 194 => ⟨"OneSledgeForTwoModel", "body", "(I)V"⟩
  | 195 => ⟨"OneSledgeForTwoModel", "riding", "(II)I"⟩
  | 196 => ⟨"OneSledgeForTwoModel", "pulling", "(II)I"⟩
  | 197 => ⟨"OneSledgeForTwoModel", "waiting", "(II)I"⟩
  | 198 => ⟨"OneSledgeForTwoModel", "act", "(III)I"⟩
  | 199 => ⟨"OneSledgeForTwoModel", "trace", "(I)I"⟩
  | 200 => ⟨"OneSledgeForTwoModel", "image", "()I"⟩
  | 201 => ⟨"OneSledgeForTwoModel", "restore", "()I"⟩
  | 202 => ⟨"OneSledgeForTwoModel", "status", "(I)I"⟩
  | 203 => ⟨"java/lang/String", "length", "()I"⟩
  | 204 => ⟨"java/lang/String", "charAt", "(I)C"⟩
  | 205 => ⟨"java/lang/String", "coder", "()B"⟩
  | 206 => ⟨"java/lang/String", "isLatin1", "()Z"⟩
  | 207 => ⟨"java/lang/String", "checkIndex", "(II)V"⟩
  | 208 => ⟨"java/lang/StringLatin1", "charAt", "([BI)C"⟩
  | 209 => ⟨"jdk/internal/util/Preconditions", "checkIndex", "(IILjava/util/function/BiFunction;)I"⟩
  | _ => ⟨"", "", ""⟩
def ma_ml (μ : Nat) : Nat := match μ with
  | 0 => 3
  | 1 => 3
  | 2 => 2
  | 3 => 1
  | 4 => 3
  | 5 => 3
  | 6 => 3
  | 7 => 3
  | 8 => 4
  | 9 => 2
  | 10 => 3
  | 11 => 1
  | 12 => 1
  | 13 => 1
  | 14 => 6
  | 15 => 4
  | 16 => 5
  | 17 => 5
  | 18 => 3
  | 19 => 2
  | 20 => 10
  | 21 => 3
  | 22 => 11
  | 23 => 4
  | 24 => 4
  | 25 => 3
  | 26 => 4
  | 27 => 3
  | 28 => 1
  | 29 => 5
  | 30 => 4
  | 31 => 2
  | 32 => 2
  | 33 => 3
  | 34 => 1
  | 35 => 2
  | 36 => 2
  | 37 => 3
  | 38 => 3
  | 39 => 2
  | 40 => 1
  | 41 => 3
  | 42 => 2
  | 43 => 8
  | 44 => 2
  | 45 => 5
  | 46 => 2
  | 47 => 6
  | 48 => 2
  | 49 => 4
  | 50 => 1
  | 51 => 1
  | 52 => 2
  | 53 => 2
  | 54 => 4
  | 55 => 4
  | 56 => 2
  | 57 => 1
  | 58 => 2
  | 59 => 2
  | 60 => 4
  | 61 => 6
  | 62 => 7
  | 63 => 3
  | 64 => 3
  | 65 => 2
  | 66 => 4
  | 67 => 3
  | 68 => 4
  | 69 => 6
  | 70 => 3
  | 71 => 4
  | 72 => 4
  | 73 => 1
  | 74 => 3
  | 75 => 2
  | 76 => 3
  | 77 => 3
  | 78 => 4
  | 79 => 2
  | 80 => 6
  | 81 => 5
  | 82 => 6
  | 83 => 4
  | 84 => 4
  | 85 => 5
  | 86 => 4
  | 87 => 10
  | 88 => 2
  | 89 => 4
  | 90 => 5
  | 91 => 3
  | 92 => 3
  | 93 => 4
  | 94 => 2
  | 95 => 1
  | 96 => 2
  | 97 => 2
  | 98 => 3
  | 99 => 2
  | 100 => 10
  | 101 => 5
  | 102 => 1
  | 103 => 1
  | 104 => 1
  | 105 => 3
  | 106 => 3
  | 107 => 2
  | 108 => 2
  | 109 => 3
  | 110 => 4
  | 111 => 7
  | 112 => 9
  | 113 => 2
  | 114 => 2
  | 115 => 2
  | 116 => 2
  | 117 => 5
  | 118 => 5
  | 119 => 7
  | 120 => 3
  | 121 => 3
  | 122 => 2
  | 123 => 6
  | 124 => 2
  | 125 => 3
  | 126 => 4
  | 127 => 3
  | 128 => 3
  | 129 => 3
  | 130 => 5
  | 131 => 3
  | 132 => 3
  | 133 => 3
  | 134 => 4
  | 135 => 3
  | 136 => 2
  | 137 => 4
  | 138 => 6
  | 139 => 1
  | 140 => 2
  | 141 => 3
  | 142 => 4
  | 143 => 6
  | 144 => 5
  | 145 => 5
  | 146 => 1
  | 147 => 2
  | 148 => 3
  | 149 => 4
  | 150 => 2
  | 151 => 5
  | 152 => 5
  | 153 => 2
  | 154 => 6
  | 155 => 2
  | 156 => 10
  | 157 => 2
  | 158 => 2
  | 159 => 3
  | 160 => 3
  | 161 => 4
  | 162 => 3
  | 163 => 4
  | 164 => 5
  | 165 => 4
  | 166 => 1
  | 167 => 5
  | 168 => 5
  | 169 => 5
  | 170 => 3
  | 171 => 4
  | 172 => 2
  | 173 => 5
  | 174 => 5
  | 175 => 2
  | 176 => 4
  | 177 => 4
  | 178 => 4
  | 179 => 5
  | 180 => 7
  | 181 => 4
  | 182 => 4
  | 183 => 5
  | 184 => 10
  | 185 => 8
  | 186 => 6
  | 187 => 4
  | 188 => 2
  | 189 => 3
  | 190 => 2
  | 191 => 5
  | 192 => 4
  | 193 => 3
  | 194 => 2
  | 195 => 5
  | 196 => 7
  | 197 => 5
  | 198 => 4
  | 199 => 2
  | 200 => 1
  | 201 => 2
  | 202 => 4
  | 203 => 1
  | 204 => 2
  | 205 => 1
  | 206 => 1
  | 207 => 2
  | 208 => 2
  | 209 => 3
  | _ => 0
def ma_cl (μ : Nat) : Nat := match μ with
  | 0 => 0
  | 1 => 0
  | 2 => 0
  | 3 => 0
  | 4 => 0
  | 5 => 0
  | 6 => 0
  | 7 => 0
  | 8 => 0
  | 9 => 0
  | 10 => 0
  | 11 => 0
  | 12 => 0
  | 13 => 0
  | 14 => 0
  | 15 => 0
  | 16 => 0
  | 17 => 0
  | 18 => 0
  | 19 => 0
  | 20 => 0
  | 21 => 1
  | 22 => 1
  | 23 => 1
  | 24 => 2
  | 25 => 2
  | 26 => 2
  | 27 => 2
  | 28 => 2
  | 29 => 2
  | 30 => 2
  | 31 => 2
  | 32 => 2
  | 33 => 3
  | 34 => 3
  | 35 => 3
  | 36 => 3
  | 37 => 3
  | 38 => 3
  | 39 => 3
  | 40 => 3
  | 41 => 3
  | 42 => 3
  | 43 => 4
  | 44 => 4
  | 45 => 4
  | 46 => 4
  | 47 => 4
  | 48 => 4
  | 49 => 4
  | 50 => 5
  | 51 => 5
  | 52 => 5
  | 53 => 5
  | 54 => 5
  | 55 => 5
  | 56 => 5
  | 57 => 6
  | 58 => 6
  | 59 => 6
  | 60 => 7
  | 61 => 7
  | 62 => 7
  | 63 => 7
  | 64 => 7
  | 65 => 7
  | 66 => 7
  | 67 => 7
  | 68 => 7
  | 69 => 7
  | 70 => 7
  | 71 => 7
  | 72 => 7
  | 73 => 7
  | 74 => 7
  | 75 => 7
  | 76 => 7
  | 77 => 7
  | 78 => 7
  | 79 => 7
  | 80 => 7
  | 81 => 7
  | 82 => 7
  | 83 => 7
  | 84 => 7
  | 85 => 7
  | 86 => 7
  | 87 => 7
  | 88 => 7
  | 89 => 7
  | 90 => 7
  | 91 => 7
  | 92 => 7
  | 93 => 7
  | 94 => 7
  | 95 => 7
  | 96 => 7
  | 97 => 7
  | 98 => 7
  | 99 => 7
  | 100 => 7
  | 101 => 7
  | 102 => 7
  | 103 => 7
  | 104 => 7
  | 105 => 7
  | 106 => 7
  | 107 => 7
  | 108 => 7
  | 109 => 7
  | 110 => 7
  | 111 => 7
  | 112 => 7
  | 113 => 8
  | 114 => 8
  | 115 => 8
  | 116 => 8
  | 117 => 8
  | 118 => 8
  | 119 => 8
  | 120 => 8
  | 121 => 8
  | 122 => 8
  | 123 => 8
  | 124 => 8
  | 125 => 8
  | 126 => 8
  | 127 => 8
  | 128 => 8
  | 129 => 8
  | 130 => 8
  | 131 => 8
  | 132 => 8
  | 133 => 8
  | 134 => 8
  | 135 => 8
  | 136 => 8
  | 137 => 8
  | 138 => 8
  | 139 => 8
  | 140 => 8
  | 141 => 8
  | 142 => 8
  | 143 => 8
  | 144 => 8
  | 145 => 8
  | 146 => 8
  | 147 => 8
  | 148 => 8
  | 149 => 8
  | 150 => 8
  | 151 => 8
  | 152 => 8
  | 153 => 8
  | 154 => 8
  | 155 => 8
  | 156 => 8
  | 157 => 8
  | 158 => 8
  | 159 => 8
  | 160 => 8
  | 161 => 8
  | 162 => 8
  | 163 => 8
  | 164 => 8
  | 165 => 8
  | 166 => 8
  | 167 => 8
  | 168 => 8
  | 169 => 8
  | 170 => 8
  | 171 => 8
  | 172 => 8
  | 173 => 8
  | 174 => 8
  | 175 => 8
  | 176 => 8
  | 177 => 8
  | 178 => 8
  | 179 => 8
  | 180 => 8
  | 181 => 8
  | 182 => 8
  | 183 => 8
  | 184 => 8
  | 185 => 8
  | 186 => 8
  | 187 => 8
  | 188 => 8
  | 189 => 8
  | 190 => 8
  | 191 => 8
  | 192 => 8
  | 193 => 8
  | 194 => 8
  | 195 => 8
  | 196 => 8
  | 197 => 8
  | 198 => 8
  | 199 => 8
  | 200 => 8
  | 201 => 8
  | 202 => 8
  | 203 => 9
  | 204 => 9
  | 205 => 9
  | 206 => 9
  | 207 => 9
  | 208 => 10
  | 209 => 11
  | _ => 99
def ma_rt (μ : Nat) : Nat := match μ with
  | 0 => 0
  | 1 => 0
  | 2 => 2
  | 3 => 2
  | 4 => 1
  | 5 => 1
  | 6 => 1
  | 7 => 1
  | 8 => 1
  | 9 => 1
  | 10 => 1
  | 11 => 1
  | 12 => 2
  | 13 => 1
  | 14 => 2
  | 15 => 1
  | 16 => 2
  | 17 => 2
  | 18 => 2
  | 19 => 0
  | 20 => 1
  | 21 => 0
  | 22 => 0
  | 23 => 0
  | 24 => 1
  | 25 => 0
  | 26 => 0
  | 27 => 0
  | 28 => 6
  | 29 => 1
  | 30 => 1
  | 31 => 0
  | 32 => 1
  | 33 => 0
  | 34 => 0
  | 35 => 0
  | 36 => 2
  | 37 => 1
  | 38 => 1
  | 39 => 1
  | 40 => 1
  | 41 => 0
  | 42 => 0
  | 43 => 1
  | 44 => 1
  | 45 => 1
  | 46 => 1
  | 47 => 1
  | 48 => 1
  | 49 => 1
  | 50 => 2
  | 51 => 2
  | 52 => 2
  | 53 => 0
  | 54 => 0
  | 55 => 0
  | 56 => 1
  | 57 => 0
  | 58 => 0
  | 59 => 1
  | 60 => 1
  | 61 => 1
  | 62 => 1
  | 63 => 5
  | 64 => 1
  | 65 => 1
  | 66 => 1
  | 67 => 1
  | 68 => 1
  | 69 => 1
  | 70 => 1
  | 71 => 1
  | 72 => 1
  | 73 => 1
  | 74 => 1
  | 75 => 1
  | 76 => 1
  | 77 => 1
  | 78 => 1
  | 79 => 1
  | 80 => 1
  | 81 => 1
  | 82 => 1
  | 83 => 1
  | 84 => 1
  | 85 => 1
  | 86 => 1
  | 87 => 1
  | 88 => 1
  | 89 => 1
  | 90 => 1
  | 91 => 1
  | 92 => 1
  | 93 => 1
  | 94 => 1
  | 95 => 1
  | 96 => 1
  | 97 => 1
  | 98 => 1
  | 99 => 1
  | 100 => 1
  | 101 => 1
  | 102 => 2
  | 103 => 2
  | 104 => 2
  | 105 => 2
  | 106 => 1
  | 107 => 1
  | 108 => 1
  | 109 => 2
  | 110 => 1
  | 111 => 1
  | 112 => 1
  | 113 => 1
  | 114 => 1
  | 115 => 2
  | 116 => 2
  | 117 => 1
  | 118 => 1
  | 119 => 1
  | 120 => 5
  | 121 => 1
  | 122 => 1
  | 123 => 1
  | 124 => 1
  | 125 => 1
  | 126 => 1
  | 127 => 1
  | 128 => 1
  | 129 => 1
  | 130 => 1
  | 131 => 2
  | 132 => 1
  | 133 => 2
  | 134 => 1
  | 135 => 1
  | 136 => 2
  | 137 => 2
  | 138 => 1
  | 139 => 2
  | 140 => 2
  | 141 => 2
  | 142 => 2
  | 143 => 1
  | 144 => 0
  | 145 => 1
  | 146 => 1
  | 147 => 1
  | 148 => 1
  | 149 => 1
  | 150 => 1
  | 151 => 2
  | 152 => 1
  | 153 => 2
  | 154 => 2
  | 155 => 1
  | 156 => 0
  | 157 => 1
  | 158 => 1
  | 159 => 1
  | 160 => 1
  | 161 => 1
  | 162 => 1
  | 163 => 1
  | 164 => 0
  | 165 => 1
  | 166 => 0
  | 167 => 1
  | 168 => 1
  | 169 => 1
  | 170 => 1
  | 171 => 0
  | 172 => 2
  | 173 => 1
  | 174 => 1
  | 175 => 1
  | 176 => 1
  | 177 => 1
  | 178 => 1
  | 179 => 1
  | 180 => 1
  | 181 => 1
  | 182 => 2
  | 183 => 1
  | 184 => 1
  | 185 => 1
  | 186 => 1
  | 187 => 1
  | 188 => 1
  | 189 => 1
  | 190 => 1
  | 191 => 1
  | 192 => 1
  | 193 => 1
  | 194 => 0
  | 195 => 1
  | 196 => 1
  | 197 => 1
  | 198 => 1
  | 199 => 1
  | 200 => 1
  | 201 => 1
  | 202 => 1
  | 203 => 1
  | 204 => 3
  | 205 => 4
  | 206 => 2
  | 207 => 0
  | 208 => 3
  | 209 => 1
  | _ => 0
def ma_rf_ (μ : Nat) : Option FieldType := match μ with
  | 0 => none
  | 1 => none
  | 2 => (some .boolean)
  | 3 => (some .boolean)
  | 4 => (some .int)
  | 5 => (some .int)
  | 6 => (some .int)
  | 7 => (some .int)
  | 8 => (some .int)
  | 9 => (some .int)
  | 10 => (some .int)
  | 11 => (some .int)
  | 12 => (some .boolean)
  | 13 => (some .int)
  | 14 => (some .boolean)
  | 15 => (some .int)
  | 16 => (some .boolean)
  | 17 => (some .boolean)
  | 18 => (some .boolean)
  | 19 => none
  | 20 => (some .int)
  | 21 => none
  | 22 => none
  | 23 => none
  | 24 => (some .int)
  | 25 => none
  | 26 => none
  | 27 => none
  | 28 => (some (.object "java/lang/String"))
  | 29 => (some .int)
  | 30 => (some .int)
  | 31 => none
  | 32 => (some .int)
  | 33 => none
  | 34 => none
  | 35 => none
  | 36 => (some .boolean)
  | 37 => (some .int)
  | 38 => (some .int)
  | 39 => (some .int)
  | 40 => (some .int)
  | 41 => none
  | 42 => none
  | 43 => (some .int)
  | 44 => (some .int)
  | 45 => (some .int)
  | 46 => (some .int)
  | 47 => (some .int)
  | 48 => (some .int)
  | 49 => (some .int)
  | 50 => (some .boolean)
  | 51 => (some .boolean)
  | 52 => (some .boolean)
  | 53 => none
  | 54 => none
  | 55 => none
  | 56 => (some .int)
  | 57 => none
  | 58 => none
  | 59 => (some .int)
  | 60 => (some .int)
  | 61 => (some .int)
  | 62 => (some .int)
  | 63 => (some .long)
  | 64 => (some .int)
  | 65 => (some .int)
  | 66 => (some .int)
  | 67 => (some .int)
  | 68 => (some .int)
  | 69 => (some .int)
  | 70 => (some .int)
  | 71 => (some .int)
  | 72 => (some .int)
  | 73 => (some .int)
  | 74 => (some .int)
  | 75 => (some .int)
  | 76 => (some .int)
  | 77 => (some .int)
  | 78 => (some .int)
  | 79 => (some .int)
  | 80 => (some .int)
  | 81 => (some .int)
  | 82 => (some .int)
  | 83 => (some .int)
  | 84 => (some .int)
  | 85 => (some .int)
  | 86 => (some .int)
  | 87 => (some .int)
  | 88 => (some .int)
  | 89 => (some .int)
  | 90 => (some .int)
  | 91 => (some .int)
  | 92 => (some .int)
  | 93 => (some .int)
  | 94 => (some .int)
  | 95 => (some .int)
  | 96 => (some .int)
  | 97 => (some .int)
  | 98 => (some .int)
  | 99 => (some .int)
  | 100 => (some .int)
  | 101 => (some .int)
  | 102 => (some .boolean)
  | 103 => (some .boolean)
  | 104 => (some .boolean)
  | 105 => (some .boolean)
  | 106 => (some .int)
  | 107 => (some .int)
  | 108 => (some .int)
  | 109 => (some .boolean)
  | 110 => (some .int)
  | 111 => (some .int)
  | 112 => (some .int)
  | 113 => (some .int)
  | 114 => (some .int)
  | 115 => (some .boolean)
  | 116 => (some .boolean)
  | 117 => (some .int)
  | 118 => (some .int)
  | 119 => (some .int)
  | 120 => (some .long)
  | 121 => (some .int)
  | 122 => (some .int)
  | 123 => (some .int)
  | 124 => (some .int)
  | 125 => (some .int)
  | 126 => (some .int)
  | 127 => (some .int)
  | 128 => (some .int)
  | 129 => (some .int)
  | 130 => (some .int)
  | 131 => (some .boolean)
  | 132 => (some .int)
  | 133 => (some .boolean)
  | 134 => (some .int)
  | 135 => (some .int)
  | 136 => (some .boolean)
  | 137 => (some .boolean)
  | 138 => (some .int)
  | 139 => (some .boolean)
  | 140 => (some .boolean)
  | 141 => (some .boolean)
  | 142 => (some .boolean)
  | 143 => (some .int)
  | 144 => none
  | 145 => (some .int)
  | 146 => (some .int)
  | 147 => (some .int)
  | 148 => (some .int)
  | 149 => (some .int)
  | 150 => (some .int)
  | 151 => (some .boolean)
  | 152 => (some .int)
  | 153 => (some .boolean)
  | 154 => (some .boolean)
  | 155 => (some .int)
  | 156 => none
  | 157 => (some .int)
  | 158 => (some .int)
  | 159 => (some .int)
  | 160 => (some .int)
  | 161 => (some .int)
  | 162 => (some .int)
  | 163 => (some .int)
  | 164 => none
  | 165 => (some .int)
  | 166 => none
  | 167 => (some .int)
  | 168 => (some .int)
  | 169 => (some .int)
  | 170 => (some .int)
  | 171 => none
  | 172 => (some .boolean)
  | 173 => (some .int)
  | 174 => (some .int)
  | 175 => (some .int)
  | 176 => (some .int)
  | 177 => (some .int)
  | 178 => (some .int)
  | 179 => (some .int)
  | 180 => (some .int)
  | 181 => (some .int)
  | 182 => (some .boolean)
  | 183 => (some .int)
  | 184 => (some .int)
  | 185 => (some .int)
  | 186 => (some .int)
  | 187 => (some .int)
  | 188 => (some .int)
  | 189 => (some .int)
  | 190 => (some .int)
  | 191 => (some .int)
  | 192 => (some .int)
  | 193 => (some .int)
  | 194 => none
  | 195 => (some .int)
  | 196 => (some .int)
  | 197 => (some .int)
  | 198 => (some .int)
  | 199 => (some .int)
  | 200 => (some .int)
  | 201 => (some .int)
  | 202 => (some .int)
  | 203 => (some .int)
  | 204 => (some .char)
  | 205 => (some .byte)
  | 206 => (some .boolean)
  | 207 => none
  | 208 => (some .char)
  | 209 => (some .int)
  | _ => none
def ma_cn (c : Nat) : String := match c with
  | 0 => "OneSledgeForTwo$Hill"
  | 1 => "OneSledgeForTwo$Lookahead"
  | 2 => "OneSledgeForTwo$Reader"
  | 3 => "OneSledgeForTwo$Rider"
  | 4 => "OneSledgeForTwo$Sharing"
  | 5 => "OneSledgeForTwo$Shelf"
  | 6 => "OneSledgeForTwo$Trace"
  | 7 => "OneSledgeForTwo"
  | 8 => "OneSledgeForTwoModel"
  | 9 => "java/lang/String"
  | 10 => "java/lang/StringLatin1"
  | 11 => "jdk/internal/util/Preconditions"
  | _ => ""
/-- the group of the objects of a class -/
def ma_gc (c : Nat) : Nat := match c with
  | 0 => 2
  | 1 => 9
  | 2 => 7
  | 3 => 4
  | 4 => 6
  | 5 => 16
  | 6 => 13
  | 7 => 1
  | 8 => 20
  | 9 => 41
  | _ => 99
def ma_ft (c i : Nat) : Option (Nat × Nat × Nat) := match c with
  | 0 => ma_lu [(11, (2, 0, 2)), (17, (2, 2, 0)), (21, (2, 4, 0)), (24, (2, 6, 0)), (27, (2, 7, 0)), (30, (2, 8, 0)), (33, (2, 9, 2)), (40, (2, 1, 0)), (47, (2, 3, 0)), (50, (2, 5, 0)), (64, (4, 3, 0)), (67, (4, 5, 0)), (70, (4, 6, 0))] i
  | 1 => ma_lu [(11, (9, 0, 2)), (17, (9, 1, 2)), (21, (9, 2, 2)), (29, (9, 3, 0)), (33, (9, 4, 0)), (36, (9, 5, 0)), (52, (2, 9, 2))] i
  | 2 => ma_lu [(12, (7, 0, 2)), (18, (7, 1, 2)), (22, (7, 4, 0)), (30, (16, 2, 0)), (35, (7, 2, 0)), (40, (7, 3, 0)), (65, (2, 2, 0)), (68, (2, 3, 0)), (71, (2, 4, 0)), (74, (2, 5, 0)), (77, (2, 6, 0)), (80, (2, 7, 0)), (87, (7, 5, 0)), (97, (2, 1, 0)), (103, (2, 0, 2)), (107, (4, 3, 0))] i
  | 3 => ma_lu [(15, (4, 1, 0)), (18, (4, 2, 0)), (24, (4, 3, 0)), (27, (4, 4, 0)), (30, (4, 5, 0)), (33, (4, 6, 0))] i
  | 4 => ma_lu [(12, (6, 0, 2)), (22, (6, 1, 1)), (26, (2, 5, 0)), (30, (6, 2, 0)), (57, (2, 1, 0)), (68, (2, 0, 2)), (72, (2, 9, 2)), (76, (4, 4, 0))] i
  | 5 => ma_lu [(9, (16, 0, 2)), (15, (16, 1, 0)), (19, (16, 2, 0))] i
  | 6 => ma_lu [(9, (13, 0, 2)), (15, (13, 1, 0))] i
  | 7 => ma_lu [(10, (1, 0, 2)), (16, (1, 1, 2)), (19, (1, 2, 2)), (25, (1, 4, 2)), (32, (1, 5, 2)), (39, (1, 6, 2)), (46, (1, 7, 2)), (52, (1, 8, 2)), (56, (1, 9, 2)), (60, (1, 10, 0)), (91, (16, 0, 2)), (108, (16, 1, 0)), (114, (2, 0, 2)), (139, (4, 1, 0)), (142, (4, 2, 0)), (145, (4, 3, 0)), (148, (4, 4, 0)), (151, (4, 5, 0)), (154, (4, 6, 0)), (157, (2, 2, 0)), (160, (2, 3, 0)), (163, (2, 4, 0)), (166, (2, 5, 0)), (169, (2, 6, 0)), (172, (2, 7, 0)), (179, (7, 4, 0)), (182, (7, 0, 2)), (201, (2, 9, 2)), (208, (9, 4, 0)), (209, (9, 3, 0)), (210, (9, 2, 2)), (220, (6, 0, 2)), (228, (2, 1, 0)), (234, (16, 2, 0)), (270, (2, 8, 0)), (283, (1, 3, 1)), (293, (13, 1, 0)), (328, (4, 0, 0))] i
  | 8 => ma_lu [(7, (20, 2, 0)), (13, (20, 4, 0)), (16, (20, 6, 0)), (19, (20, 7, 0)), (22, (20, 8, 0)), (25, (20, 9, 0)), (28, (20, 10, 2)), (32, (20, 11, 2)), (35, (20, 12, 2)), (38, (20, 13, 2)), (41, (20, 14, 2)), (44, (20, 15, 2)), (47, (20, 16, 2)), (50, (20, 17, 2)), (53, (20, 18, 2)), (56, (20, 19, 2)), (59, (20, 20, 2)), (62, (20, 21, 2)), (66, (20, 22, 2)), (69, (20, 23, 2)), (72, (20, 24, 2)), (75, (20, 25, 2)), (78, (20, 31, 2)), (81, (20, 32, 2)), (84, (20, 33, 2)), (87, (20, 34, 2)), (90, (20, 35, 2)), (93, (20, 36, 2)), (96, (20, 44, 2)), (99, (20, 1, 0)), (133, (20, 3, 0)), (136, (20, 5, 0)), (145, (20, 30, 0)), (148, (20, 27, 0)), (151, (20, 28, 0)), (154, (20, 26, 0)), (157, (20, 29, 0)), (226, (20, 37, 0)), (229, (20, 38, 0)), (232, (20, 39, 0)), (239, (20, 40, 0)), (242, (20, 41, 0)), (245, (20, 43, 1)), (263, (20, 42, 0)), (307, (20, 45, 0)), (322, (20, 46, 1))] i
  | 9 => ma_lu [(9, (41, 0, 2)), (15, (41, 1, 3))] i
  | _ => none
def ma_gs (c i : Nat) : Option (ma_V) := match c with
  | 3 => ma_lu [(40, vR 40 0 0)] i
  | 7 => ma_lu [(316, vR 40 1 0), (319, vR 40 2 0), (322, vR 40 3 0), (331, vR 40 0 0)] i
  | 9 => ma_lu [(38, vI 1), (1053, vR 43 0 0)] i
  | _ => none
def ma_lc (c i : Nat) : Option (ma_V) := match c with
  | 0 => ma_lu [(82, vI (1103515245))] i
  | 2 => ma_lu [(112, vR 41 0 0), (114, vR 41 1 0), (115, vR 41 2 0), (116, vR 41 3 0), (118, vR 41 4 0), (119, vR 41 5 0), (120, vR 41 6 0), (121, vR 41 7 0)] i
  | 8 => ma_lu [(303, vI (1103515245))] i
  | _ => none
def ma_mt (c i : Nat) : Option (Nat × Nat × Nat) := match c with
  | 0 => ma_lu [(43, (0, 35, 1)), (53, (0, 34, 0)), (56, (0, 3, 0)), (60, (0, 33, 2)), (73, (3, 0, 2)), (79, (4, 0, 2)), (83, (1, 11, 1)), (87, (0, 14, 1)), (91, (0, 37, 1)), (94, (0, 38, 1)), (97, (0, 39, 1)), (100, (0, 15, 1)), (103, (0, 16, 1)), (106, (1, 18, 2)), (110, (0, 41, 1)), (113, (0, 42, 1)), (116, (0, 19, 1)), (119, (1, 12, 1)), (122, (1, 10, 3))] i
  | 1 => ma_lu [(25, (0, 0, 1)), (39, (4, 0, 2)), (45, (1, 22, 5)), (49, (0, 20, 2)), (55, (1, 13, 1)), (59, (0, 15, 1)), (62, (0, 23, 3)), (66, (0, 17, 1)), (70, (5, 0, 5))] i
  | 2 => ma_lu [(26, (0, 0, 1)), (36, (0, 56, 1)), (43, (0, 25, 0)), (46, (0, 31, 1)), (50, (0, 29, 0)), (54, (0, 26, 1)), (58, (0, 27, 1)), (61, (0, 30, 2)), (83, (0, 17, 1)), (90, (0, 3, 0)), (94, (0, 4, 2)), (100, (0, 2, 1)), (123, (1, 28, 1)), (127, (0, 203, 0)), (131, (0, 32, 1)), (134, (0, 204, 1)), (138, (3, 0, 2))] i
  | 3 => ma_lu [(21, (0, 34, 0)), (36, (1, 103, 1)), (44, (4, 0, 2)), (50, (3, 0, 2))] i
  | 4 => ma_lu [(18, (0, 0, 1)), (33, (0, 44, 0)), (37, (0, 45, 0)), (40, (0, 46, 0)), (43, (0, 48, 0)), (46, (0, 17, 1)), (50, (1, 10, 3)), (54, (0, 16, 1)), (60, (0, 20, 2)), (64, (0, 47, 1)), (81, (0, 49, 1)), (84, (0, 15, 1))] i
  | 5 => ma_lu [(22, (0, 52, 1))] i
  | 7 => ma_lu [(65, (1, 102, 1)), (69, (0, 98, 1)), (73, (0, 54, 2)), (77, (0, 99, 1)), (80, (0, 52, 1)), (83, (0, 55, 2)), (87, (0, 100, 5)), (95, (5, 0, 5)), (101, (0, 2, 1)), (104, (0, 53, 1)), (111, (1, 103, 1)), (118, (0, 36, 1)), (123, (0, 106, 2)), (127, (1, 105, 3)), (131, (0, 3, 0)), (135, (0, 4, 2)), (175, (0, 24, 2)), (185, (0, 0, 1)), (189, (0, 15, 1)), (192, (0, 14, 1)), (195, (0, 16, 1)), (198, (0, 20, 2)), (204, (0, 21, 2)), (213, (1, 104, 1)), (216, (0, 43, 4)), (221, (0, 6, 0)), (225, (0, 108, 1)), (231, (0, 8, 0)), (237, (0, 109, 1)), (241, (1, 107, 2)), (244, (0, 101, 3)), (248, (0, 110, 2)), (252, (0, 7, 0)), (255, (0, 40, 0)), (258, (1, 111, 5)), (261, (0, 17, 1)), (264, (0, 9, 1)), (267, (0, 1, 1)), (273, (0, 57, 0)), (276, (1, 112, 6)), (280, (0, 59, 1)), (287, (0, 51, 0)), (290, (0, 5, 0)), (296, (0, 50, 0)), (299, (0, 37, 1)), (302, (0, 38, 1)), (305, (0, 39, 1)), (308, (0, 56, 1)), (311, (3, 0, 2)), (325, (0, 58, 1))] i
  | 8 => ma_lu [(102, (0, 115, 1)), (106, (0, 113, 1)), (110, (0, 116, 1)), (113, (0, 148, 1)), (116, (0, 149, 1)), (119, (0, 150, 1)), (122, (0, 124, 1)), (125, (0, 127, 2)), (129, (0, 131, 2)), (139, (0, 133, 2)), (142, (0, 134, 2)), (160, (0, 139, 0)), (164, (0, 136, 1)), (167, (0, 154, 1)), (170, (0, 137, 1)), (173, (0, 138, 0)), (177, (0, 140, 0)), (180, (0, 141, 2)), (183, (0, 156, 1)), (187, (0, 143, 4)), (191, (0, 144, 3)), (195, (0, 142, 0)), (198, (0, 147, 1)), (201, (0, 151, 1)), (204, (0, 152, 1)), (207, (0, 153, 1)), (210, (0, 155, 1)), (213, (0, 159, 1)), (216, (0, 160, 0)), (219, (0, 161, 1)), (222, (0, 163, 1)), (235, (0, 164, 2)), (249, (0, 169, 1)), (253, (0, 167, 1)), (256, (0, 168, 2)), (260, (0, 166, 0)), (266, (0, 170, 1)), (269, (0, 172, 1)), (272, (0, 171, 2)), (275, (0, 174, 1)), (278, (0, 173, 2)), (281, (0, 125, 2)), (284, (0, 126, 2)), (287, (0, 178, 2)), (290, (0, 114, 1)), (293, (0, 177, 2)), (296, (0, 182, 2)), (299, (0, 184, 5)), (304, (0, 190, 1)), (310, (0, 194, 1)), (313, (0, 195, 2)), (316, (0, 196, 2)), (319, (0, 197, 2))] i
  | 9 => ma_lu [(335, (0, 205, 0)), (492, (0, 206, 0)), (495, (1, 208, 2)), (1059, (1, 209, 3))] i
  | 10 => ma_lu [(9, (1, 207, 2))] i
  | _ => none
-- skipped: [('java/lang/String', 498, ('java/lang/StringUTF16', 'charAt', '([BI)C')), ('jdk/internal/util/Preconditions', 95)]
/-- where a reference field goes: the group and number of the holder, the field -/
def ma_rf (g i k : Nat) : Nat × Nat × Nat := match g, k with
  | 1, 0 => (2, 0, 0)
  | 1, 1 => (2, 1, 0)
  | 1, 2 => (2, 2, 0)
  | 1, 4 => (6, 0, 0)
  | 1, 5 => (7, 0, 0)
  | 1, 6 => (9, 0, 0)
  | 1, 7 => (13, 0, 0)
  | 1, 8 => (15, 0, 0)
  | 1, 9 => (50, 124, 0)
  | 2, 0 => (3, i, 0)
  | 2, 9 => (50, 100 + i, 0)
  | 6, 0 => (2, 3, 0)
  | 7, 0 => (2, 4, 0)
  | 7, 1 => (50, 120, 0)
  | 9, 0 => (10, 0, 0)
  | 9, 1 => (50, 121, 0)
  | 9, 2 => (50, 122, 0)
  | 13, 0 => (50, 123, 0)
  | 16, 0 => (60, i, 0)
  | 20, 10 => (50, 7, 0)
  | 20, 11 => (50, 1, 0)
  | 20, 12 => (50, 2, 0)
  | 20, 13 => (50, 3, 0)
  | 20, 14 => (50, 4, 0)
  | 20, 15 => (50, 5, 0)
  | 20, 16 => (50, 6, 0)
  | 20, 17 => (50, 8, 0)
  | 20, 18 => (50, 9, 0)
  | 20, 19 => (50, 10, 0)
  | 20, 20 => (50, 11, 0)
  | 20, 21 => (60, 10, 0)
  | 20, 22 => (60, 11, 0)
  | 20, 23 => (50, 12, 0)
  | 20, 24 => (50, 13, 0)
  | 20, 25 => (50, 14, 0)
  | 20, 31 => (50, 15, 0)
  | 20, 32 => (50, 16, 0)
  | 20, 33 => (50, 17, 0)
  | 20, 34 => (50, 18, 0)
  | 20, 35 => (50, 19, 0)
  | 20, 36 => (50, 20, 0)
  | 20, 44 => (50, 21, 0)
  | 41, 0 => (42, i, 0)
  | _, _ => (99, 0, 0)
def ma_la (i : Nat) : Nat := match i with
  | 1 => 4
  | 2 => 4
  | 3 => 4
  | 4 => 4
  | 5 => 4
  | 6 => 4
  | 7 => 8
  | 8 => 8
  | 9 => 8
  | 10 => 8
  | 11 => 8
  | 12 => 57
  | 13 => 8
  | 14 => 2
  | 15 => 40
  | 16 => 40
  | 17 => 40
  | 18 => 160
  | 19 => 3
  | 20 => 3
  | 21 => 20
  | 100 => 40
  | 101 => 40
  | 102 => 40
  | 103 => 40
  | 104 => 40
  | 105 => 40
  | 106 => 40
  | 107 => 40
  | 120 => 160
  | 121 => 3
  | 122 => 3
  | 123 => 20
  | 124 => 7
  | _ => 0
def ma_lj (i : Nat) : Nat := match i with
  | 0 => 160
  | 1 => 160
  | 2 => 160
  | 3 => 160
  | 4 => 160
  | 5 => 160
  | 6 => 160
  | 7 => 160
  | 10 => 1280
  | 11 => 160
  | _ => 0
def ma_lw (i : Nat) : Nat := match i with
  | 0 => 5
  | 1 => 3
  | 2 => 4
  | 3 => 7
  | 4 => 7
  | 5 => 7
  | 6 => 4
  | 7 => 4
  | _ => 0
def ma_ls (i : Nat) : Nat := match i with
  | 0 => 7
  | 1 => 7
  | 2 => 7
  | 3 => 7
  | _ => 0
/-- the static arrays -/
def ma_sv (i k : Nat) : Int32 := match i with
  | 0 => [-1, 0, 0, 1, 0, 2, 4].getD k 0
  | 1 => [10, 20, 10, 20, 51, 10, 70].getD k 0
  | 2 => [11, 11, 30, 40, 11, 30, 71].getD k 0
  | _ => [12, 12, 12, 12, 50, 60, 50].getD k 0
/-- the letters of the words -/
def ma_wv (i k : Nat) : Int32 := match i with
  | 0 => [114, 105, 100, 101, 114].getD k 0
  | 1 => [116, 111, 112].getD k 0
  | 2 => [102, 111, 111, 116].getD k 0
  | 3 => [115, 108, 101, 100, 103, 101, 115].getD k 0
  | 4 => [109, 105, 110, 117, 116, 101, 115].getD k 0
  | 5 => [112, 101, 110, 110, 105, 101, 115].getD k 0
  | 6 => [104, 105, 108, 108].getD k 0
  | 7 => [109, 111, 118, 101].getD k 0
  | _ => 0
