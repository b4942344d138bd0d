/-! decode rows (written by wip/gen/data.py) -/
def T_tt_init_0 : List (Nat × Instr × Nat) := [(0, .aload_n 0, 1), (1, .invokespecial 3, 3), (4, .aload_n 0, 1), (5, .iload_n 1, 1), (6, .putfield 9, 3), (9, .aload_n 0, 1), (10, .iload_n 1, 1), (11, .iload_n 2, 1), (12, .imul, 1), (13, .newarray .int, 2), (15, .putfield 15, 3), (18, .aload_n 0, 1), (19, .iload_n 1, 1), (20, .iload_n 2, 1), (21, .imul, 1), (22, .newarray .int, 2), (24, .putfield 19, 3), (27, .aload_n 0, 1), (28, .iconst 4, 1), (29, .putfield 22, 3), (32, .aload_n 0, 1), (33, .iconst 0, 1), (34, .putfield 25, 3), (37, .return_, 1)]
theorem tx_tt_init_0 : zdec prog_6_method_1_code T_tt_init_0 = true := by decide +kernel
theorem d_tt_init_0 : decode prog_6_method_1_code 0 = .ok (.aload_n 0, 1) := zD (q := (0, .aload_n 0, 1)) tx_tt_init_0 0 rfl
theorem d_tt_init_1 : decode prog_6_method_1_code 1 = .ok (.invokespecial 3, 3) := zD (q := (1, .invokespecial 3, 3)) tx_tt_init_0 1 rfl
theorem d_tt_init_4 : decode prog_6_method_1_code 4 = .ok (.aload_n 0, 1) := zD (q := (4, .aload_n 0, 1)) tx_tt_init_0 2 rfl
theorem d_tt_init_5 : decode prog_6_method_1_code 5 = .ok (.iload_n 1, 1) := zD (q := (5, .iload_n 1, 1)) tx_tt_init_0 3 rfl
theorem d_tt_init_6 : decode prog_6_method_1_code 6 = .ok (.putfield 9, 3) := zD (q := (6, .putfield 9, 3)) tx_tt_init_0 4 rfl
theorem d_tt_init_9 : decode prog_6_method_1_code 9 = .ok (.aload_n 0, 1) := zD (q := (9, .aload_n 0, 1)) tx_tt_init_0 5 rfl
theorem d_tt_init_10 : decode prog_6_method_1_code 10 = .ok (.iload_n 1, 1) := zD (q := (10, .iload_n 1, 1)) tx_tt_init_0 6 rfl
theorem d_tt_init_11 : decode prog_6_method_1_code 11 = .ok (.iload_n 2, 1) := zD (q := (11, .iload_n 2, 1)) tx_tt_init_0 7 rfl
theorem d_tt_init_12 : decode prog_6_method_1_code 12 = .ok (.imul, 1) := zD (q := (12, .imul, 1)) tx_tt_init_0 8 rfl
theorem d_tt_init_13 : decode prog_6_method_1_code 13 = .ok (.newarray .int, 2) := zD (q := (13, .newarray .int, 2)) tx_tt_init_0 9 rfl
theorem d_tt_init_15 : decode prog_6_method_1_code 15 = .ok (.putfield 15, 3) := zD (q := (15, .putfield 15, 3)) tx_tt_init_0 10 rfl
theorem d_tt_init_18 : decode prog_6_method_1_code 18 = .ok (.aload_n 0, 1) := zD (q := (18, .aload_n 0, 1)) tx_tt_init_0 11 rfl
theorem d_tt_init_19 : decode prog_6_method_1_code 19 = .ok (.iload_n 1, 1) := zD (q := (19, .iload_n 1, 1)) tx_tt_init_0 12 rfl
theorem d_tt_init_20 : decode prog_6_method_1_code 20 = .ok (.iload_n 2, 1) := zD (q := (20, .iload_n 2, 1)) tx_tt_init_0 13 rfl
theorem d_tt_init_21 : decode prog_6_method_1_code 21 = .ok (.imul, 1) := zD (q := (21, .imul, 1)) tx_tt_init_0 14 rfl
theorem d_tt_init_22 : decode prog_6_method_1_code 22 = .ok (.newarray .int, 2) := zD (q := (22, .newarray .int, 2)) tx_tt_init_0 15 rfl
theorem d_tt_init_24 : decode prog_6_method_1_code 24 = .ok (.putfield 19, 3) := zD (q := (24, .putfield 19, 3)) tx_tt_init_0 16 rfl
theorem d_tt_init_27 : decode prog_6_method_1_code 27 = .ok (.aload_n 0, 1) := zD (q := (27, .aload_n 0, 1)) tx_tt_init_0 17 rfl
theorem d_tt_init_28 : decode prog_6_method_1_code 28 = .ok (.iconst 4, 1) := zD (q := (28, .iconst 4, 1)) tx_tt_init_0 18 rfl
theorem d_tt_init_29 : decode prog_6_method_1_code 29 = .ok (.putfield 22, 3) := zD (q := (29, .putfield 22, 3)) tx_tt_init_0 19 rfl
theorem d_tt_init_32 : decode prog_6_method_1_code 32 = .ok (.aload_n 0, 1) := zD (q := (32, .aload_n 0, 1)) tx_tt_init_0 20 rfl
theorem d_tt_init_33 : decode prog_6_method_1_code 33 = .ok (.iconst 0, 1) := zD (q := (33, .iconst 0, 1)) tx_tt_init_0 21 rfl
theorem d_tt_init_34 : decode prog_6_method_1_code 34 = .ok (.putfield 25, 3) := zD (q := (34, .putfield 25, 3)) tx_tt_init_0 22 rfl
theorem d_tt_init_37 : decode prog_6_method_1_code 37 = .ok (.return_, 1) := zD (q := (37, .return_, 1)) tx_tt_init_0 23 rfl
def T_tt_layPlain_0 : List (Nat × Instr × Nat) := [(0, .aload_n 0, 1), (1, .getfield 22, 3), (4, .invokestatic 38, 3), (7, .istore_n 2, 1), (8, .aload_n 0, 1), (9, .aload_n 0, 1), (10, .getfield 22, 3), (13, .iload_n 1, 1), (14, .ifCond .eq 9, 3), (17, .iconst 2, 1), (18, .iload_n 2, 1), (19, .imul, 1), (20, .goto 4, 3), (23, .iload_n 2, 1), (24, .invokevirtual 42, 3), (27, .iconst 0, 1), (28, .istore_n 3, 1), (29, .iload_n 3, 1), (30, .iload_n 2, 1), (31, .if_icmp .ge 15, 3), (34, .aload_n 0, 1), (35, .iload_n 3, 1), (36, .iload_n 2, 1), (37, .invokevirtual 46, 3), (40, .iinc 3 1, 3), (43, .goto (-14), 3), (46, .iload_n 2, 1), (47, .istore_n 3, 1), (48, .iload_n 3, 1), (49, .aload_n 0, 1), (50, .getfield 25, 3), (53, .if_icmp .ge 17, 3), (56, .aload_n 0, 1), (57, .iload_n 3, 1), (58, .iload_n 3, 1), (59, .iload_n 2, 1), (60, .isub, 1), (61, .invokevirtual 49, 3), (64, .iinc 3 1, 3), (67, .goto (-19), 3), (70, .return_, 1)]
theorem tx_tt_layPlain_0 : zdec prog_6_method_12_code T_tt_layPlain_0 = true := by decide +kernel
theorem d_tt_layPlain_0 : decode prog_6_method_12_code 0 = .ok (.aload_n 0, 1) := zD (q := (0, .aload_n 0, 1)) tx_tt_layPlain_0 0 rfl
theorem d_tt_layPlain_1 : decode prog_6_method_12_code 1 = .ok (.getfield 22, 3) := zD (q := (1, .getfield 22, 3)) tx_tt_layPlain_0 1 rfl
theorem d_tt_layPlain_4 : decode prog_6_method_12_code 4 = .ok (.invokestatic 38, 3) := zD (q := (4, .invokestatic 38, 3)) tx_tt_layPlain_0 2 rfl
theorem d_tt_layPlain_7 : decode prog_6_method_12_code 7 = .ok (.istore_n 2, 1) := zD (q := (7, .istore_n 2, 1)) tx_tt_layPlain_0 3 rfl
theorem d_tt_layPlain_8 : decode prog_6_method_12_code 8 = .ok (.aload_n 0, 1) := zD (q := (8, .aload_n 0, 1)) tx_tt_layPlain_0 4 rfl
theorem d_tt_layPlain_9 : decode prog_6_method_12_code 9 = .ok (.aload_n 0, 1) := zD (q := (9, .aload_n 0, 1)) tx_tt_layPlain_0 5 rfl
theorem d_tt_layPlain_10 : decode prog_6_method_12_code 10 = .ok (.getfield 22, 3) := zD (q := (10, .getfield 22, 3)) tx_tt_layPlain_0 6 rfl
theorem d_tt_layPlain_13 : decode prog_6_method_12_code 13 = .ok (.iload_n 1, 1) := zD (q := (13, .iload_n 1, 1)) tx_tt_layPlain_0 7 rfl
theorem d_tt_layPlain_14 : decode prog_6_method_12_code 14 = .ok (.ifCond .eq 9, 3) := zD (q := (14, .ifCond .eq 9, 3)) tx_tt_layPlain_0 8 rfl
theorem d_tt_layPlain_17 : decode prog_6_method_12_code 17 = .ok (.iconst 2, 1) := zD (q := (17, .iconst 2, 1)) tx_tt_layPlain_0 9 rfl
theorem d_tt_layPlain_18 : decode prog_6_method_12_code 18 = .ok (.iload_n 2, 1) := zD (q := (18, .iload_n 2, 1)) tx_tt_layPlain_0 10 rfl
theorem d_tt_layPlain_19 : decode prog_6_method_12_code 19 = .ok (.imul, 1) := zD (q := (19, .imul, 1)) tx_tt_layPlain_0 11 rfl
theorem d_tt_layPlain_20 : decode prog_6_method_12_code 20 = .ok (.goto 4, 3) := zD (q := (20, .goto 4, 3)) tx_tt_layPlain_0 12 rfl
theorem d_tt_layPlain_23 : decode prog_6_method_12_code 23 = .ok (.iload_n 2, 1) := zD (q := (23, .iload_n 2, 1)) tx_tt_layPlain_0 13 rfl
theorem d_tt_layPlain_24 : decode prog_6_method_12_code 24 = .ok (.invokevirtual 42, 3) := zD (q := (24, .invokevirtual 42, 3)) tx_tt_layPlain_0 14 rfl
theorem d_tt_layPlain_27 : decode prog_6_method_12_code 27 = .ok (.iconst 0, 1) := zD (q := (27, .iconst 0, 1)) tx_tt_layPlain_0 15 rfl
theorem d_tt_layPlain_28 : decode prog_6_method_12_code 28 = .ok (.istore_n 3, 1) := zD (q := (28, .istore_n 3, 1)) tx_tt_layPlain_0 16 rfl
theorem d_tt_layPlain_29 : decode prog_6_method_12_code 29 = .ok (.iload_n 3, 1) := zD (q := (29, .iload_n 3, 1)) tx_tt_layPlain_0 17 rfl
theorem d_tt_layPlain_30 : decode prog_6_method_12_code 30 = .ok (.iload_n 2, 1) := zD (q := (30, .iload_n 2, 1)) tx_tt_layPlain_0 18 rfl
theorem d_tt_layPlain_31 : decode prog_6_method_12_code 31 = .ok (.if_icmp .ge 15, 3) := zD (q := (31, .if_icmp .ge 15, 3)) tx_tt_layPlain_0 19 rfl
theorem d_tt_layPlain_34 : decode prog_6_method_12_code 34 = .ok (.aload_n 0, 1) := zD (q := (34, .aload_n 0, 1)) tx_tt_layPlain_0 20 rfl
theorem d_tt_layPlain_35 : decode prog_6_method_12_code 35 = .ok (.iload_n 3, 1) := zD (q := (35, .iload_n 3, 1)) tx_tt_layPlain_0 21 rfl
theorem d_tt_layPlain_36 : decode prog_6_method_12_code 36 = .ok (.iload_n 2, 1) := zD (q := (36, .iload_n 2, 1)) tx_tt_layPlain_0 22 rfl
theorem d_tt_layPlain_37 : decode prog_6_method_12_code 37 = .ok (.invokevirtual 46, 3) := zD (q := (37, .invokevirtual 46, 3)) tx_tt_layPlain_0 23 rfl
theorem d_tt_layPlain_40 : decode prog_6_method_12_code 40 = .ok (.iinc 3 1, 3) := zD (q := (40, .iinc 3 1, 3)) tx_tt_layPlain_0 24 rfl
theorem d_tt_layPlain_43 : decode prog_6_method_12_code 43 = .ok (.goto (-14), 3) := zD (q := (43, .goto (-14), 3)) tx_tt_layPlain_0 25 rfl
theorem d_tt_layPlain_46 : decode prog_6_method_12_code 46 = .ok (.iload_n 2, 1) := zD (q := (46, .iload_n 2, 1)) tx_tt_layPlain_0 26 rfl
theorem d_tt_layPlain_47 : decode prog_6_method_12_code 47 = .ok (.istore_n 3, 1) := zD (q := (47, .istore_n 3, 1)) tx_tt_layPlain_0 27 rfl
theorem d_tt_layPlain_48 : decode prog_6_method_12_code 48 = .ok (.iload_n 3, 1) := zD (q := (48, .iload_n 3, 1)) tx_tt_layPlain_0 28 rfl
theorem d_tt_layPlain_49 : decode prog_6_method_12_code 49 = .ok (.aload_n 0, 1) := zD (q := (49, .aload_n 0, 1)) tx_tt_layPlain_0 29 rfl
theorem d_tt_layPlain_50 : decode prog_6_method_12_code 50 = .ok (.getfield 25, 3) := zD (q := (50, .getfield 25, 3)) tx_tt_layPlain_0 30 rfl
theorem d_tt_layPlain_53 : decode prog_6_method_12_code 53 = .ok (.if_icmp .ge 17, 3) := zD (q := (53, .if_icmp .ge 17, 3)) tx_tt_layPlain_0 31 rfl
theorem d_tt_layPlain_56 : decode prog_6_method_12_code 56 = .ok (.aload_n 0, 1) := zD (q := (56, .aload_n 0, 1)) tx_tt_layPlain_0 32 rfl
theorem d_tt_layPlain_57 : decode prog_6_method_12_code 57 = .ok (.iload_n 3, 1) := zD (q := (57, .iload_n 3, 1)) tx_tt_layPlain_0 33 rfl
theorem d_tt_layPlain_58 : decode prog_6_method_12_code 58 = .ok (.iload_n 3, 1) := zD (q := (58, .iload_n 3, 1)) tx_tt_layPlain_0 34 rfl
theorem d_tt_layPlain_59 : decode prog_6_method_12_code 59 = .ok (.iload_n 2, 1) := zD (q := (59, .iload_n 2, 1)) tx_tt_layPlain_0 35 rfl
theorem d_tt_layPlain_60 : decode prog_6_method_12_code 60 = .ok (.isub, 1) := zD (q := (60, .isub, 1)) tx_tt_layPlain_0 36 rfl
theorem d_tt_layPlain_61 : decode prog_6_method_12_code 61 = .ok (.invokevirtual 49, 3) := zD (q := (61, .invokevirtual 49, 3)) tx_tt_layPlain_0 37 rfl
theorem d_tt_layPlain_64 : decode prog_6_method_12_code 64 = .ok (.iinc 3 1, 3) := zD (q := (64, .iinc 3 1, 3)) tx_tt_layPlain_0 38 rfl
theorem d_tt_layPlain_67 : decode prog_6_method_12_code 67 = .ok (.goto (-19), 3) := zD (q := (67, .goto (-19), 3)) tx_tt_layPlain_0 39 rfl
theorem d_tt_layPlain_70 : decode prog_6_method_12_code 70 = .ok (.return_, 1) := zD (q := (70, .return_, 1)) tx_tt_layPlain_0 40 rfl
def T_tt_begin_0 : List (Nat × Instr × Nat) := [(0, .aload_n 0, 1), (1, .iload_n 1, 1), (2, .putfield 22, 3), (5, .aload_n 0, 1), (6, .iload_n 2, 1), (7, .putfield 25, 3), (10, .aload_n 0, 1), (11, .getfield 15, 3), (14, .iconst (-1), 1), (15, .invokestatic 28, 3), (18, .aload_n 0, 1), (19, .getfield 19, 3), (22, .iconst (-1), 1), (23, .invokestatic 28, 3), (26, .return_, 1)]
theorem tx_tt_begin_0 : zdec prog_6_method_2_code T_tt_begin_0 = true := by decide +kernel
theorem d_tt_begin_0 : decode prog_6_method_2_code 0 = .ok (.aload_n 0, 1) := zD (q := (0, .aload_n 0, 1)) tx_tt_begin_0 0 rfl
theorem d_tt_begin_1 : decode prog_6_method_2_code 1 = .ok (.iload_n 1, 1) := zD (q := (1, .iload_n 1, 1)) tx_tt_begin_0 1 rfl
theorem d_tt_begin_2 : decode prog_6_method_2_code 2 = .ok (.putfield 22, 3) := zD (q := (2, .putfield 22, 3)) tx_tt_begin_0 2 rfl
theorem d_tt_begin_5 : decode prog_6_method_2_code 5 = .ok (.aload_n 0, 1) := zD (q := (5, .aload_n 0, 1)) tx_tt_begin_0 3 rfl
theorem d_tt_begin_6 : decode prog_6_method_2_code 6 = .ok (.iload_n 2, 1) := zD (q := (6, .iload_n 2, 1)) tx_tt_begin_0 4 rfl
theorem d_tt_begin_7 : decode prog_6_method_2_code 7 = .ok (.putfield 25, 3) := zD (q := (7, .putfield 25, 3)) tx_tt_begin_0 5 rfl
theorem d_tt_begin_10 : decode prog_6_method_2_code 10 = .ok (.aload_n 0, 1) := zD (q := (10, .aload_n 0, 1)) tx_tt_begin_0 6 rfl
theorem d_tt_begin_11 : decode prog_6_method_2_code 11 = .ok (.getfield 15, 3) := zD (q := (11, .getfield 15, 3)) tx_tt_begin_0 7 rfl
theorem d_tt_begin_14 : decode prog_6_method_2_code 14 = .ok (.iconst (-1), 1) := zD (q := (14, .iconst (-1), 1)) tx_tt_begin_0 8 rfl
theorem d_tt_begin_15 : decode prog_6_method_2_code 15 = .ok (.invokestatic 28, 3) := zD (q := (15, .invokestatic 28, 3)) tx_tt_begin_0 9 rfl
theorem d_tt_begin_18 : decode prog_6_method_2_code 18 = .ok (.aload_n 0, 1) := zD (q := (18, .aload_n 0, 1)) tx_tt_begin_0 10 rfl
theorem d_tt_begin_19 : decode prog_6_method_2_code 19 = .ok (.getfield 19, 3) := zD (q := (19, .getfield 19, 3)) tx_tt_begin_0 11 rfl
theorem d_tt_begin_22 : decode prog_6_method_2_code 22 = .ok (.iconst (-1), 1) := zD (q := (22, .iconst (-1), 1)) tx_tt_begin_0 12 rfl
theorem d_tt_begin_23 : decode prog_6_method_2_code 23 = .ok (.invokestatic 28, 3) := zD (q := (23, .invokestatic 28, 3)) tx_tt_begin_0 13 rfl
theorem d_tt_begin_26 : decode prog_6_method_2_code 26 = .ok (.return_, 1) := zD (q := (26, .return_, 1)) tx_tt_begin_0 14 rfl
def T_tt_layPlainRound_0 : List (Nat × Instr × Nat) := [(0, .iconst 1, 1), (1, .istore_n 3, 1), (2, .iload_n 3, 1), (3, .iload_n 2, 1), (4, .iconst 1, 1), (5, .isub, 1), (6, .iconst 2, 1), (7, .idiv, 1), (8, .if_icmp .gt 49, 3), (11, .iload_n 1, 1), (12, .iload_n 3, 1), (13, .iadd, 1), (14, .iload_n 2, 1), (15, .invokestatic 52, 3), (18, .istore 4, 2), (20, .iload_n 1, 1), (21, .iload_n 2, 1), (22, .iadd, 1), (23, .iload_n 3, 1), (24, .isub, 1), (25, .iload_n 2, 1), (26, .invokestatic 52, 3), (29, .istore 5, 2), (31, .aload_n 0, 1), (32, .iload_n 1, 1), (33, .iload 4, 2), (35, .iload 5, 2), (37, .iload_n 3, 1), (38, .iconst 2, 1), (39, .irem, 1), (40, .ifCond .eq 7, 3), (43, .iconst 1, 1), (44, .goto 4, 3), (47, .iconst 0, 1), (48, .invokevirtual 56, 3), (51, .iinc 3 1, 3), (54, .goto (-52), 3), (57, .aload_n 0, 1), (58, .getfield 22, 3), (61, .iconst 2, 1), (62, .irem, 1), (63, .ifCond .ne 26, 3), (66, .aload_n 0, 1), (67, .iload_n 1, 1), (68, .iload_n 1, 1), (69, .aload_n 0, 1), (70, .getfield 22, 3), (73, .iconst 1, 1), (74, .isub, 1), (75, .iload_n 1, 1), (76, .iconst 2, 1), (77, .irem, 1), (78, .ifCond .ne 7, 3), (81, .iconst 1, 1), (82, .goto 4, 3), (85, .iconst 0, 1), (86, .invokevirtual 56, 3), (89, .return_, 1)]
theorem tx_tt_layPlainRound_0 : zdec prog_6_method_13_code T_tt_layPlainRound_0 = true := by decide +kernel
theorem d_tt_layPlainRound_0 : decode prog_6_method_13_code 0 = .ok (.iconst 1, 1) := zD (q := (0, .iconst 1, 1)) tx_tt_layPlainRound_0 0 rfl
theorem d_tt_layPlainRound_1 : decode prog_6_method_13_code 1 = .ok (.istore_n 3, 1) := zD (q := (1, .istore_n 3, 1)) tx_tt_layPlainRound_0 1 rfl
theorem d_tt_layPlainRound_2 : decode prog_6_method_13_code 2 = .ok (.iload_n 3, 1) := zD (q := (2, .iload_n 3, 1)) tx_tt_layPlainRound_0 2 rfl
theorem d_tt_layPlainRound_3 : decode prog_6_method_13_code 3 = .ok (.iload_n 2, 1) := zD (q := (3, .iload_n 2, 1)) tx_tt_layPlainRound_0 3 rfl
theorem d_tt_layPlainRound_4 : decode prog_6_method_13_code 4 = .ok (.iconst 1, 1) := zD (q := (4, .iconst 1, 1)) tx_tt_layPlainRound_0 4 rfl
theorem d_tt_layPlainRound_5 : decode prog_6_method_13_code 5 = .ok (.isub, 1) := zD (q := (5, .isub, 1)) tx_tt_layPlainRound_0 5 rfl
theorem d_tt_layPlainRound_6 : decode prog_6_method_13_code 6 = .ok (.iconst 2, 1) := zD (q := (6, .iconst 2, 1)) tx_tt_layPlainRound_0 6 rfl
theorem d_tt_layPlainRound_7 : decode prog_6_method_13_code 7 = .ok (.idiv, 1) := zD (q := (7, .idiv, 1)) tx_tt_layPlainRound_0 7 rfl
theorem d_tt_layPlainRound_8 : decode prog_6_method_13_code 8 = .ok (.if_icmp .gt 49, 3) := zD (q := (8, .if_icmp .gt 49, 3)) tx_tt_layPlainRound_0 8 rfl
theorem d_tt_layPlainRound_11 : decode prog_6_method_13_code 11 = .ok (.iload_n 1, 1) := zD (q := (11, .iload_n 1, 1)) tx_tt_layPlainRound_0 9 rfl
theorem d_tt_layPlainRound_12 : decode prog_6_method_13_code 12 = .ok (.iload_n 3, 1) := zD (q := (12, .iload_n 3, 1)) tx_tt_layPlainRound_0 10 rfl
theorem d_tt_layPlainRound_13 : decode prog_6_method_13_code 13 = .ok (.iadd, 1) := zD (q := (13, .iadd, 1)) tx_tt_layPlainRound_0 11 rfl
theorem d_tt_layPlainRound_14 : decode prog_6_method_13_code 14 = .ok (.iload_n 2, 1) := zD (q := (14, .iload_n 2, 1)) tx_tt_layPlainRound_0 12 rfl
theorem d_tt_layPlainRound_15 : decode prog_6_method_13_code 15 = .ok (.invokestatic 52, 3) := zD (q := (15, .invokestatic 52, 3)) tx_tt_layPlainRound_0 13 rfl
theorem d_tt_layPlainRound_18 : decode prog_6_method_13_code 18 = .ok (.istore 4, 2) := zD (q := (18, .istore 4, 2)) tx_tt_layPlainRound_0 14 rfl
theorem d_tt_layPlainRound_20 : decode prog_6_method_13_code 20 = .ok (.iload_n 1, 1) := zD (q := (20, .iload_n 1, 1)) tx_tt_layPlainRound_0 15 rfl
theorem d_tt_layPlainRound_21 : decode prog_6_method_13_code 21 = .ok (.iload_n 2, 1) := zD (q := (21, .iload_n 2, 1)) tx_tt_layPlainRound_0 16 rfl
theorem d_tt_layPlainRound_22 : decode prog_6_method_13_code 22 = .ok (.iadd, 1) := zD (q := (22, .iadd, 1)) tx_tt_layPlainRound_0 17 rfl
theorem d_tt_layPlainRound_23 : decode prog_6_method_13_code 23 = .ok (.iload_n 3, 1) := zD (q := (23, .iload_n 3, 1)) tx_tt_layPlainRound_0 18 rfl
theorem d_tt_layPlainRound_24 : decode prog_6_method_13_code 24 = .ok (.isub, 1) := zD (q := (24, .isub, 1)) tx_tt_layPlainRound_0 19 rfl
theorem d_tt_layPlainRound_25 : decode prog_6_method_13_code 25 = .ok (.iload_n 2, 1) := zD (q := (25, .iload_n 2, 1)) tx_tt_layPlainRound_0 20 rfl
theorem d_tt_layPlainRound_26 : decode prog_6_method_13_code 26 = .ok (.invokestatic 52, 3) := zD (q := (26, .invokestatic 52, 3)) tx_tt_layPlainRound_0 21 rfl
theorem d_tt_layPlainRound_29 : decode prog_6_method_13_code 29 = .ok (.istore 5, 2) := zD (q := (29, .istore 5, 2)) tx_tt_layPlainRound_0 22 rfl
theorem d_tt_layPlainRound_31 : decode prog_6_method_13_code 31 = .ok (.aload_n 0, 1) := zD (q := (31, .aload_n 0, 1)) tx_tt_layPlainRound_0 23 rfl
theorem d_tt_layPlainRound_32 : decode prog_6_method_13_code 32 = .ok (.iload_n 1, 1) := zD (q := (32, .iload_n 1, 1)) tx_tt_layPlainRound_0 24 rfl
theorem d_tt_layPlainRound_33 : decode prog_6_method_13_code 33 = .ok (.iload 4, 2) := zD (q := (33, .iload 4, 2)) tx_tt_layPlainRound_0 25 rfl
theorem d_tt_layPlainRound_35 : decode prog_6_method_13_code 35 = .ok (.iload 5, 2) := zD (q := (35, .iload 5, 2)) tx_tt_layPlainRound_0 26 rfl
theorem d_tt_layPlainRound_37 : decode prog_6_method_13_code 37 = .ok (.iload_n 3, 1) := zD (q := (37, .iload_n 3, 1)) tx_tt_layPlainRound_0 27 rfl
theorem d_tt_layPlainRound_38 : decode prog_6_method_13_code 38 = .ok (.iconst 2, 1) := zD (q := (38, .iconst 2, 1)) tx_tt_layPlainRound_0 28 rfl
theorem d_tt_layPlainRound_39 : decode prog_6_method_13_code 39 = .ok (.irem, 1) := zD (q := (39, .irem, 1)) tx_tt_layPlainRound_0 29 rfl
theorem d_tt_layPlainRound_40 : decode prog_6_method_13_code 40 = .ok (.ifCond .eq 7, 3) := zD (q := (40, .ifCond .eq 7, 3)) tx_tt_layPlainRound_0 30 rfl
theorem d_tt_layPlainRound_43 : decode prog_6_method_13_code 43 = .ok (.iconst 1, 1) := zD (q := (43, .iconst 1, 1)) tx_tt_layPlainRound_0 31 rfl
theorem d_tt_layPlainRound_44 : decode prog_6_method_13_code 44 = .ok (.goto 4, 3) := zD (q := (44, .goto 4, 3)) tx_tt_layPlainRound_0 32 rfl
theorem d_tt_layPlainRound_47 : decode prog_6_method_13_code 47 = .ok (.iconst 0, 1) := zD (q := (47, .iconst 0, 1)) tx_tt_layPlainRound_0 33 rfl
theorem d_tt_layPlainRound_48 : decode prog_6_method_13_code 48 = .ok (.invokevirtual 56, 3) := zD (q := (48, .invokevirtual 56, 3)) tx_tt_layPlainRound_0 34 rfl
theorem d_tt_layPlainRound_51 : decode prog_6_method_13_code 51 = .ok (.iinc 3 1, 3) := zD (q := (51, .iinc 3 1, 3)) tx_tt_layPlainRound_0 35 rfl
theorem d_tt_layPlainRound_54 : decode prog_6_method_13_code 54 = .ok (.goto (-52), 3) := zD (q := (54, .goto (-52), 3)) tx_tt_layPlainRound_0 36 rfl
theorem d_tt_layPlainRound_57 : decode prog_6_method_13_code 57 = .ok (.aload_n 0, 1) := zD (q := (57, .aload_n 0, 1)) tx_tt_layPlainRound_0 37 rfl
theorem d_tt_layPlainRound_58 : decode prog_6_method_13_code 58 = .ok (.getfield 22, 3) := zD (q := (58, .getfield 22, 3)) tx_tt_layPlainRound_0 38 rfl
theorem d_tt_layPlainRound_61 : decode prog_6_method_13_code 61 = .ok (.iconst 2, 1) := zD (q := (61, .iconst 2, 1)) tx_tt_layPlainRound_0 39 rfl
theorem d_tt_layPlainRound_62 : decode prog_6_method_13_code 62 = .ok (.irem, 1) := zD (q := (62, .irem, 1)) tx_tt_layPlainRound_0 40 rfl
theorem d_tt_layPlainRound_63 : decode prog_6_method_13_code 63 = .ok (.ifCond .ne 26, 3) := zD (q := (63, .ifCond .ne 26, 3)) tx_tt_layPlainRound_0 41 rfl
theorem d_tt_layPlainRound_66 : decode prog_6_method_13_code 66 = .ok (.aload_n 0, 1) := zD (q := (66, .aload_n 0, 1)) tx_tt_layPlainRound_0 42 rfl
theorem d_tt_layPlainRound_67 : decode prog_6_method_13_code 67 = .ok (.iload_n 1, 1) := zD (q := (67, .iload_n 1, 1)) tx_tt_layPlainRound_0 43 rfl
theorem d_tt_layPlainRound_68 : decode prog_6_method_13_code 68 = .ok (.iload_n 1, 1) := zD (q := (68, .iload_n 1, 1)) tx_tt_layPlainRound_0 44 rfl
theorem d_tt_layPlainRound_69 : decode prog_6_method_13_code 69 = .ok (.aload_n 0, 1) := zD (q := (69, .aload_n 0, 1)) tx_tt_layPlainRound_0 45 rfl
theorem d_tt_layPlainRound_70 : decode prog_6_method_13_code 70 = .ok (.getfield 22, 3) := zD (q := (70, .getfield 22, 3)) tx_tt_layPlainRound_0 46 rfl
theorem d_tt_layPlainRound_73 : decode prog_6_method_13_code 73 = .ok (.iconst 1, 1) := zD (q := (73, .iconst 1, 1)) tx_tt_layPlainRound_0 47 rfl
theorem d_tt_layPlainRound_74 : decode prog_6_method_13_code 74 = .ok (.isub, 1) := zD (q := (74, .isub, 1)) tx_tt_layPlainRound_0 48 rfl
theorem d_tt_layPlainRound_75 : decode prog_6_method_13_code 75 = .ok (.iload_n 1, 1) := zD (q := (75, .iload_n 1, 1)) tx_tt_layPlainRound_0 49 rfl
theorem d_tt_layPlainRound_76 : decode prog_6_method_13_code 76 = .ok (.iconst 2, 1) := zD (q := (76, .iconst 2, 1)) tx_tt_layPlainRound_0 50 rfl
theorem d_tt_layPlainRound_77 : decode prog_6_method_13_code 77 = .ok (.irem, 1) := zD (q := (77, .irem, 1)) tx_tt_layPlainRound_0 51 rfl
theorem d_tt_layPlainRound_78 : decode prog_6_method_13_code 78 = .ok (.ifCond .ne 7, 3) := zD (q := (78, .ifCond .ne 7, 3)) tx_tt_layPlainRound_0 52 rfl
theorem d_tt_layPlainRound_81 : decode prog_6_method_13_code 81 = .ok (.iconst 1, 1) := zD (q := (81, .iconst 1, 1)) tx_tt_layPlainRound_0 53 rfl
theorem d_tt_layPlainRound_82 : decode prog_6_method_13_code 82 = .ok (.goto 4, 3) := zD (q := (82, .goto 4, 3)) tx_tt_layPlainRound_0 54 rfl
theorem d_tt_layPlainRound_85 : decode prog_6_method_13_code 85 = .ok (.iconst 0, 1) := zD (q := (85, .iconst 0, 1)) tx_tt_layPlainRound_0 55 rfl
theorem d_tt_layPlainRound_86 : decode prog_6_method_13_code 86 = .ok (.invokevirtual 56, 3) := zD (q := (86, .invokevirtual 56, 3)) tx_tt_layPlainRound_0 56 rfl
theorem d_tt_layPlainRound_89 : decode prog_6_method_13_code 89 = .ok (.return_, 1) := zD (q := (89, .return_, 1)) tx_tt_layPlainRound_0 57 rfl
def T_tt_wrapped_0 : List (Nat × Instr × Nat) := [(0, .iload_n 0, 1), (1, .iload_n 1, 1), (2, .if_icmp .ge 7, 3), (5, .iload_n 0, 1), (6, .goto 6, 3), (9, .iload_n 0, 1), (10, .iload_n 1, 1), (11, .isub, 1), (12, .ireturn, 1)]
theorem tx_tt_wrapped_0 : zdec prog_6_method_16_code T_tt_wrapped_0 = true := by decide +kernel
theorem d_tt_wrapped_0 : decode prog_6_method_16_code 0 = .ok (.iload_n 0, 1) := zD (q := (0, .iload_n 0, 1)) tx_tt_wrapped_0 0 rfl
theorem d_tt_wrapped_1 : decode prog_6_method_16_code 1 = .ok (.iload_n 1, 1) := zD (q := (1, .iload_n 1, 1)) tx_tt_wrapped_0 1 rfl
theorem d_tt_wrapped_2 : decode prog_6_method_16_code 2 = .ok (.if_icmp .ge 7, 3) := zD (q := (2, .if_icmp .ge 7, 3)) tx_tt_wrapped_0 2 rfl
theorem d_tt_wrapped_5 : decode prog_6_method_16_code 5 = .ok (.iload_n 0, 1) := zD (q := (5, .iload_n 0, 1)) tx_tt_wrapped_0 3 rfl
theorem d_tt_wrapped_6 : decode prog_6_method_16_code 6 = .ok (.goto 6, 3) := zD (q := (6, .goto 6, 3)) tx_tt_wrapped_0 4 rfl
theorem d_tt_wrapped_9 : decode prog_6_method_16_code 9 = .ok (.iload_n 0, 1) := zD (q := (9, .iload_n 0, 1)) tx_tt_wrapped_0 5 rfl
theorem d_tt_wrapped_10 : decode prog_6_method_16_code 10 = .ok (.iload_n 1, 1) := zD (q := (10, .iload_n 1, 1)) tx_tt_wrapped_0 6 rfl
theorem d_tt_wrapped_11 : decode prog_6_method_16_code 11 = .ok (.isub, 1) := zD (q := (11, .isub, 1)) tx_tt_wrapped_0 7 rfl
theorem d_tt_wrapped_12 : decode prog_6_method_16_code 12 = .ok (.ireturn, 1) := zD (q := (12, .ireturn, 1)) tx_tt_wrapped_0 8 rfl
def T_tt_layPlainGame_0 : List (Nat × Instr × Nat) := [(0, .aload_n 0, 1), (1, .iload_n 1, 1), (2, .iload 4, 2), (4, .ifCond .eq 7, 3), (7, .iload_n 2, 1), (8, .goto 4, 3), (11, .iload_n 3, 1), (12, .iload 4, 2), (14, .ifCond .eq 7, 3), (17, .iload_n 3, 1), (18, .goto 4, 3), (21, .iload_n 2, 1), (22, .invokevirtual 60, 3), (25, .return_, 1)]
theorem tx_tt_layPlainGame_0 : zdec prog_6_method_14_code T_tt_layPlainGame_0 = true := by decide +kernel
theorem d_tt_layPlainGame_0 : decode prog_6_method_14_code 0 = .ok (.aload_n 0, 1) := zD (q := (0, .aload_n 0, 1)) tx_tt_layPlainGame_0 0 rfl
theorem d_tt_layPlainGame_1 : decode prog_6_method_14_code 1 = .ok (.iload_n 1, 1) := zD (q := (1, .iload_n 1, 1)) tx_tt_layPlainGame_0 1 rfl
theorem d_tt_layPlainGame_2 : decode prog_6_method_14_code 2 = .ok (.iload 4, 2) := zD (q := (2, .iload 4, 2)) tx_tt_layPlainGame_0 2 rfl
theorem d_tt_layPlainGame_4 : decode prog_6_method_14_code 4 = .ok (.ifCond .eq 7, 3) := zD (q := (4, .ifCond .eq 7, 3)) tx_tt_layPlainGame_0 3 rfl
theorem d_tt_layPlainGame_7 : decode prog_6_method_14_code 7 = .ok (.iload_n 2, 1) := zD (q := (7, .iload_n 2, 1)) tx_tt_layPlainGame_0 4 rfl
theorem d_tt_layPlainGame_8 : decode prog_6_method_14_code 8 = .ok (.goto 4, 3) := zD (q := (8, .goto 4, 3)) tx_tt_layPlainGame_0 5 rfl
theorem d_tt_layPlainGame_11 : decode prog_6_method_14_code 11 = .ok (.iload_n 3, 1) := zD (q := (11, .iload_n 3, 1)) tx_tt_layPlainGame_0 6 rfl
theorem d_tt_layPlainGame_12 : decode prog_6_method_14_code 12 = .ok (.iload 4, 2) := zD (q := (12, .iload 4, 2)) tx_tt_layPlainGame_0 7 rfl
theorem d_tt_layPlainGame_14 : decode prog_6_method_14_code 14 = .ok (.ifCond .eq 7, 3) := zD (q := (14, .ifCond .eq 7, 3)) tx_tt_layPlainGame_0 8 rfl
theorem d_tt_layPlainGame_17 : decode prog_6_method_14_code 17 = .ok (.iload_n 3, 1) := zD (q := (17, .iload_n 3, 1)) tx_tt_layPlainGame_0 9 rfl
theorem d_tt_layPlainGame_18 : decode prog_6_method_14_code 18 = .ok (.goto 4, 3) := zD (q := (18, .goto 4, 3)) tx_tt_layPlainGame_0 10 rfl
theorem d_tt_layPlainGame_21 : decode prog_6_method_14_code 21 = .ok (.iload_n 2, 1) := zD (q := (21, .iload_n 2, 1)) tx_tt_layPlainGame_0 11 rfl
theorem d_tt_layPlainGame_22 : decode prog_6_method_14_code 22 = .ok (.invokevirtual 60, 3) := zD (q := (22, .invokevirtual 60, 3)) tx_tt_layPlainGame_0 12 rfl
theorem d_tt_layPlainGame_25 : decode prog_6_method_14_code 25 = .ok (.return_, 1) := zD (q := (25, .return_, 1)) tx_tt_layPlainGame_0 13 rfl
def T_tt_putGame_0 : List (Nat × Instr × Nat) := [(0, .aload_n 0, 1), (1, .iload_n 1, 1), (2, .iload_n 2, 1), (3, .iload_n 3, 1), (4, .iconst 1, 1), (5, .invokevirtual 34, 3), (8, .aload_n 0, 1), (9, .iload_n 1, 1), (10, .iload_n 3, 1), (11, .iload_n 2, 1), (12, .iconst 0, 1), (13, .invokevirtual 34, 3), (16, .return_, 1)]
theorem tx_tt_putGame_0 : zdec prog_6_method_9_code T_tt_putGame_0 = true := by decide +kernel
theorem d_tt_putGame_0 : decode prog_6_method_9_code 0 = .ok (.aload_n 0, 1) := zD (q := (0, .aload_n 0, 1)) tx_tt_putGame_0 0 rfl
theorem d_tt_putGame_1 : decode prog_6_method_9_code 1 = .ok (.iload_n 1, 1) := zD (q := (1, .iload_n 1, 1)) tx_tt_putGame_0 1 rfl
theorem d_tt_putGame_2 : decode prog_6_method_9_code 2 = .ok (.iload_n 2, 1) := zD (q := (2, .iload_n 2, 1)) tx_tt_putGame_0 2 rfl
theorem d_tt_putGame_3 : decode prog_6_method_9_code 3 = .ok (.iload_n 3, 1) := zD (q := (3, .iload_n 3, 1)) tx_tt_putGame_0 3 rfl
theorem d_tt_putGame_4 : decode prog_6_method_9_code 4 = .ok (.iconst 1, 1) := zD (q := (4, .iconst 1, 1)) tx_tt_putGame_0 4 rfl
theorem d_tt_putGame_5 : decode prog_6_method_9_code 5 = .ok (.invokevirtual 34, 3) := zD (q := (5, .invokevirtual 34, 3)) tx_tt_putGame_0 5 rfl
theorem d_tt_putGame_8 : decode prog_6_method_9_code 8 = .ok (.aload_n 0, 1) := zD (q := (8, .aload_n 0, 1)) tx_tt_putGame_0 6 rfl
theorem d_tt_putGame_9 : decode prog_6_method_9_code 9 = .ok (.iload_n 1, 1) := zD (q := (9, .iload_n 1, 1)) tx_tt_putGame_0 7 rfl
theorem d_tt_putGame_10 : decode prog_6_method_9_code 10 = .ok (.iload_n 3, 1) := zD (q := (10, .iload_n 3, 1)) tx_tt_putGame_0 8 rfl
theorem d_tt_putGame_11 : decode prog_6_method_9_code 11 = .ok (.iload_n 2, 1) := zD (q := (11, .iload_n 2, 1)) tx_tt_putGame_0 9 rfl
theorem d_tt_putGame_12 : decode prog_6_method_9_code 12 = .ok (.iconst 0, 1) := zD (q := (12, .iconst 0, 1)) tx_tt_putGame_0 10 rfl
theorem d_tt_putGame_13 : decode prog_6_method_9_code 13 = .ok (.invokevirtual 34, 3) := zD (q := (13, .invokevirtual 34, 3)) tx_tt_putGame_0 11 rfl
theorem d_tt_putGame_16 : decode prog_6_method_9_code 16 = .ok (.return_, 1) := zD (q := (16, .return_, 1)) tx_tt_putGame_0 12 rfl
def T_tt_putSide_0 : List (Nat × Instr × Nat) := [(0, .aload_n 0, 1), (1, .getfield 15, 3), (4, .iload_n 1, 1), (5, .aload_n 0, 1), (6, .getfield 9, 3), (9, .imul, 1), (10, .iload_n 2, 1), (11, .iadd, 1), (12, .iload_n 3, 1), (13, .iastore, 1), (14, .aload_n 0, 1), (15, .getfield 19, 3), (18, .iload_n 1, 1), (19, .aload_n 0, 1), (20, .getfield 9, 3), (23, .imul, 1), (24, .iload_n 2, 1), (25, .iadd, 1), (26, .iload 4, 2), (28, .iastore, 1), (29, .return_, 1)]
theorem tx_tt_putSide_0 : zdec prog_6_method_11_code T_tt_putSide_0 = true := by decide +kernel
theorem d_tt_putSide_0 : decode prog_6_method_11_code 0 = .ok (.aload_n 0, 1) := zD (q := (0, .aload_n 0, 1)) tx_tt_putSide_0 0 rfl
theorem d_tt_putSide_1 : decode prog_6_method_11_code 1 = .ok (.getfield 15, 3) := zD (q := (1, .getfield 15, 3)) tx_tt_putSide_0 1 rfl
theorem d_tt_putSide_4 : decode prog_6_method_11_code 4 = .ok (.iload_n 1, 1) := zD (q := (4, .iload_n 1, 1)) tx_tt_putSide_0 2 rfl
theorem d_tt_putSide_5 : decode prog_6_method_11_code 5 = .ok (.aload_n 0, 1) := zD (q := (5, .aload_n 0, 1)) tx_tt_putSide_0 3 rfl
theorem d_tt_putSide_6 : decode prog_6_method_11_code 6 = .ok (.getfield 9, 3) := zD (q := (6, .getfield 9, 3)) tx_tt_putSide_0 4 rfl
theorem d_tt_putSide_9 : decode prog_6_method_11_code 9 = .ok (.imul, 1) := zD (q := (9, .imul, 1)) tx_tt_putSide_0 5 rfl
theorem d_tt_putSide_10 : decode prog_6_method_11_code 10 = .ok (.iload_n 2, 1) := zD (q := (10, .iload_n 2, 1)) tx_tt_putSide_0 6 rfl
theorem d_tt_putSide_11 : decode prog_6_method_11_code 11 = .ok (.iadd, 1) := zD (q := (11, .iadd, 1)) tx_tt_putSide_0 7 rfl
theorem d_tt_putSide_12 : decode prog_6_method_11_code 12 = .ok (.iload_n 3, 1) := zD (q := (12, .iload_n 3, 1)) tx_tt_putSide_0 8 rfl
theorem d_tt_putSide_13 : decode prog_6_method_11_code 13 = .ok (.iastore, 1) := zD (q := (13, .iastore, 1)) tx_tt_putSide_0 9 rfl
theorem d_tt_putSide_14 : decode prog_6_method_11_code 14 = .ok (.aload_n 0, 1) := zD (q := (14, .aload_n 0, 1)) tx_tt_putSide_0 10 rfl
theorem d_tt_putSide_15 : decode prog_6_method_11_code 15 = .ok (.getfield 19, 3) := zD (q := (15, .getfield 19, 3)) tx_tt_putSide_0 11 rfl
theorem d_tt_putSide_18 : decode prog_6_method_11_code 18 = .ok (.iload_n 1, 1) := zD (q := (18, .iload_n 1, 1)) tx_tt_putSide_0 12 rfl
theorem d_tt_putSide_19 : decode prog_6_method_11_code 19 = .ok (.aload_n 0, 1) := zD (q := (19, .aload_n 0, 1)) tx_tt_putSide_0 13 rfl
theorem d_tt_putSide_20 : decode prog_6_method_11_code 20 = .ok (.getfield 9, 3) := zD (q := (20, .getfield 9, 3)) tx_tt_putSide_0 14 rfl
theorem d_tt_putSide_23 : decode prog_6_method_11_code 23 = .ok (.imul, 1) := zD (q := (23, .imul, 1)) tx_tt_putSide_0 15 rfl
theorem d_tt_putSide_24 : decode prog_6_method_11_code 24 = .ok (.iload_n 2, 1) := zD (q := (24, .iload_n 2, 1)) tx_tt_putSide_0 16 rfl
theorem d_tt_putSide_25 : decode prog_6_method_11_code 25 = .ok (.iadd, 1) := zD (q := (25, .iadd, 1)) tx_tt_putSide_0 17 rfl
theorem d_tt_putSide_26 : decode prog_6_method_11_code 26 = .ok (.iload 4, 2) := zD (q := (26, .iload 4, 2)) tx_tt_putSide_0 18 rfl
theorem d_tt_putSide_28 : decode prog_6_method_11_code 28 = .ok (.iastore, 1) := zD (q := (28, .iastore, 1)) tx_tt_putSide_0 19 rfl
theorem d_tt_putSide_29 : decode prog_6_method_11_code 29 = .ok (.return_, 1) := zD (q := (29, .return_, 1)) tx_tt_putSide_0 20 rfl
def T_tt_layReturnRound_0 : List (Nat × Instr × Nat) := [(0, .iconst 0, 1), (1, .istore_n 3, 1), (2, .iload_n 3, 1), (3, .aload_n 0, 1), (4, .getfield 22, 3), (7, .if_icmp .ge 31, 3), (10, .aload_n 0, 1), (11, .iload_n 2, 1), (12, .iload_n 3, 1), (13, .invokevirtual 64, 3), (16, .iconst 1, 1), (17, .if_icmp .ne 15, 3), (20, .aload_n 0, 1), (21, .iload_n 1, 1), (22, .aload_n 0, 1), (23, .iload_n 2, 1), (24, .iload_n 3, 1), (25, .invokevirtual 67, 3), (28, .iload_n 3, 1), (29, .invokevirtual 60, 3), (32, .iinc 3 1, 3), (35, .goto (-33), 3), (38, .return_, 1)]
theorem tx_tt_layReturnRound_0 : zdec prog_6_method_15_code T_tt_layReturnRound_0 = true := by decide +kernel
theorem d_tt_layReturnRound_0 : decode prog_6_method_15_code 0 = .ok (.iconst 0, 1) := zD (q := (0, .iconst 0, 1)) tx_tt_layReturnRound_0 0 rfl
theorem d_tt_layReturnRound_1 : decode prog_6_method_15_code 1 = .ok (.istore_n 3, 1) := zD (q := (1, .istore_n 3, 1)) tx_tt_layReturnRound_0 1 rfl
theorem d_tt_layReturnRound_2 : decode prog_6_method_15_code 2 = .ok (.iload_n 3, 1) := zD (q := (2, .iload_n 3, 1)) tx_tt_layReturnRound_0 2 rfl
theorem d_tt_layReturnRound_3 : decode prog_6_method_15_code 3 = .ok (.aload_n 0, 1) := zD (q := (3, .aload_n 0, 1)) tx_tt_layReturnRound_0 3 rfl
theorem d_tt_layReturnRound_4 : decode prog_6_method_15_code 4 = .ok (.getfield 22, 3) := zD (q := (4, .getfield 22, 3)) tx_tt_layReturnRound_0 4 rfl
theorem d_tt_layReturnRound_7 : decode prog_6_method_15_code 7 = .ok (.if_icmp .ge 31, 3) := zD (q := (7, .if_icmp .ge 31, 3)) tx_tt_layReturnRound_0 5 rfl
theorem d_tt_layReturnRound_10 : decode prog_6_method_15_code 10 = .ok (.aload_n 0, 1) := zD (q := (10, .aload_n 0, 1)) tx_tt_layReturnRound_0 6 rfl
theorem d_tt_layReturnRound_11 : decode prog_6_method_15_code 11 = .ok (.iload_n 2, 1) := zD (q := (11, .iload_n 2, 1)) tx_tt_layReturnRound_0 7 rfl
theorem d_tt_layReturnRound_12 : decode prog_6_method_15_code 12 = .ok (.iload_n 3, 1) := zD (q := (12, .iload_n 3, 1)) tx_tt_layReturnRound_0 8 rfl
theorem d_tt_layReturnRound_13 : decode prog_6_method_15_code 13 = .ok (.invokevirtual 64, 3) := zD (q := (13, .invokevirtual 64, 3)) tx_tt_layReturnRound_0 9 rfl
theorem d_tt_layReturnRound_16 : decode prog_6_method_15_code 16 = .ok (.iconst 1, 1) := zD (q := (16, .iconst 1, 1)) tx_tt_layReturnRound_0 10 rfl
theorem d_tt_layReturnRound_17 : decode prog_6_method_15_code 17 = .ok (.if_icmp .ne 15, 3) := zD (q := (17, .if_icmp .ne 15, 3)) tx_tt_layReturnRound_0 11 rfl
theorem d_tt_layReturnRound_20 : decode prog_6_method_15_code 20 = .ok (.aload_n 0, 1) := zD (q := (20, .aload_n 0, 1)) tx_tt_layReturnRound_0 12 rfl
theorem d_tt_layReturnRound_21 : decode prog_6_method_15_code 21 = .ok (.iload_n 1, 1) := zD (q := (21, .iload_n 1, 1)) tx_tt_layReturnRound_0 13 rfl
theorem d_tt_layReturnRound_22 : decode prog_6_method_15_code 22 = .ok (.aload_n 0, 1) := zD (q := (22, .aload_n 0, 1)) tx_tt_layReturnRound_0 14 rfl
theorem d_tt_layReturnRound_23 : decode prog_6_method_15_code 23 = .ok (.iload_n 2, 1) := zD (q := (23, .iload_n 2, 1)) tx_tt_layReturnRound_0 15 rfl
theorem d_tt_layReturnRound_24 : decode prog_6_method_15_code 24 = .ok (.iload_n 3, 1) := zD (q := (24, .iload_n 3, 1)) tx_tt_layReturnRound_0 16 rfl
theorem d_tt_layReturnRound_25 : decode prog_6_method_15_code 25 = .ok (.invokevirtual 67, 3) := zD (q := (25, .invokevirtual 67, 3)) tx_tt_layReturnRound_0 17 rfl
theorem d_tt_layReturnRound_28 : decode prog_6_method_15_code 28 = .ok (.iload_n 3, 1) := zD (q := (28, .iload_n 3, 1)) tx_tt_layReturnRound_0 18 rfl
theorem d_tt_layReturnRound_29 : decode prog_6_method_15_code 29 = .ok (.invokevirtual 60, 3) := zD (q := (29, .invokevirtual 60, 3)) tx_tt_layReturnRound_0 19 rfl
theorem d_tt_layReturnRound_32 : decode prog_6_method_15_code 32 = .ok (.iinc 3 1, 3) := zD (q := (32, .iinc 3 1, 3)) tx_tt_layReturnRound_0 20 rfl
theorem d_tt_layReturnRound_35 : decode prog_6_method_15_code 35 = .ok (.goto (-33), 3) := zD (q := (35, .goto (-33), 3)) tx_tt_layReturnRound_0 21 rfl
theorem d_tt_layReturnRound_38 : decode prog_6_method_15_code 38 = .ok (.return_, 1) := zD (q := (38, .return_, 1)) tx_tt_layReturnRound_0 22 rfl
def T_tt_venueAt_0 : List (Nat × Instr × Nat) := [(0, .aload_n 0, 1), (1, .getfield 19, 3), (4, .iload_n 1, 1), (5, .aload_n 0, 1), (6, .getfield 9, 3), (9, .imul, 1), (10, .iload_n 2, 1), (11, .iadd, 1), (12, .iaload, 1), (13, .ireturn, 1)]
theorem tx_tt_venueAt_0 : zdec prog_6_method_8_code T_tt_venueAt_0 = true := by decide +kernel
theorem d_tt_venueAt_0 : decode prog_6_method_8_code 0 = .ok (.aload_n 0, 1) := zD (q := (0, .aload_n 0, 1)) tx_tt_venueAt_0 0 rfl
theorem d_tt_venueAt_1 : decode prog_6_method_8_code 1 = .ok (.getfield 19, 3) := zD (q := (1, .getfield 19, 3)) tx_tt_venueAt_0 1 rfl
theorem d_tt_venueAt_4 : decode prog_6_method_8_code 4 = .ok (.iload_n 1, 1) := zD (q := (4, .iload_n 1, 1)) tx_tt_venueAt_0 2 rfl
theorem d_tt_venueAt_5 : decode prog_6_method_8_code 5 = .ok (.aload_n 0, 1) := zD (q := (5, .aload_n 0, 1)) tx_tt_venueAt_0 3 rfl
theorem d_tt_venueAt_6 : decode prog_6_method_8_code 6 = .ok (.getfield 9, 3) := zD (q := (6, .getfield 9, 3)) tx_tt_venueAt_0 4 rfl
theorem d_tt_venueAt_9 : decode prog_6_method_8_code 9 = .ok (.imul, 1) := zD (q := (9, .imul, 1)) tx_tt_venueAt_0 5 rfl
theorem d_tt_venueAt_10 : decode prog_6_method_8_code 10 = .ok (.iload_n 2, 1) := zD (q := (10, .iload_n 2, 1)) tx_tt_venueAt_0 6 rfl
theorem d_tt_venueAt_11 : decode prog_6_method_8_code 11 = .ok (.iadd, 1) := zD (q := (11, .iadd, 1)) tx_tt_venueAt_0 7 rfl
theorem d_tt_venueAt_12 : decode prog_6_method_8_code 12 = .ok (.iaload, 1) := zD (q := (12, .iaload, 1)) tx_tt_venueAt_0 8 rfl
theorem d_tt_venueAt_13 : decode prog_6_method_8_code 13 = .ok (.ireturn, 1) := zD (q := (13, .ireturn, 1)) tx_tt_venueAt_0 9 rfl
def T_tt_opponentAt_0 : List (Nat × Instr × Nat) := [(0, .aload_n 0, 1), (1, .getfield 15, 3), (4, .iload_n 1, 1), (5, .aload_n 0, 1), (6, .getfield 9, 3), (9, .imul, 1), (10, .iload_n 2, 1), (11, .iadd, 1), (12, .iaload, 1), (13, .ireturn, 1)]
theorem tx_tt_opponentAt_0 : zdec prog_6_method_7_code T_tt_opponentAt_0 = true := by decide +kernel
theorem d_tt_opponentAt_0 : decode prog_6_method_7_code 0 = .ok (.aload_n 0, 1) := zD (q := (0, .aload_n 0, 1)) tx_tt_opponentAt_0 0 rfl
theorem d_tt_opponentAt_1 : decode prog_6_method_7_code 1 = .ok (.getfield 15, 3) := zD (q := (1, .getfield 15, 3)) tx_tt_opponentAt_0 1 rfl
theorem d_tt_opponentAt_4 : decode prog_6_method_7_code 4 = .ok (.iload_n 1, 1) := zD (q := (4, .iload_n 1, 1)) tx_tt_opponentAt_0 2 rfl
theorem d_tt_opponentAt_5 : decode prog_6_method_7_code 5 = .ok (.aload_n 0, 1) := zD (q := (5, .aload_n 0, 1)) tx_tt_opponentAt_0 3 rfl
theorem d_tt_opponentAt_6 : decode prog_6_method_7_code 6 = .ok (.getfield 9, 3) := zD (q := (6, .getfield 9, 3)) tx_tt_opponentAt_0 4 rfl
theorem d_tt_opponentAt_9 : decode prog_6_method_7_code 9 = .ok (.imul, 1) := zD (q := (9, .imul, 1)) tx_tt_opponentAt_0 5 rfl
theorem d_tt_opponentAt_10 : decode prog_6_method_7_code 10 = .ok (.iload_n 2, 1) := zD (q := (10, .iload_n 2, 1)) tx_tt_opponentAt_0 6 rfl
theorem d_tt_opponentAt_11 : decode prog_6_method_7_code 11 = .ok (.iadd, 1) := zD (q := (11, .iadd, 1)) tx_tt_opponentAt_0 7 rfl
theorem d_tt_opponentAt_12 : decode prog_6_method_7_code 12 = .ok (.iaload, 1) := zD (q := (12, .iaload, 1)) tx_tt_opponentAt_0 8 rfl
theorem d_tt_opponentAt_13 : decode prog_6_method_7_code 13 = .ok (.ireturn, 1) := zD (q := (13, .ireturn, 1)) tx_tt_opponentAt_0 9 rfl
def T_tt_roundCount_0 : List (Nat × Instr × Nat) := [(0, .aload_n 0, 1), (1, .getfield 25, 3), (4, .ireturn, 1)]
theorem tx_tt_roundCount_0 : zdec prog_6_method_4_code T_tt_roundCount_0 = true := by decide +kernel
theorem d_tt_roundCount_0 : decode prog_6_method_4_code 0 = .ok (.aload_n 0, 1) := zD (q := (0, .aload_n 0, 1)) tx_tt_roundCount_0 0 rfl
theorem d_tt_roundCount_1 : decode prog_6_method_4_code 1 = .ok (.getfield 25, 3) := zD (q := (1, .getfield 25, 3)) tx_tt_roundCount_0 1 rfl
theorem d_tt_roundCount_4 : decode prog_6_method_4_code 4 = .ok (.ireturn, 1) := zD (q := (4, .ireturn, 1)) tx_tt_roundCount_0 2 rfl
def T_tt_teamCount_0 : List (Nat × Instr × Nat) := [(0, .aload_n 0, 1), (1, .getfield 22, 3), (4, .ireturn, 1)]
theorem tx_tt_teamCount_0 : zdec prog_6_method_3_code T_tt_teamCount_0 = true := by decide +kernel
theorem d_tt_teamCount_0 : decode prog_6_method_3_code 0 = .ok (.aload_n 0, 1) := zD (q := (0, .aload_n 0, 1)) tx_tt_teamCount_0 0 rfl
theorem d_tt_teamCount_1 : decode prog_6_method_3_code 1 = .ok (.getfield 22, 3) := zD (q := (1, .getfield 22, 3)) tx_tt_teamCount_0 1 rfl
theorem d_tt_teamCount_4 : decode prog_6_method_3_code 4 = .ok (.ireturn, 1) := zD (q := (4, .ireturn, 1)) tx_tt_teamCount_0 2 rfl
def T_tt_hasRound_0 : List (Nat × Instr × Nat) := [(0, .iload_n 1, 1), (1, .ifCond .lt 15, 3), (4, .iload_n 1, 1), (5, .aload_n 0, 1), (6, .getfield 25, 3), (9, .if_icmp .ge 7, 3), (12, .iconst 1, 1), (13, .goto 4, 3), (16, .iconst 0, 1), (17, .ireturn, 1)]
theorem tx_tt_hasRound_0 : zdec prog_6_method_6_code T_tt_hasRound_0 = true := by decide +kernel
theorem d_tt_hasRound_0 : decode prog_6_method_6_code 0 = .ok (.iload_n 1, 1) := zD (q := (0, .iload_n 1, 1)) tx_tt_hasRound_0 0 rfl
theorem d_tt_hasRound_1 : decode prog_6_method_6_code 1 = .ok (.ifCond .lt 15, 3) := zD (q := (1, .ifCond .lt 15, 3)) tx_tt_hasRound_0 1 rfl
theorem d_tt_hasRound_4 : decode prog_6_method_6_code 4 = .ok (.iload_n 1, 1) := zD (q := (4, .iload_n 1, 1)) tx_tt_hasRound_0 2 rfl
theorem d_tt_hasRound_5 : decode prog_6_method_6_code 5 = .ok (.aload_n 0, 1) := zD (q := (5, .aload_n 0, 1)) tx_tt_hasRound_0 3 rfl
theorem d_tt_hasRound_6 : decode prog_6_method_6_code 6 = .ok (.getfield 25, 3) := zD (q := (6, .getfield 25, 3)) tx_tt_hasRound_0 4 rfl
theorem d_tt_hasRound_9 : decode prog_6_method_6_code 9 = .ok (.if_icmp .ge 7, 3) := zD (q := (9, .if_icmp .ge 7, 3)) tx_tt_hasRound_0 5 rfl
theorem d_tt_hasRound_12 : decode prog_6_method_6_code 12 = .ok (.iconst 1, 1) := zD (q := (12, .iconst 1, 1)) tx_tt_hasRound_0 6 rfl
theorem d_tt_hasRound_13 : decode prog_6_method_6_code 13 = .ok (.goto 4, 3) := zD (q := (13, .goto 4, 3)) tx_tt_hasRound_0 7 rfl
theorem d_tt_hasRound_16 : decode prog_6_method_6_code 16 = .ok (.iconst 0, 1) := zD (q := (16, .iconst 0, 1)) tx_tt_hasRound_0 8 rfl
theorem d_tt_hasRound_17 : decode prog_6_method_6_code 17 = .ok (.ireturn, 1) := zD (q := (17, .ireturn, 1)) tx_tt_hasRound_0 9 rfl
def T_tt_awayRun_0 : List (Nat × Instr × Nat) := [(0, .iload_n 1, 1), (1, .istore_n 3, 1), (2, .iload_n 3, 1), (3, .ifCond .lt 18, 3), (6, .aload_n 0, 1), (7, .iload_n 3, 1), (8, .iload_n 2, 1), (9, .invokevirtual 64, 3), (12, .ifCond .ne 9, 3), (15, .iinc 3 (-1), 3), (18, .goto (-16), 3), (21, .iload_n 1, 1), (22, .iload_n 3, 1), (23, .isub, 1), (24, .ireturn, 1)]
theorem tx_tt_awayRun_0 : zdec prog_6_method_21_code T_tt_awayRun_0 = true := by decide +kernel
theorem d_tt_awayRun_0 : decode prog_6_method_21_code 0 = .ok (.iload_n 1, 1) := zD (q := (0, .iload_n 1, 1)) tx_tt_awayRun_0 0 rfl
theorem d_tt_awayRun_1 : decode prog_6_method_21_code 1 = .ok (.istore_n 3, 1) := zD (q := (1, .istore_n 3, 1)) tx_tt_awayRun_0 1 rfl
theorem d_tt_awayRun_2 : decode prog_6_method_21_code 2 = .ok (.iload_n 3, 1) := zD (q := (2, .iload_n 3, 1)) tx_tt_awayRun_0 2 rfl
theorem d_tt_awayRun_3 : decode prog_6_method_21_code 3 = .ok (.ifCond .lt 18, 3) := zD (q := (3, .ifCond .lt 18, 3)) tx_tt_awayRun_0 3 rfl
theorem d_tt_awayRun_6 : decode prog_6_method_21_code 6 = .ok (.aload_n 0, 1) := zD (q := (6, .aload_n 0, 1)) tx_tt_awayRun_0 4 rfl
theorem d_tt_awayRun_7 : decode prog_6_method_21_code 7 = .ok (.iload_n 3, 1) := zD (q := (7, .iload_n 3, 1)) tx_tt_awayRun_0 5 rfl
theorem d_tt_awayRun_8 : decode prog_6_method_21_code 8 = .ok (.iload_n 2, 1) := zD (q := (8, .iload_n 2, 1)) tx_tt_awayRun_0 6 rfl
theorem d_tt_awayRun_9 : decode prog_6_method_21_code 9 = .ok (.invokevirtual 64, 3) := zD (q := (9, .invokevirtual 64, 3)) tx_tt_awayRun_0 7 rfl
theorem d_tt_awayRun_12 : decode prog_6_method_21_code 12 = .ok (.ifCond .ne 9, 3) := zD (q := (12, .ifCond .ne 9, 3)) tx_tt_awayRun_0 8 rfl
theorem d_tt_awayRun_15 : decode prog_6_method_21_code 15 = .ok (.iinc 3 (-1), 3) := zD (q := (15, .iinc 3 (-1), 3)) tx_tt_awayRun_0 9 rfl
theorem d_tt_awayRun_18 : decode prog_6_method_21_code 18 = .ok (.goto (-16), 3) := zD (q := (18, .goto (-16), 3)) tx_tt_awayRun_0 10 rfl
theorem d_tt_awayRun_21 : decode prog_6_method_21_code 21 = .ok (.iload_n 1, 1) := zD (q := (21, .iload_n 1, 1)) tx_tt_awayRun_0 11 rfl
theorem d_tt_awayRun_22 : decode prog_6_method_21_code 22 = .ok (.iload_n 3, 1) := zD (q := (22, .iload_n 3, 1)) tx_tt_awayRun_0 12 rfl
theorem d_tt_awayRun_23 : decode prog_6_method_21_code 23 = .ok (.isub, 1) := zD (q := (23, .isub, 1)) tx_tt_awayRun_0 13 rfl
theorem d_tt_awayRun_24 : decode prog_6_method_21_code 24 = .ok (.ireturn, 1) := zD (q := (24, .ireturn, 1)) tx_tt_awayRun_0 14 rfl
def T_tt_hasTeam_0 : List (Nat × Instr × Nat) := [(0, .iload_n 1, 1), (1, .ifCond .lt 15, 3), (4, .iload_n 1, 1), (5, .aload_n 0, 1), (6, .getfield 22, 3), (9, .if_icmp .ge 7, 3), (12, .iconst 1, 1), (13, .goto 4, 3), (16, .iconst 0, 1), (17, .ireturn, 1)]
theorem tx_tt_hasTeam_0 : zdec prog_6_method_5_code T_tt_hasTeam_0 = true := by decide +kernel
theorem d_tt_hasTeam_0 : decode prog_6_method_5_code 0 = .ok (.iload_n 1, 1) := zD (q := (0, .iload_n 1, 1)) tx_tt_hasTeam_0 0 rfl
theorem d_tt_hasTeam_1 : decode prog_6_method_5_code 1 = .ok (.ifCond .lt 15, 3) := zD (q := (1, .ifCond .lt 15, 3)) tx_tt_hasTeam_0 1 rfl
theorem d_tt_hasTeam_4 : decode prog_6_method_5_code 4 = .ok (.iload_n 1, 1) := zD (q := (4, .iload_n 1, 1)) tx_tt_hasTeam_0 2 rfl
theorem d_tt_hasTeam_5 : decode prog_6_method_5_code 5 = .ok (.aload_n 0, 1) := zD (q := (5, .aload_n 0, 1)) tx_tt_hasTeam_0 3 rfl
theorem d_tt_hasTeam_6 : decode prog_6_method_5_code 6 = .ok (.getfield 22, 3) := zD (q := (6, .getfield 22, 3)) tx_tt_hasTeam_0 4 rfl
theorem d_tt_hasTeam_9 : decode prog_6_method_5_code 9 = .ok (.if_icmp .ge 7, 3) := zD (q := (9, .if_icmp .ge 7, 3)) tx_tt_hasTeam_0 5 rfl
theorem d_tt_hasTeam_12 : decode prog_6_method_5_code 12 = .ok (.iconst 1, 1) := zD (q := (12, .iconst 1, 1)) tx_tt_hasTeam_0 6 rfl
theorem d_tt_hasTeam_13 : decode prog_6_method_5_code 13 = .ok (.goto 4, 3) := zD (q := (13, .goto 4, 3)) tx_tt_hasTeam_0 7 rfl
theorem d_tt_hasTeam_16 : decode prog_6_method_5_code 16 = .ok (.iconst 0, 1) := zD (q := (16, .iconst 0, 1)) tx_tt_hasTeam_0 8 rfl
theorem d_tt_hasTeam_17 : decode prog_6_method_5_code 17 = .ok (.ireturn, 1) := zD (q := (17, .ireturn, 1)) tx_tt_hasTeam_0 9 rfl
def T_tt_takeGame_0 : List (Nat × Instr × Nat) := [(0, .aload_n 0, 1), (1, .iload_n 1, 1), (2, .iload_n 2, 1), (3, .iconst (-1), 1), (4, .iconst (-1), 1), (5, .invokevirtual 34, 3), (8, .aload_n 0, 1), (9, .iload_n 1, 1), (10, .iload_n 3, 1), (11, .iconst (-1), 1), (12, .iconst (-1), 1), (13, .invokevirtual 34, 3), (16, .return_, 1)]
theorem tx_tt_takeGame_0 : zdec prog_6_method_10_code T_tt_takeGame_0 = true := by decide +kernel
theorem d_tt_takeGame_0 : decode prog_6_method_10_code 0 = .ok (.aload_n 0, 1) := zD (q := (0, .aload_n 0, 1)) tx_tt_takeGame_0 0 rfl
theorem d_tt_takeGame_1 : decode prog_6_method_10_code 1 = .ok (.iload_n 1, 1) := zD (q := (1, .iload_n 1, 1)) tx_tt_takeGame_0 1 rfl
theorem d_tt_takeGame_2 : decode prog_6_method_10_code 2 = .ok (.iload_n 2, 1) := zD (q := (2, .iload_n 2, 1)) tx_tt_takeGame_0 2 rfl
theorem d_tt_takeGame_3 : decode prog_6_method_10_code 3 = .ok (.iconst (-1), 1) := zD (q := (3, .iconst (-1), 1)) tx_tt_takeGame_0 3 rfl
theorem d_tt_takeGame_4 : decode prog_6_method_10_code 4 = .ok (.iconst (-1), 1) := zD (q := (4, .iconst (-1), 1)) tx_tt_takeGame_0 4 rfl
theorem d_tt_takeGame_5 : decode prog_6_method_10_code 5 = .ok (.invokevirtual 34, 3) := zD (q := (5, .invokevirtual 34, 3)) tx_tt_takeGame_0 5 rfl
theorem d_tt_takeGame_8 : decode prog_6_method_10_code 8 = .ok (.aload_n 0, 1) := zD (q := (8, .aload_n 0, 1)) tx_tt_takeGame_0 6 rfl
theorem d_tt_takeGame_9 : decode prog_6_method_10_code 9 = .ok (.iload_n 1, 1) := zD (q := (9, .iload_n 1, 1)) tx_tt_takeGame_0 7 rfl
theorem d_tt_takeGame_10 : decode prog_6_method_10_code 10 = .ok (.iload_n 3, 1) := zD (q := (10, .iload_n 3, 1)) tx_tt_takeGame_0 8 rfl
theorem d_tt_takeGame_11 : decode prog_6_method_10_code 11 = .ok (.iconst (-1), 1) := zD (q := (11, .iconst (-1), 1)) tx_tt_takeGame_0 9 rfl
theorem d_tt_takeGame_12 : decode prog_6_method_10_code 12 = .ok (.iconst (-1), 1) := zD (q := (12, .iconst (-1), 1)) tx_tt_takeGame_0 10 rfl
theorem d_tt_takeGame_13 : decode prog_6_method_10_code 13 = .ok (.invokevirtual 34, 3) := zD (q := (13, .invokevirtual 34, 3)) tx_tt_takeGame_0 11 rfl
theorem d_tt_takeGame_16 : decode prog_6_method_10_code 16 = .ok (.return_, 1) := zD (q := (16, .return_, 1)) tx_tt_takeGame_0 12 rfl
def T_tt_takeOver_0 : List (Nat × Instr × Nat) := [(0, .aload_n 0, 1), (1, .aload_n 1, 1), (2, .getfield 22, 3), (5, .aload_n 1, 1), (6, .getfield 25, 3), (9, .invokevirtual 42, 3), (12, .iconst 0, 1), (13, .istore_n 2, 1), (14, .iload_n 2, 1), (15, .aload_n 0, 1), (16, .getfield 25, 3), (19, .if_icmp .ge 43, 3), (22, .iconst 0, 1), (23, .istore_n 3, 1), (24, .iload_n 3, 1), (25, .aload_n 0, 1), (26, .getfield 22, 3), (29, .if_icmp .ge 27, 3), (32, .aload_n 0, 1), (33, .iload_n 2, 1), (34, .iload_n 3, 1), (35, .aload_n 1, 1), (36, .iload_n 2, 1), (37, .iload_n 3, 1), (38, .invokevirtual 67, 3), (41, .aload_n 1, 1), (42, .iload_n 2, 1), (43, .iload_n 3, 1), (44, .invokevirtual 64, 3), (47, .invokevirtual 34, 3), (50, .iinc 3 1, 3), (53, .goto (-29), 3), (56, .iinc 2 1, 3), (59, .goto (-45), 3), (62, .return_, 1)]
theorem tx_tt_takeOver_0 : zdec prog_6_method_17_code T_tt_takeOver_0 = true := by decide +kernel
theorem d_tt_takeOver_0 : decode prog_6_method_17_code 0 = .ok (.aload_n 0, 1) := zD (q := (0, .aload_n 0, 1)) tx_tt_takeOver_0 0 rfl
theorem d_tt_takeOver_1 : decode prog_6_method_17_code 1 = .ok (.aload_n 1, 1) := zD (q := (1, .aload_n 1, 1)) tx_tt_takeOver_0 1 rfl
theorem d_tt_takeOver_2 : decode prog_6_method_17_code 2 = .ok (.getfield 22, 3) := zD (q := (2, .getfield 22, 3)) tx_tt_takeOver_0 2 rfl
theorem d_tt_takeOver_5 : decode prog_6_method_17_code 5 = .ok (.aload_n 1, 1) := zD (q := (5, .aload_n 1, 1)) tx_tt_takeOver_0 3 rfl
theorem d_tt_takeOver_6 : decode prog_6_method_17_code 6 = .ok (.getfield 25, 3) := zD (q := (6, .getfield 25, 3)) tx_tt_takeOver_0 4 rfl
theorem d_tt_takeOver_9 : decode prog_6_method_17_code 9 = .ok (.invokevirtual 42, 3) := zD (q := (9, .invokevirtual 42, 3)) tx_tt_takeOver_0 5 rfl
theorem d_tt_takeOver_12 : decode prog_6_method_17_code 12 = .ok (.iconst 0, 1) := zD (q := (12, .iconst 0, 1)) tx_tt_takeOver_0 6 rfl
theorem d_tt_takeOver_13 : decode prog_6_method_17_code 13 = .ok (.istore_n 2, 1) := zD (q := (13, .istore_n 2, 1)) tx_tt_takeOver_0 7 rfl
theorem d_tt_takeOver_14 : decode prog_6_method_17_code 14 = .ok (.iload_n 2, 1) := zD (q := (14, .iload_n 2, 1)) tx_tt_takeOver_0 8 rfl
theorem d_tt_takeOver_15 : decode prog_6_method_17_code 15 = .ok (.aload_n 0, 1) := zD (q := (15, .aload_n 0, 1)) tx_tt_takeOver_0 9 rfl
theorem d_tt_takeOver_16 : decode prog_6_method_17_code 16 = .ok (.getfield 25, 3) := zD (q := (16, .getfield 25, 3)) tx_tt_takeOver_0 10 rfl
theorem d_tt_takeOver_19 : decode prog_6_method_17_code 19 = .ok (.if_icmp .ge 43, 3) := zD (q := (19, .if_icmp .ge 43, 3)) tx_tt_takeOver_0 11 rfl
theorem d_tt_takeOver_22 : decode prog_6_method_17_code 22 = .ok (.iconst 0, 1) := zD (q := (22, .iconst 0, 1)) tx_tt_takeOver_0 12 rfl
theorem d_tt_takeOver_23 : decode prog_6_method_17_code 23 = .ok (.istore_n 3, 1) := zD (q := (23, .istore_n 3, 1)) tx_tt_takeOver_0 13 rfl
theorem d_tt_takeOver_24 : decode prog_6_method_17_code 24 = .ok (.iload_n 3, 1) := zD (q := (24, .iload_n 3, 1)) tx_tt_takeOver_0 14 rfl
theorem d_tt_takeOver_25 : decode prog_6_method_17_code 25 = .ok (.aload_n 0, 1) := zD (q := (25, .aload_n 0, 1)) tx_tt_takeOver_0 15 rfl
theorem d_tt_takeOver_26 : decode prog_6_method_17_code 26 = .ok (.getfield 22, 3) := zD (q := (26, .getfield 22, 3)) tx_tt_takeOver_0 16 rfl
theorem d_tt_takeOver_29 : decode prog_6_method_17_code 29 = .ok (.if_icmp .ge 27, 3) := zD (q := (29, .if_icmp .ge 27, 3)) tx_tt_takeOver_0 17 rfl
theorem d_tt_takeOver_32 : decode prog_6_method_17_code 32 = .ok (.aload_n 0, 1) := zD (q := (32, .aload_n 0, 1)) tx_tt_takeOver_0 18 rfl
theorem d_tt_takeOver_33 : decode prog_6_method_17_code 33 = .ok (.iload_n 2, 1) := zD (q := (33, .iload_n 2, 1)) tx_tt_takeOver_0 19 rfl
theorem d_tt_takeOver_34 : decode prog_6_method_17_code 34 = .ok (.iload_n 3, 1) := zD (q := (34, .iload_n 3, 1)) tx_tt_takeOver_0 20 rfl
theorem d_tt_takeOver_35 : decode prog_6_method_17_code 35 = .ok (.aload_n 1, 1) := zD (q := (35, .aload_n 1, 1)) tx_tt_takeOver_0 21 rfl
theorem d_tt_takeOver_36 : decode prog_6_method_17_code 36 = .ok (.iload_n 2, 1) := zD (q := (36, .iload_n 2, 1)) tx_tt_takeOver_0 22 rfl
theorem d_tt_takeOver_37 : decode prog_6_method_17_code 37 = .ok (.iload_n 3, 1) := zD (q := (37, .iload_n 3, 1)) tx_tt_takeOver_0 23 rfl
theorem d_tt_takeOver_38 : decode prog_6_method_17_code 38 = .ok (.invokevirtual 67, 3) := zD (q := (38, .invokevirtual 67, 3)) tx_tt_takeOver_0 24 rfl
theorem d_tt_takeOver_41 : decode prog_6_method_17_code 41 = .ok (.aload_n 1, 1) := zD (q := (41, .aload_n 1, 1)) tx_tt_takeOver_0 25 rfl
theorem d_tt_takeOver_42 : decode prog_6_method_17_code 42 = .ok (.iload_n 2, 1) := zD (q := (42, .iload_n 2, 1)) tx_tt_takeOver_0 26 rfl
theorem d_tt_takeOver_43 : decode prog_6_method_17_code 43 = .ok (.iload_n 3, 1) := zD (q := (43, .iload_n 3, 1)) tx_tt_takeOver_0 27 rfl
theorem d_tt_takeOver_44 : decode prog_6_method_17_code 44 = .ok (.invokevirtual 64, 3) := zD (q := (44, .invokevirtual 64, 3)) tx_tt_takeOver_0 28 rfl
theorem d_tt_takeOver_47 : decode prog_6_method_17_code 47 = .ok (.invokevirtual 34, 3) := zD (q := (47, .invokevirtual 34, 3)) tx_tt_takeOver_0 29 rfl
theorem d_tt_takeOver_50 : decode prog_6_method_17_code 50 = .ok (.iinc 3 1, 3) := zD (q := (50, .iinc 3 1, 3)) tx_tt_takeOver_0 30 rfl
theorem d_tt_takeOver_53 : decode prog_6_method_17_code 53 = .ok (.goto (-29), 3) := zD (q := (53, .goto (-29), 3)) tx_tt_takeOver_0 31 rfl
theorem d_tt_takeOver_56 : decode prog_6_method_17_code 56 = .ok (.iinc 2 1, 3) := zD (q := (56, .iinc 2 1, 3)) tx_tt_takeOver_0 32 rfl
theorem d_tt_takeOver_59 : decode prog_6_method_17_code 59 = .ok (.goto (-45), 3) := zD (q := (59, .goto (-45), 3)) tx_tt_takeOver_0 33 rfl
theorem d_tt_takeOver_62 : decode prog_6_method_17_code 62 = .ok (.return_, 1) := zD (q := (62, .return_, 1)) tx_tt_takeOver_0 34 rfl
def T_tt_breaksOfAll_0 : List (Nat × Instr × Nat) := [(0, .iconst 0, 1), (1, .istore_n 1, 1), (2, .iconst 0, 1), (3, .istore_n 2, 1), (4, .iload_n 2, 1), (5, .aload_n 0, 1), (6, .getfield 22, 3), (9, .if_icmp .ge 17, 3), (12, .iload_n 1, 1), (13, .aload_n 0, 1), (14, .iload_n 2, 1), (15, .invokevirtual 70, 3), (18, .iadd, 1), (19, .istore_n 1, 1), (20, .iinc 2 1, 3), (23, .goto (-19), 3), (26, .iload_n 1, 1), (27, .ireturn, 1)]
theorem tx_tt_breaksOfAll_0 : zdec prog_6_method_20_code T_tt_breaksOfAll_0 = true := by decide +kernel
theorem d_tt_breaksOfAll_0 : decode prog_6_method_20_code 0 = .ok (.iconst 0, 1) := zD (q := (0, .iconst 0, 1)) tx_tt_breaksOfAll_0 0 rfl
theorem d_tt_breaksOfAll_1 : decode prog_6_method_20_code 1 = .ok (.istore_n 1, 1) := zD (q := (1, .istore_n 1, 1)) tx_tt_breaksOfAll_0 1 rfl
theorem d_tt_breaksOfAll_2 : decode prog_6_method_20_code 2 = .ok (.iconst 0, 1) := zD (q := (2, .iconst 0, 1)) tx_tt_breaksOfAll_0 2 rfl
theorem d_tt_breaksOfAll_3 : decode prog_6_method_20_code 3 = .ok (.istore_n 2, 1) := zD (q := (3, .istore_n 2, 1)) tx_tt_breaksOfAll_0 3 rfl
theorem d_tt_breaksOfAll_4 : decode prog_6_method_20_code 4 = .ok (.iload_n 2, 1) := zD (q := (4, .iload_n 2, 1)) tx_tt_breaksOfAll_0 4 rfl
theorem d_tt_breaksOfAll_5 : decode prog_6_method_20_code 5 = .ok (.aload_n 0, 1) := zD (q := (5, .aload_n 0, 1)) tx_tt_breaksOfAll_0 5 rfl
theorem d_tt_breaksOfAll_6 : decode prog_6_method_20_code 6 = .ok (.getfield 22, 3) := zD (q := (6, .getfield 22, 3)) tx_tt_breaksOfAll_0 6 rfl
theorem d_tt_breaksOfAll_9 : decode prog_6_method_20_code 9 = .ok (.if_icmp .ge 17, 3) := zD (q := (9, .if_icmp .ge 17, 3)) tx_tt_breaksOfAll_0 7 rfl
theorem d_tt_breaksOfAll_12 : decode prog_6_method_20_code 12 = .ok (.iload_n 1, 1) := zD (q := (12, .iload_n 1, 1)) tx_tt_breaksOfAll_0 8 rfl
theorem d_tt_breaksOfAll_13 : decode prog_6_method_20_code 13 = .ok (.aload_n 0, 1) := zD (q := (13, .aload_n 0, 1)) tx_tt_breaksOfAll_0 9 rfl
theorem d_tt_breaksOfAll_14 : decode prog_6_method_20_code 14 = .ok (.iload_n 2, 1) := zD (q := (14, .iload_n 2, 1)) tx_tt_breaksOfAll_0 10 rfl
theorem d_tt_breaksOfAll_15 : decode prog_6_method_20_code 15 = .ok (.invokevirtual 70, 3) := zD (q := (15, .invokevirtual 70, 3)) tx_tt_breaksOfAll_0 11 rfl
theorem d_tt_breaksOfAll_18 : decode prog_6_method_20_code 18 = .ok (.iadd, 1) := zD (q := (18, .iadd, 1)) tx_tt_breaksOfAll_0 12 rfl
theorem d_tt_breaksOfAll_19 : decode prog_6_method_20_code 19 = .ok (.istore_n 1, 1) := zD (q := (19, .istore_n 1, 1)) tx_tt_breaksOfAll_0 13 rfl
theorem d_tt_breaksOfAll_20 : decode prog_6_method_20_code 20 = .ok (.iinc 2 1, 3) := zD (q := (20, .iinc 2 1, 3)) tx_tt_breaksOfAll_0 14 rfl
theorem d_tt_breaksOfAll_23 : decode prog_6_method_20_code 23 = .ok (.goto (-19), 3) := zD (q := (23, .goto (-19), 3)) tx_tt_breaksOfAll_0 15 rfl
theorem d_tt_breaksOfAll_26 : decode prog_6_method_20_code 26 = .ok (.iload_n 1, 1) := zD (q := (26, .iload_n 1, 1)) tx_tt_breaksOfAll_0 16 rfl
theorem d_tt_breaksOfAll_27 : decode prog_6_method_20_code 27 = .ok (.ireturn, 1) := zD (q := (27, .ireturn, 1)) tx_tt_breaksOfAll_0 17 rfl
def T_tt_breaksOf_0 : List (Nat × Instr × Nat) := [(0, .iconst 0, 1), (1, .istore_n 2, 1), (2, .iconst 1, 1), (3, .istore_n 3, 1), (4, .iload_n 3, 1), (5, .aload_n 0, 1), (6, .getfield 25, 3), (9, .if_icmp .ge 39, 3), (12, .aload_n 0, 1), (13, .iload_n 3, 1), (14, .iload_n 1, 1), (15, .invokevirtual 64, 3), (18, .istore 4, 2), (20, .iload 4, 2), (22, .iconst (-1), 1), (23, .if_icmp .eq 19, 3), (26, .iload 4, 2), (28, .aload_n 0, 1), (29, .iload_n 3, 1), (30, .iconst 1, 1), (31, .isub, 1), (32, .iload_n 1, 1), (33, .invokevirtual 64, 3), (36, .if_icmp .ne 6, 3), (39, .iinc 2 1, 3), (42, .iinc 3 1, 3), (45, .goto (-41), 3), (48, .iload_n 2, 1), (49, .ireturn, 1)]
theorem tx_tt_breaksOf_0 : zdec prog_6_method_19_code T_tt_breaksOf_0 = true := by decide +kernel
theorem d_tt_breaksOf_0 : decode prog_6_method_19_code 0 = .ok (.iconst 0, 1) := zD (q := (0, .iconst 0, 1)) tx_tt_breaksOf_0 0 rfl
theorem d_tt_breaksOf_1 : decode prog_6_method_19_code 1 = .ok (.istore_n 2, 1) := zD (q := (1, .istore_n 2, 1)) tx_tt_breaksOf_0 1 rfl
theorem d_tt_breaksOf_2 : decode prog_6_method_19_code 2 = .ok (.iconst 1, 1) := zD (q := (2, .iconst 1, 1)) tx_tt_breaksOf_0 2 rfl
theorem d_tt_breaksOf_3 : decode prog_6_method_19_code 3 = .ok (.istore_n 3, 1) := zD (q := (3, .istore_n 3, 1)) tx_tt_breaksOf_0 3 rfl
theorem d_tt_breaksOf_4 : decode prog_6_method_19_code 4 = .ok (.iload_n 3, 1) := zD (q := (4, .iload_n 3, 1)) tx_tt_breaksOf_0 4 rfl
theorem d_tt_breaksOf_5 : decode prog_6_method_19_code 5 = .ok (.aload_n 0, 1) := zD (q := (5, .aload_n 0, 1)) tx_tt_breaksOf_0 5 rfl
theorem d_tt_breaksOf_6 : decode prog_6_method_19_code 6 = .ok (.getfield 25, 3) := zD (q := (6, .getfield 25, 3)) tx_tt_breaksOf_0 6 rfl
theorem d_tt_breaksOf_9 : decode prog_6_method_19_code 9 = .ok (.if_icmp .ge 39, 3) := zD (q := (9, .if_icmp .ge 39, 3)) tx_tt_breaksOf_0 7 rfl
theorem d_tt_breaksOf_12 : decode prog_6_method_19_code 12 = .ok (.aload_n 0, 1) := zD (q := (12, .aload_n 0, 1)) tx_tt_breaksOf_0 8 rfl
theorem d_tt_breaksOf_13 : decode prog_6_method_19_code 13 = .ok (.iload_n 3, 1) := zD (q := (13, .iload_n 3, 1)) tx_tt_breaksOf_0 9 rfl
theorem d_tt_breaksOf_14 : decode prog_6_method_19_code 14 = .ok (.iload_n 1, 1) := zD (q := (14, .iload_n 1, 1)) tx_tt_breaksOf_0 10 rfl
theorem d_tt_breaksOf_15 : decode prog_6_method_19_code 15 = .ok (.invokevirtual 64, 3) := zD (q := (15, .invokevirtual 64, 3)) tx_tt_breaksOf_0 11 rfl
theorem d_tt_breaksOf_18 : decode prog_6_method_19_code 18 = .ok (.istore 4, 2) := zD (q := (18, .istore 4, 2)) tx_tt_breaksOf_0 12 rfl
theorem d_tt_breaksOf_20 : decode prog_6_method_19_code 20 = .ok (.iload 4, 2) := zD (q := (20, .iload 4, 2)) tx_tt_breaksOf_0 13 rfl
theorem d_tt_breaksOf_22 : decode prog_6_method_19_code 22 = .ok (.iconst (-1), 1) := zD (q := (22, .iconst (-1), 1)) tx_tt_breaksOf_0 14 rfl
theorem d_tt_breaksOf_23 : decode prog_6_method_19_code 23 = .ok (.if_icmp .eq 19, 3) := zD (q := (23, .if_icmp .eq 19, 3)) tx_tt_breaksOf_0 15 rfl
theorem d_tt_breaksOf_26 : decode prog_6_method_19_code 26 = .ok (.iload 4, 2) := zD (q := (26, .iload 4, 2)) tx_tt_breaksOf_0 16 rfl
theorem d_tt_breaksOf_28 : decode prog_6_method_19_code 28 = .ok (.aload_n 0, 1) := zD (q := (28, .aload_n 0, 1)) tx_tt_breaksOf_0 17 rfl
theorem d_tt_breaksOf_29 : decode prog_6_method_19_code 29 = .ok (.iload_n 3, 1) := zD (q := (29, .iload_n 3, 1)) tx_tt_breaksOf_0 18 rfl
theorem d_tt_breaksOf_30 : decode prog_6_method_19_code 30 = .ok (.iconst 1, 1) := zD (q := (30, .iconst 1, 1)) tx_tt_breaksOf_0 19 rfl
theorem d_tt_breaksOf_31 : decode prog_6_method_19_code 31 = .ok (.isub, 1) := zD (q := (31, .isub, 1)) tx_tt_breaksOf_0 20 rfl
theorem d_tt_breaksOf_32 : decode prog_6_method_19_code 32 = .ok (.iload_n 1, 1) := zD (q := (32, .iload_n 1, 1)) tx_tt_breaksOf_0 21 rfl
theorem d_tt_breaksOf_33 : decode prog_6_method_19_code 33 = .ok (.invokevirtual 64, 3) := zD (q := (33, .invokevirtual 64, 3)) tx_tt_breaksOf_0 22 rfl
theorem d_tt_breaksOf_36 : decode prog_6_method_19_code 36 = .ok (.if_icmp .ne 6, 3) := zD (q := (36, .if_icmp .ne 6, 3)) tx_tt_breaksOf_0 23 rfl
theorem d_tt_breaksOf_39 : decode prog_6_method_19_code 39 = .ok (.iinc 2 1, 3) := zD (q := (39, .iinc 2 1, 3)) tx_tt_breaksOf_0 24 rfl
theorem d_tt_breaksOf_42 : decode prog_6_method_19_code 42 = .ok (.iinc 3 1, 3) := zD (q := (42, .iinc 3 1, 3)) tx_tt_breaksOf_0 25 rfl
theorem d_tt_breaksOf_45 : decode prog_6_method_19_code 45 = .ok (.goto (-41), 3) := zD (q := (45, .goto (-41), 3)) tx_tt_breaksOf_0 26 rfl
theorem d_tt_breaksOf_48 : decode prog_6_method_19_code 48 = .ok (.iload_n 2, 1) := zD (q := (48, .iload_n 2, 1)) tx_tt_breaksOf_0 27 rfl
theorem d_tt_breaksOf_49 : decode prog_6_method_19_code 49 = .ok (.ireturn, 1) := zD (q := (49, .ireturn, 1)) tx_tt_breaksOf_0 28 rfl
def T_tt_exchange_0 : List (Nat × Instr × Nat) := [(0, .iconst 0, 1), (1, .istore_n 3, 1), (2, .iload_n 3, 1), (3, .aload_n 0, 1), (4, .getfield 22, 3), (7, .if_icmp .ge 53, 3), (10, .aload_n 0, 1), (11, .iload_n 1, 1), (12, .iload_n 3, 1), (13, .invokevirtual 67, 3), (16, .istore 4, 2), (18, .aload_n 0, 1), (19, .iload_n 1, 1), (20, .iload_n 3, 1), (21, .invokevirtual 64, 3), (24, .istore 5, 2), (26, .aload_n 0, 1), (27, .iload_n 1, 1), (28, .iload_n 3, 1), (29, .aload_n 0, 1), (30, .iload_n 2, 1), (31, .iload_n 3, 1), (32, .invokevirtual 67, 3), (35, .aload_n 0, 1), (36, .iload_n 2, 1), (37, .iload_n 3, 1), (38, .invokevirtual 64, 3), (41, .invokevirtual 34, 3), (44, .aload_n 0, 1), (45, .iload_n 2, 1), (46, .iload_n 3, 1), (47, .iload 4, 2), (49, .iload 5, 2), (51, .invokevirtual 34, 3), (54, .iinc 3 1, 3), (57, .goto (-55), 3), (60, .return_, 1)]
theorem tx_tt_exchange_0 : zdec prog_6_method_18_code T_tt_exchange_0 = true := by decide +kernel
theorem d_tt_exchange_0 : decode prog_6_method_18_code 0 = .ok (.iconst 0, 1) := zD (q := (0, .iconst 0, 1)) tx_tt_exchange_0 0 rfl
theorem d_tt_exchange_1 : decode prog_6_method_18_code 1 = .ok (.istore_n 3, 1) := zD (q := (1, .istore_n 3, 1)) tx_tt_exchange_0 1 rfl
theorem d_tt_exchange_2 : decode prog_6_method_18_code 2 = .ok (.iload_n 3, 1) := zD (q := (2, .iload_n 3, 1)) tx_tt_exchange_0 2 rfl
theorem d_tt_exchange_3 : decode prog_6_method_18_code 3 = .ok (.aload_n 0, 1) := zD (q := (3, .aload_n 0, 1)) tx_tt_exchange_0 3 rfl
theorem d_tt_exchange_4 : decode prog_6_method_18_code 4 = .ok (.getfield 22, 3) := zD (q := (4, .getfield 22, 3)) tx_tt_exchange_0 4 rfl
theorem d_tt_exchange_7 : decode prog_6_method_18_code 7 = .ok (.if_icmp .ge 53, 3) := zD (q := (7, .if_icmp .ge 53, 3)) tx_tt_exchange_0 5 rfl
theorem d_tt_exchange_10 : decode prog_6_method_18_code 10 = .ok (.aload_n 0, 1) := zD (q := (10, .aload_n 0, 1)) tx_tt_exchange_0 6 rfl
theorem d_tt_exchange_11 : decode prog_6_method_18_code 11 = .ok (.iload_n 1, 1) := zD (q := (11, .iload_n 1, 1)) tx_tt_exchange_0 7 rfl
theorem d_tt_exchange_12 : decode prog_6_method_18_code 12 = .ok (.iload_n 3, 1) := zD (q := (12, .iload_n 3, 1)) tx_tt_exchange_0 8 rfl
theorem d_tt_exchange_13 : decode prog_6_method_18_code 13 = .ok (.invokevirtual 67, 3) := zD (q := (13, .invokevirtual 67, 3)) tx_tt_exchange_0 9 rfl
theorem d_tt_exchange_16 : decode prog_6_method_18_code 16 = .ok (.istore 4, 2) := zD (q := (16, .istore 4, 2)) tx_tt_exchange_0 10 rfl
theorem d_tt_exchange_18 : decode prog_6_method_18_code 18 = .ok (.aload_n 0, 1) := zD (q := (18, .aload_n 0, 1)) tx_tt_exchange_0 11 rfl
theorem d_tt_exchange_19 : decode prog_6_method_18_code 19 = .ok (.iload_n 1, 1) := zD (q := (19, .iload_n 1, 1)) tx_tt_exchange_0 12 rfl
theorem d_tt_exchange_20 : decode prog_6_method_18_code 20 = .ok (.iload_n 3, 1) := zD (q := (20, .iload_n 3, 1)) tx_tt_exchange_0 13 rfl
theorem d_tt_exchange_21 : decode prog_6_method_18_code 21 = .ok (.invokevirtual 64, 3) := zD (q := (21, .invokevirtual 64, 3)) tx_tt_exchange_0 14 rfl
theorem d_tt_exchange_24 : decode prog_6_method_18_code 24 = .ok (.istore 5, 2) := zD (q := (24, .istore 5, 2)) tx_tt_exchange_0 15 rfl
theorem d_tt_exchange_26 : decode prog_6_method_18_code 26 = .ok (.aload_n 0, 1) := zD (q := (26, .aload_n 0, 1)) tx_tt_exchange_0 16 rfl
theorem d_tt_exchange_27 : decode prog_6_method_18_code 27 = .ok (.iload_n 1, 1) := zD (q := (27, .iload_n 1, 1)) tx_tt_exchange_0 17 rfl
theorem d_tt_exchange_28 : decode prog_6_method_18_code 28 = .ok (.iload_n 3, 1) := zD (q := (28, .iload_n 3, 1)) tx_tt_exchange_0 18 rfl
theorem d_tt_exchange_29 : decode prog_6_method_18_code 29 = .ok (.aload_n 0, 1) := zD (q := (29, .aload_n 0, 1)) tx_tt_exchange_0 19 rfl
theorem d_tt_exchange_30 : decode prog_6_method_18_code 30 = .ok (.iload_n 2, 1) := zD (q := (30, .iload_n 2, 1)) tx_tt_exchange_0 20 rfl
theorem d_tt_exchange_31 : decode prog_6_method_18_code 31 = .ok (.iload_n 3, 1) := zD (q := (31, .iload_n 3, 1)) tx_tt_exchange_0 21 rfl
theorem d_tt_exchange_32 : decode prog_6_method_18_code 32 = .ok (.invokevirtual 67, 3) := zD (q := (32, .invokevirtual 67, 3)) tx_tt_exchange_0 22 rfl
theorem d_tt_exchange_35 : decode prog_6_method_18_code 35 = .ok (.aload_n 0, 1) := zD (q := (35, .aload_n 0, 1)) tx_tt_exchange_0 23 rfl
theorem d_tt_exchange_36 : decode prog_6_method_18_code 36 = .ok (.iload_n 2, 1) := zD (q := (36, .iload_n 2, 1)) tx_tt_exchange_0 24 rfl
theorem d_tt_exchange_37 : decode prog_6_method_18_code 37 = .ok (.iload_n 3, 1) := zD (q := (37, .iload_n 3, 1)) tx_tt_exchange_0 25 rfl
theorem d_tt_exchange_38 : decode prog_6_method_18_code 38 = .ok (.invokevirtual 64, 3) := zD (q := (38, .invokevirtual 64, 3)) tx_tt_exchange_0 26 rfl
theorem d_tt_exchange_41 : decode prog_6_method_18_code 41 = .ok (.invokevirtual 34, 3) := zD (q := (41, .invokevirtual 34, 3)) tx_tt_exchange_0 27 rfl
theorem d_tt_exchange_44 : decode prog_6_method_18_code 44 = .ok (.aload_n 0, 1) := zD (q := (44, .aload_n 0, 1)) tx_tt_exchange_0 28 rfl
theorem d_tt_exchange_45 : decode prog_6_method_18_code 45 = .ok (.iload_n 2, 1) := zD (q := (45, .iload_n 2, 1)) tx_tt_exchange_0 29 rfl
theorem d_tt_exchange_46 : decode prog_6_method_18_code 46 = .ok (.iload_n 3, 1) := zD (q := (46, .iload_n 3, 1)) tx_tt_exchange_0 30 rfl
theorem d_tt_exchange_47 : decode prog_6_method_18_code 47 = .ok (.iload 4, 2) := zD (q := (47, .iload 4, 2)) tx_tt_exchange_0 31 rfl
theorem d_tt_exchange_49 : decode prog_6_method_18_code 49 = .ok (.iload 5, 2) := zD (q := (49, .iload 5, 2)) tx_tt_exchange_0 32 rfl
theorem d_tt_exchange_51 : decode prog_6_method_18_code 51 = .ok (.invokevirtual 34, 3) := zD (q := (51, .invokevirtual 34, 3)) tx_tt_exchange_0 33 rfl
theorem d_tt_exchange_54 : decode prog_6_method_18_code 54 = .ok (.iinc 3 1, 3) := zD (q := (54, .iinc 3 1, 3)) tx_tt_exchange_0 34 rfl
theorem d_tt_exchange_57 : decode prog_6_method_18_code 57 = .ok (.goto (-55), 3) := zD (q := (57, .goto (-55), 3)) tx_tt_exchange_0 35 rfl
theorem d_tt_exchange_60 : decode prog_6_method_18_code 60 = .ok (.return_, 1) := zD (q := (60, .return_, 1)) tx_tt_exchange_0 36 rfl
def T_wo_init_0 : List (Nat × Instr × Nat) := [(0, .aload_n 0, 1), (1, .invokespecial 3, 3), (4, .aload_n 0, 1), (5, .bipush 38, 2), (7, .newarray .boolean, 2), (9, .putfield 9, 3), (12, .aload_n 0, 1), (13, .aload_n 1, 1), (14, .putfield 15, 3), (17, .aload_n 0, 1), (18, .aload_n 2, 1), (19, .putfield 19, 3), (22, .return_, 1)]
theorem tx_wo_init_0 : zdec prog_7_method_1_code T_wo_init_0 = true := by decide +kernel
theorem d_wo_init_0 : decode prog_7_method_1_code 0 = .ok (.aload_n 0, 1) := zD (q := (0, .aload_n 0, 1)) tx_wo_init_0 0 rfl
theorem d_wo_init_1 : decode prog_7_method_1_code 1 = .ok (.invokespecial 3, 3) := zD (q := (1, .invokespecial 3, 3)) tx_wo_init_0 1 rfl
theorem d_wo_init_4 : decode prog_7_method_1_code 4 = .ok (.aload_n 0, 1) := zD (q := (4, .aload_n 0, 1)) tx_wo_init_0 2 rfl
theorem d_wo_init_5 : decode prog_7_method_1_code 5 = .ok (.bipush 38, 2) := zD (q := (5, .bipush 38, 2)) tx_wo_init_0 3 rfl
theorem d_wo_init_7 : decode prog_7_method_1_code 7 = .ok (.newarray .boolean, 2) := zD (q := (7, .newarray .boolean, 2)) tx_wo_init_0 4 rfl
theorem d_wo_init_9 : decode prog_7_method_1_code 9 = .ok (.putfield 9, 3) := zD (q := (9, .putfield 9, 3)) tx_wo_init_0 5 rfl
theorem d_wo_init_12 : decode prog_7_method_1_code 12 = .ok (.aload_n 0, 1) := zD (q := (12, .aload_n 0, 1)) tx_wo_init_0 6 rfl
theorem d_wo_init_13 : decode prog_7_method_1_code 13 = .ok (.aload_n 1, 1) := zD (q := (13, .aload_n 1, 1)) tx_wo_init_0 7 rfl
theorem d_wo_init_14 : decode prog_7_method_1_code 14 = .ok (.putfield 15, 3) := zD (q := (14, .putfield 15, 3)) tx_wo_init_0 8 rfl
theorem d_wo_init_17 : decode prog_7_method_1_code 17 = .ok (.aload_n 0, 1) := zD (q := (17, .aload_n 0, 1)) tx_wo_init_0 9 rfl
theorem d_wo_init_18 : decode prog_7_method_1_code 18 = .ok (.aload_n 2, 1) := zD (q := (18, .aload_n 2, 1)) tx_wo_init_0 10 rfl
theorem d_wo_init_19 : decode prog_7_method_1_code 19 = .ok (.putfield 19, 3) := zD (q := (19, .putfield 19, 3)) tx_wo_init_0 11 rfl
theorem d_wo_init_22 : decode prog_7_method_1_code 22 = .ok (.return_, 1) := zD (q := (22, .return_, 1)) tx_wo_init_0 12 rfl
def T_wo_forget_0 : List (Nat × Instr × Nat) := [(0, .iconst 0, 1), (1, .istore_n 1, 1), (2, .iload_n 1, 1), (3, .bipush 38, 2), (5, .if_icmp .ge 16, 3), (8, .aload_n 0, 1), (9, .getfield 9, 3), (12, .iload_n 1, 1), (13, .iconst 0, 1), (14, .bastore, 1), (15, .iinc 1 1, 3), (18, .goto (-16), 3), (21, .aload_n 0, 1), (22, .iconst 0, 1), (23, .putfield 23, 3), (26, .return_, 1)]
theorem tx_wo_forget_0 : zdec prog_7_method_2_code T_wo_forget_0 = true := by decide +kernel
theorem d_wo_forget_0 : decode prog_7_method_2_code 0 = .ok (.iconst 0, 1) := zD (q := (0, .iconst 0, 1)) tx_wo_forget_0 0 rfl
theorem d_wo_forget_1 : decode prog_7_method_2_code 1 = .ok (.istore_n 1, 1) := zD (q := (1, .istore_n 1, 1)) tx_wo_forget_0 1 rfl
theorem d_wo_forget_2 : decode prog_7_method_2_code 2 = .ok (.iload_n 1, 1) := zD (q := (2, .iload_n 1, 1)) tx_wo_forget_0 2 rfl
theorem d_wo_forget_3 : decode prog_7_method_2_code 3 = .ok (.bipush 38, 2) := zD (q := (3, .bipush 38, 2)) tx_wo_forget_0 3 rfl
theorem d_wo_forget_5 : decode prog_7_method_2_code 5 = .ok (.if_icmp .ge 16, 3) := zD (q := (5, .if_icmp .ge 16, 3)) tx_wo_forget_0 4 rfl
theorem d_wo_forget_8 : decode prog_7_method_2_code 8 = .ok (.aload_n 0, 1) := zD (q := (8, .aload_n 0, 1)) tx_wo_forget_0 5 rfl
theorem d_wo_forget_9 : decode prog_7_method_2_code 9 = .ok (.getfield 9, 3) := zD (q := (9, .getfield 9, 3)) tx_wo_forget_0 6 rfl
theorem d_wo_forget_12 : decode prog_7_method_2_code 12 = .ok (.iload_n 1, 1) := zD (q := (12, .iload_n 1, 1)) tx_wo_forget_0 7 rfl
theorem d_wo_forget_13 : decode prog_7_method_2_code 13 = .ok (.iconst 0, 1) := zD (q := (13, .iconst 0, 1)) tx_wo_forget_0 8 rfl
theorem d_wo_forget_14 : decode prog_7_method_2_code 14 = .ok (.bastore, 1) := zD (q := (14, .bastore, 1)) tx_wo_forget_0 9 rfl
theorem d_wo_forget_15 : decode prog_7_method_2_code 15 = .ok (.iinc 1 1, 3) := zD (q := (15, .iinc 1 1, 3)) tx_wo_forget_0 10 rfl
theorem d_wo_forget_18 : decode prog_7_method_2_code 18 = .ok (.goto (-16), 3) := zD (q := (18, .goto (-16), 3)) tx_wo_forget_0 11 rfl
theorem d_wo_forget_21 : decode prog_7_method_2_code 21 = .ok (.aload_n 0, 1) := zD (q := (21, .aload_n 0, 1)) tx_wo_forget_0 12 rfl
theorem d_wo_forget_22 : decode prog_7_method_2_code 22 = .ok (.iconst 0, 1) := zD (q := (22, .iconst 0, 1)) tx_wo_forget_0 13 rfl
theorem d_wo_forget_23 : decode prog_7_method_2_code 23 = .ok (.putfield 23, 3) := zD (q := (23, .putfield 23, 3)) tx_wo_forget_0 14 rfl
theorem d_wo_forget_26 : decode prog_7_method_2_code 26 = .ok (.return_, 1) := zD (q := (26, .return_, 1)) tx_wo_forget_0 15 rfl
def T_wo_missingInAll_0 : List (Nat × Instr × Nat) := [(0, .iconst 0, 1), (1, .istore_n 1, 1), (2, .iconst 0, 1), (3, .istore_n 2, 1), (4, .iload_n 2, 1), (5, .aload_n 0, 1), (6, .getfield 15, 3), (9, .invokevirtual 46, 3), (12, .if_icmp .ge 17, 3), (15, .iload_n 1, 1), (16, .aload_n 0, 1), (17, .iload_n 2, 1), (18, .invokevirtual 49, 3), (21, .iadd, 1), (22, .istore_n 1, 1), (23, .iinc 2 1, 3), (26, .goto (-22), 3), (29, .iload_n 1, 1), (30, .ireturn, 1)]
theorem tx_wo_missingInAll_0 : zdec prog_7_method_8_code T_wo_missingInAll_0 = true := by decide +kernel
theorem d_wo_missingInAll_0 : decode prog_7_method_8_code 0 = .ok (.iconst 0, 1) := zD (q := (0, .iconst 0, 1)) tx_wo_missingInAll_0 0 rfl
theorem d_wo_missingInAll_1 : decode prog_7_method_8_code 1 = .ok (.istore_n 1, 1) := zD (q := (1, .istore_n 1, 1)) tx_wo_missingInAll_0 1 rfl
theorem d_wo_missingInAll_2 : decode prog_7_method_8_code 2 = .ok (.iconst 0, 1) := zD (q := (2, .iconst 0, 1)) tx_wo_missingInAll_0 2 rfl
theorem d_wo_missingInAll_3 : decode prog_7_method_8_code 3 = .ok (.istore_n 2, 1) := zD (q := (3, .istore_n 2, 1)) tx_wo_missingInAll_0 3 rfl
theorem d_wo_missingInAll_4 : decode prog_7_method_8_code 4 = .ok (.iload_n 2, 1) := zD (q := (4, .iload_n 2, 1)) tx_wo_missingInAll_0 4 rfl
theorem d_wo_missingInAll_5 : decode prog_7_method_8_code 5 = .ok (.aload_n 0, 1) := zD (q := (5, .aload_n 0, 1)) tx_wo_missingInAll_0 5 rfl
theorem d_wo_missingInAll_6 : decode prog_7_method_8_code 6 = .ok (.getfield 15, 3) := zD (q := (6, .getfield 15, 3)) tx_wo_missingInAll_0 6 rfl
theorem d_wo_missingInAll_9 : decode prog_7_method_8_code 9 = .ok (.invokevirtual 46, 3) := zD (q := (9, .invokevirtual 46, 3)) tx_wo_missingInAll_0 7 rfl
theorem d_wo_missingInAll_12 : decode prog_7_method_8_code 12 = .ok (.if_icmp .ge 17, 3) := zD (q := (12, .if_icmp .ge 17, 3)) tx_wo_missingInAll_0 8 rfl
theorem d_wo_missingInAll_15 : decode prog_7_method_8_code 15 = .ok (.iload_n 1, 1) := zD (q := (15, .iload_n 1, 1)) tx_wo_missingInAll_0 9 rfl
theorem d_wo_missingInAll_16 : decode prog_7_method_8_code 16 = .ok (.aload_n 0, 1) := zD (q := (16, .aload_n 0, 1)) tx_wo_missingInAll_0 10 rfl
theorem d_wo_missingInAll_17 : decode prog_7_method_8_code 17 = .ok (.iload_n 2, 1) := zD (q := (17, .iload_n 2, 1)) tx_wo_missingInAll_0 11 rfl
theorem d_wo_missingInAll_18 : decode prog_7_method_8_code 18 = .ok (.invokevirtual 49, 3) := zD (q := (18, .invokevirtual 49, 3)) tx_wo_missingInAll_0 12 rfl
theorem d_wo_missingInAll_21 : decode prog_7_method_8_code 21 = .ok (.iadd, 1) := zD (q := (21, .iadd, 1)) tx_wo_missingInAll_0 13 rfl
theorem d_wo_missingInAll_22 : decode prog_7_method_8_code 22 = .ok (.istore_n 1, 1) := zD (q := (22, .istore_n 1, 1)) tx_wo_missingInAll_0 14 rfl
theorem d_wo_missingInAll_23 : decode prog_7_method_8_code 23 = .ok (.iinc 2 1, 3) := zD (q := (23, .iinc 2 1, 3)) tx_wo_missingInAll_0 15 rfl
theorem d_wo_missingInAll_26 : decode prog_7_method_8_code 26 = .ok (.goto (-22), 3) := zD (q := (26, .goto (-22), 3)) tx_wo_missingInAll_0 16 rfl
theorem d_wo_missingInAll_29 : decode prog_7_method_8_code 29 = .ok (.iload_n 1, 1) := zD (q := (29, .iload_n 1, 1)) tx_wo_missingInAll_0 17 rfl
theorem d_wo_missingInAll_30 : decode prog_7_method_8_code 30 = .ok (.ireturn, 1) := zD (q := (30, .ireturn, 1)) tx_wo_missingInAll_0 18 rfl
def T_wo_missingIn_0 : List (Nat × Instr × Nat) := [(0, .iconst 0, 1), (1, .istore_n 2, 1), (2, .iconst 0, 1), (3, .istore_n 3, 1), (4, .iload_n 3, 1), (5, .aload_n 0, 1), (6, .getfield 15, 3), (9, .invokevirtual 39, 3), (12, .if_icmp .ge 21, 3), (15, .aload_n 0, 1), (16, .iload_n 1, 1), (17, .iload_n 3, 1), (18, .invokevirtual 43, 3), (21, .ifCond .eq 6, 3), (24, .iinc 2 1, 3), (27, .iinc 3 1, 3), (30, .goto (-26), 3), (33, .iload_n 2, 1), (34, .ireturn, 1)]
theorem tx_wo_missingIn_0 : zdec prog_7_method_7_code T_wo_missingIn_0 = true := by decide +kernel
theorem d_wo_missingIn_0 : decode prog_7_method_7_code 0 = .ok (.iconst 0, 1) := zD (q := (0, .iconst 0, 1)) tx_wo_missingIn_0 0 rfl
theorem d_wo_missingIn_1 : decode prog_7_method_7_code 1 = .ok (.istore_n 2, 1) := zD (q := (1, .istore_n 2, 1)) tx_wo_missingIn_0 1 rfl
theorem d_wo_missingIn_2 : decode prog_7_method_7_code 2 = .ok (.iconst 0, 1) := zD (q := (2, .iconst 0, 1)) tx_wo_missingIn_0 2 rfl
theorem d_wo_missingIn_3 : decode prog_7_method_7_code 3 = .ok (.istore_n 3, 1) := zD (q := (3, .istore_n 3, 1)) tx_wo_missingIn_0 3 rfl
theorem d_wo_missingIn_4 : decode prog_7_method_7_code 4 = .ok (.iload_n 3, 1) := zD (q := (4, .iload_n 3, 1)) tx_wo_missingIn_0 4 rfl
theorem d_wo_missingIn_5 : decode prog_7_method_7_code 5 = .ok (.aload_n 0, 1) := zD (q := (5, .aload_n 0, 1)) tx_wo_missingIn_0 5 rfl
theorem d_wo_missingIn_6 : decode prog_7_method_7_code 6 = .ok (.getfield 15, 3) := zD (q := (6, .getfield 15, 3)) tx_wo_missingIn_0 6 rfl
theorem d_wo_missingIn_9 : decode prog_7_method_7_code 9 = .ok (.invokevirtual 39, 3) := zD (q := (9, .invokevirtual 39, 3)) tx_wo_missingIn_0 7 rfl
theorem d_wo_missingIn_12 : decode prog_7_method_7_code 12 = .ok (.if_icmp .ge 21, 3) := zD (q := (12, .if_icmp .ge 21, 3)) tx_wo_missingIn_0 8 rfl
theorem d_wo_missingIn_15 : decode prog_7_method_7_code 15 = .ok (.aload_n 0, 1) := zD (q := (15, .aload_n 0, 1)) tx_wo_missingIn_0 9 rfl
theorem d_wo_missingIn_16 : decode prog_7_method_7_code 16 = .ok (.iload_n 1, 1) := zD (q := (16, .iload_n 1, 1)) tx_wo_missingIn_0 10 rfl
theorem d_wo_missingIn_17 : decode prog_7_method_7_code 17 = .ok (.iload_n 3, 1) := zD (q := (17, .iload_n 3, 1)) tx_wo_missingIn_0 11 rfl
theorem d_wo_missingIn_18 : decode prog_7_method_7_code 18 = .ok (.invokevirtual 43, 3) := zD (q := (18, .invokevirtual 43, 3)) tx_wo_missingIn_0 12 rfl
theorem d_wo_missingIn_21 : decode prog_7_method_7_code 21 = .ok (.ifCond .eq 6, 3) := zD (q := (21, .ifCond .eq 6, 3)) tx_wo_missingIn_0 13 rfl
theorem d_wo_missingIn_24 : decode prog_7_method_7_code 24 = .ok (.iinc 2 1, 3) := zD (q := (24, .iinc 2 1, 3)) tx_wo_missingIn_0 14 rfl
theorem d_wo_missingIn_27 : decode prog_7_method_7_code 27 = .ok (.iinc 3 1, 3) := zD (q := (27, .iinc 3 1, 3)) tx_wo_missingIn_0 15 rfl
theorem d_wo_missingIn_30 : decode prog_7_method_7_code 30 = .ok (.goto (-26), 3) := zD (q := (30, .goto (-26), 3)) tx_wo_missingIn_0 16 rfl
theorem d_wo_missingIn_33 : decode prog_7_method_7_code 33 = .ok (.iload_n 2, 1) := zD (q := (33, .iload_n 2, 1)) tx_wo_missingIn_0 17 rfl
theorem d_wo_missingIn_34 : decode prog_7_method_7_code 34 = .ok (.ireturn, 1) := zD (q := (34, .ireturn, 1)) tx_wo_missingIn_0 18 rfl
def T_wo_isMissing_0 : List (Nat × Instr × Nat) := [(0, .aload_n 0, 1), (1, .getfield 9, 3), (4, .iload_n 1, 1), (5, .baload, 1), (6, .ifCond .eq 32, 3), (9, .aload_n 0, 1), (10, .getfield 15, 3), (13, .iload_n 1, 1), (14, .iload_n 2, 1), (15, .invokevirtual 27, 3), (18, .iconst 1, 1), (19, .if_icmp .ne 19, 3), (22, .aload_n 0, 1), (23, .getfield 19, 3), (26, .iload_n 1, 1), (27, .iload_n 2, 1), (28, .invokevirtual 33, 3), (31, .ifCond .ne 7, 3), (34, .iconst 1, 1), (35, .goto 4, 3), (38, .iconst 0, 1), (39, .ireturn, 1)]
theorem tx_wo_isMissing_0 : zdec prog_7_method_6_code T_wo_isMissing_0 = true := by decide +kernel
theorem d_wo_isMissing_0 : decode prog_7_method_6_code 0 = .ok (.aload_n 0, 1) := zD (q := (0, .aload_n 0, 1)) tx_wo_isMissing_0 0 rfl
theorem d_wo_isMissing_1 : decode prog_7_method_6_code 1 = .ok (.getfield 9, 3) := zD (q := (1, .getfield 9, 3)) tx_wo_isMissing_0 1 rfl
theorem d_wo_isMissing_4 : decode prog_7_method_6_code 4 = .ok (.iload_n 1, 1) := zD (q := (4, .iload_n 1, 1)) tx_wo_isMissing_0 2 rfl
theorem d_wo_isMissing_5 : decode prog_7_method_6_code 5 = .ok (.baload, 1) := zD (q := (5, .baload, 1)) tx_wo_isMissing_0 3 rfl
theorem d_wo_isMissing_6 : decode prog_7_method_6_code 6 = .ok (.ifCond .eq 32, 3) := zD (q := (6, .ifCond .eq 32, 3)) tx_wo_isMissing_0 4 rfl
theorem d_wo_isMissing_9 : decode prog_7_method_6_code 9 = .ok (.aload_n 0, 1) := zD (q := (9, .aload_n 0, 1)) tx_wo_isMissing_0 5 rfl
theorem d_wo_isMissing_10 : decode prog_7_method_6_code 10 = .ok (.getfield 15, 3) := zD (q := (10, .getfield 15, 3)) tx_wo_isMissing_0 6 rfl
theorem d_wo_isMissing_13 : decode prog_7_method_6_code 13 = .ok (.iload_n 1, 1) := zD (q := (13, .iload_n 1, 1)) tx_wo_isMissing_0 7 rfl
theorem d_wo_isMissing_14 : decode prog_7_method_6_code 14 = .ok (.iload_n 2, 1) := zD (q := (14, .iload_n 2, 1)) tx_wo_isMissing_0 8 rfl
theorem d_wo_isMissing_15 : decode prog_7_method_6_code 15 = .ok (.invokevirtual 27, 3) := zD (q := (15, .invokevirtual 27, 3)) tx_wo_isMissing_0 9 rfl
theorem d_wo_isMissing_18 : decode prog_7_method_6_code 18 = .ok (.iconst 1, 1) := zD (q := (18, .iconst 1, 1)) tx_wo_isMissing_0 10 rfl
theorem d_wo_isMissing_19 : decode prog_7_method_6_code 19 = .ok (.if_icmp .ne 19, 3) := zD (q := (19, .if_icmp .ne 19, 3)) tx_wo_isMissing_0 11 rfl
theorem d_wo_isMissing_22 : decode prog_7_method_6_code 22 = .ok (.aload_n 0, 1) := zD (q := (22, .aload_n 0, 1)) tx_wo_isMissing_0 12 rfl
theorem d_wo_isMissing_23 : decode prog_7_method_6_code 23 = .ok (.getfield 19, 3) := zD (q := (23, .getfield 19, 3)) tx_wo_isMissing_0 13 rfl
theorem d_wo_isMissing_26 : decode prog_7_method_6_code 26 = .ok (.iload_n 1, 1) := zD (q := (26, .iload_n 1, 1)) tx_wo_isMissing_0 14 rfl
theorem d_wo_isMissing_27 : decode prog_7_method_6_code 27 = .ok (.iload_n 2, 1) := zD (q := (27, .iload_n 2, 1)) tx_wo_isMissing_0 15 rfl
theorem d_wo_isMissing_28 : decode prog_7_method_6_code 28 = .ok (.invokevirtual 33, 3) := zD (q := (28, .invokevirtual 33, 3)) tx_wo_isMissing_0 16 rfl
theorem d_wo_isMissing_31 : decode prog_7_method_6_code 31 = .ok (.ifCond .ne 7, 3) := zD (q := (31, .ifCond .ne 7, 3)) tx_wo_isMissing_0 17 rfl
theorem d_wo_isMissing_34 : decode prog_7_method_6_code 34 = .ok (.iconst 1, 1) := zD (q := (34, .iconst 1, 1)) tx_wo_isMissing_0 18 rfl
theorem d_wo_isMissing_35 : decode prog_7_method_6_code 35 = .ok (.goto 4, 3) := zD (q := (35, .goto 4, 3)) tx_wo_isMissing_0 19 rfl
theorem d_wo_isMissing_38 : decode prog_7_method_6_code 38 = .ok (.iconst 0, 1) := zD (q := (38, .iconst 0, 1)) tx_wo_isMissing_0 20 rfl
theorem d_wo_isMissing_39 : decode prog_7_method_6_code 39 = .ok (.ireturn, 1) := zD (q := (39, .ireturn, 1)) tx_wo_isMissing_0 21 rfl
def T_wo_count_0 : List (Nat × Instr × Nat) := [(0, .aload_n 0, 1), (1, .getfield 23, 3), (4, .ireturn, 1)]
theorem tx_wo_count_0 : zdec prog_7_method_3_code T_wo_count_0 = true := by decide +kernel
theorem d_wo_count_0 : decode prog_7_method_3_code 0 = .ok (.aload_n 0, 1) := zD (q := (0, .aload_n 0, 1)) tx_wo_count_0 0 rfl
theorem d_wo_count_1 : decode prog_7_method_3_code 1 = .ok (.getfield 23, 3) := zD (q := (1, .getfield 23, 3)) tx_wo_count_0 1 rfl
theorem d_wo_count_4 : decode prog_7_method_3_code 4 = .ok (.ireturn, 1) := zD (q := (4, .ireturn, 1)) tx_wo_count_0 2 rfl
def T_wo_isWashed_0 : List (Nat × Instr × Nat) := [(0, .aload_n 0, 1), (1, .getfield 9, 3), (4, .iload_n 1, 1), (5, .baload, 1), (6, .ireturn, 1)]
theorem tx_wo_isWashed_0 : zdec prog_7_method_4_code T_wo_isWashed_0 = true := by decide +kernel
theorem d_wo_isWashed_0 : decode prog_7_method_4_code 0 = .ok (.aload_n 0, 1) := zD (q := (0, .aload_n 0, 1)) tx_wo_isWashed_0 0 rfl
theorem d_wo_isWashed_1 : decode prog_7_method_4_code 1 = .ok (.getfield 9, 3) := zD (q := (1, .getfield 9, 3)) tx_wo_isWashed_0 1 rfl
theorem d_wo_isWashed_4 : decode prog_7_method_4_code 4 = .ok (.iload_n 1, 1) := zD (q := (4, .iload_n 1, 1)) tx_wo_isWashed_0 2 rfl
theorem d_wo_isWashed_5 : decode prog_7_method_4_code 5 = .ok (.baload, 1) := zD (q := (5, .baload, 1)) tx_wo_isWashed_0 3 rfl
theorem d_wo_isWashed_6 : decode prog_7_method_4_code 6 = .ok (.ireturn, 1) := zD (q := (6, .ireturn, 1)) tx_wo_isWashed_0 4 rfl
def T_wo_add_0 : List (Nat × Instr × Nat) := [(0, .aload_n 0, 1), (1, .getfield 9, 3), (4, .iload_n 1, 1), (5, .iconst 1, 1), (6, .bastore, 1), (7, .aload_n 0, 1), (8, .dup, 1), (9, .getfield 23, 3), (12, .iconst 1, 1), (13, .iadd, 1), (14, .putfield 23, 3), (17, .return_, 1)]
theorem tx_wo_add_0 : zdec prog_7_method_5_code T_wo_add_0 = true := by decide +kernel
theorem d_wo_add_0 : decode prog_7_method_5_code 0 = .ok (.aload_n 0, 1) := zD (q := (0, .aload_n 0, 1)) tx_wo_add_0 0 rfl
theorem d_wo_add_1 : decode prog_7_method_5_code 1 = .ok (.getfield 9, 3) := zD (q := (1, .getfield 9, 3)) tx_wo_add_0 1 rfl
theorem d_wo_add_4 : decode prog_7_method_5_code 4 = .ok (.iload_n 1, 1) := zD (q := (4, .iload_n 1, 1)) tx_wo_add_0 2 rfl
theorem d_wo_add_5 : decode prog_7_method_5_code 5 = .ok (.iconst 1, 1) := zD (q := (5, .iconst 1, 1)) tx_wo_add_0 3 rfl
theorem d_wo_add_6 : decode prog_7_method_5_code 6 = .ok (.bastore, 1) := zD (q := (6, .bastore, 1)) tx_wo_add_0 4 rfl
theorem d_wo_add_7 : decode prog_7_method_5_code 7 = .ok (.aload_n 0, 1) := zD (q := (7, .aload_n 0, 1)) tx_wo_add_0 5 rfl
theorem d_wo_add_8 : decode prog_7_method_5_code 8 = .ok (.dup, 1) := zD (q := (8, .dup, 1)) tx_wo_add_0 6 rfl
theorem d_wo_add_9 : decode prog_7_method_5_code 9 = .ok (.getfield 23, 3) := zD (q := (9, .getfield 23, 3)) tx_wo_add_0 7 rfl
theorem d_wo_add_12 : decode prog_7_method_5_code 12 = .ok (.iconst 1, 1) := zD (q := (12, .iconst 1, 1)) tx_wo_add_0 8 rfl
theorem d_wo_add_13 : decode prog_7_method_5_code 13 = .ok (.iadd, 1) := zD (q := (13, .iadd, 1)) tx_wo_add_0 9 rfl
theorem d_wo_add_14 : decode prog_7_method_5_code 14 = .ok (.putfield 23, 3) := zD (q := (14, .putfield 23, 3)) tx_wo_add_0 10 rfl
theorem d_wo_add_17 : decode prog_7_method_5_code 17 = .ok (.return_, 1) := zD (q := (17, .return_, 1)) tx_wo_add_0 11 rfl
def T_wi_init_0 : List (Nat × Instr × Nat) := [(0, .aload_n 0, 1), (1, .invokespecial 3, 3), (4, .aload_n 0, 1), (5, .bipush 39, 2), (7, .newarray .int, 2), (9, .putfield 9, 3), (12, .aload_n 0, 1), (13, .bipush 39, 2), (15, .newarray .int, 2), (17, .putfield 15, 3), (20, .aload_n 0, 1), (21, .bipush 6, 2), (23, .newarray .int, 2), (25, .putfield 18, 3), (28, .aload_n 0, 1), (29, .bipush 6, 2), (31, .newarray .int, 2), (33, .putfield 21, 3), (36, .aload_n 0, 1), (37, .bipush 6, 2), (39, .newarray .int, 2), (41, .putfield 24, 3), (44, .aload_n 0, 1), (45, .bipush 6, 2), (47, .newarray .int, 2), (49, .putfield 27, 3), (52, .aload_n 0, 1), (53, .bipush 6, 2), (55, .newarray .int, 2), (57, .putfield 30, 3), (60, .return_, 1)]
theorem tx_wi_init_0 : zdec prog_8_method_1_code T_wi_init_0 = true := by decide +kernel
theorem d_wi_init_0 : decode prog_8_method_1_code 0 = .ok (.aload_n 0, 1) := zD (q := (0, .aload_n 0, 1)) tx_wi_init_0 0 rfl
theorem d_wi_init_1 : decode prog_8_method_1_code 1 = .ok (.invokespecial 3, 3) := zD (q := (1, .invokespecial 3, 3)) tx_wi_init_0 1 rfl
theorem d_wi_init_4 : decode prog_8_method_1_code 4 = .ok (.aload_n 0, 1) := zD (q := (4, .aload_n 0, 1)) tx_wi_init_0 2 rfl
theorem d_wi_init_5 : decode prog_8_method_1_code 5 = .ok (.bipush 39, 2) := zD (q := (5, .bipush 39, 2)) tx_wi_init_0 3 rfl
theorem d_wi_init_7 : decode prog_8_method_1_code 7 = .ok (.newarray .int, 2) := zD (q := (7, .newarray .int, 2)) tx_wi_init_0 4 rfl
theorem d_wi_init_9 : decode prog_8_method_1_code 9 = .ok (.putfield 9, 3) := zD (q := (9, .putfield 9, 3)) tx_wi_init_0 5 rfl
theorem d_wi_init_12 : decode prog_8_method_1_code 12 = .ok (.aload_n 0, 1) := zD (q := (12, .aload_n 0, 1)) tx_wi_init_0 6 rfl
theorem d_wi_init_13 : decode prog_8_method_1_code 13 = .ok (.bipush 39, 2) := zD (q := (13, .bipush 39, 2)) tx_wi_init_0 7 rfl
theorem d_wi_init_15 : decode prog_8_method_1_code 15 = .ok (.newarray .int, 2) := zD (q := (15, .newarray .int, 2)) tx_wi_init_0 8 rfl
theorem d_wi_init_17 : decode prog_8_method_1_code 17 = .ok (.putfield 15, 3) := zD (q := (17, .putfield 15, 3)) tx_wi_init_0 9 rfl
theorem d_wi_init_20 : decode prog_8_method_1_code 20 = .ok (.aload_n 0, 1) := zD (q := (20, .aload_n 0, 1)) tx_wi_init_0 10 rfl
theorem d_wi_init_21 : decode prog_8_method_1_code 21 = .ok (.bipush 6, 2) := zD (q := (21, .bipush 6, 2)) tx_wi_init_0 11 rfl
theorem d_wi_init_23 : decode prog_8_method_1_code 23 = .ok (.newarray .int, 2) := zD (q := (23, .newarray .int, 2)) tx_wi_init_0 12 rfl
theorem d_wi_init_25 : decode prog_8_method_1_code 25 = .ok (.putfield 18, 3) := zD (q := (25, .putfield 18, 3)) tx_wi_init_0 13 rfl
theorem d_wi_init_28 : decode prog_8_method_1_code 28 = .ok (.aload_n 0, 1) := zD (q := (28, .aload_n 0, 1)) tx_wi_init_0 14 rfl
theorem d_wi_init_29 : decode prog_8_method_1_code 29 = .ok (.bipush 6, 2) := zD (q := (29, .bipush 6, 2)) tx_wi_init_0 15 rfl
theorem d_wi_init_31 : decode prog_8_method_1_code 31 = .ok (.newarray .int, 2) := zD (q := (31, .newarray .int, 2)) tx_wi_init_0 16 rfl
theorem d_wi_init_33 : decode prog_8_method_1_code 33 = .ok (.putfield 21, 3) := zD (q := (33, .putfield 21, 3)) tx_wi_init_0 17 rfl
theorem d_wi_init_36 : decode prog_8_method_1_code 36 = .ok (.aload_n 0, 1) := zD (q := (36, .aload_n 0, 1)) tx_wi_init_0 18 rfl
theorem d_wi_init_37 : decode prog_8_method_1_code 37 = .ok (.bipush 6, 2) := zD (q := (37, .bipush 6, 2)) tx_wi_init_0 19 rfl
theorem d_wi_init_39 : decode prog_8_method_1_code 39 = .ok (.newarray .int, 2) := zD (q := (39, .newarray .int, 2)) tx_wi_init_0 20 rfl
theorem d_wi_init_41 : decode prog_8_method_1_code 41 = .ok (.putfield 24, 3) := zD (q := (41, .putfield 24, 3)) tx_wi_init_0 21 rfl
theorem d_wi_init_44 : decode prog_8_method_1_code 44 = .ok (.aload_n 0, 1) := zD (q := (44, .aload_n 0, 1)) tx_wi_init_0 22 rfl
theorem d_wi_init_45 : decode prog_8_method_1_code 45 = .ok (.bipush 6, 2) := zD (q := (45, .bipush 6, 2)) tx_wi_init_0 23 rfl
theorem d_wi_init_47 : decode prog_8_method_1_code 47 = .ok (.newarray .int, 2) := zD (q := (47, .newarray .int, 2)) tx_wi_init_0 24 rfl
theorem d_wi_init_49 : decode prog_8_method_1_code 49 = .ok (.putfield 27, 3) := zD (q := (49, .putfield 27, 3)) tx_wi_init_0 25 rfl
theorem d_wi_init_52 : decode prog_8_method_1_code 52 = .ok (.aload_n 0, 1) := zD (q := (52, .aload_n 0, 1)) tx_wi_init_0 26 rfl
theorem d_wi_init_53 : decode prog_8_method_1_code 53 = .ok (.bipush 6, 2) := zD (q := (53, .bipush 6, 2)) tx_wi_init_0 27 rfl
theorem d_wi_init_55 : decode prog_8_method_1_code 55 = .ok (.newarray .int, 2) := zD (q := (55, .newarray .int, 2)) tx_wi_init_0 28 rfl
theorem d_wi_init_57 : decode prog_8_method_1_code 57 = .ok (.putfield 30, 3) := zD (q := (57, .putfield 30, 3)) tx_wi_init_0 29 rfl
theorem d_wi_init_60 : decode prog_8_method_1_code 60 = .ok (.return_, 1) := zD (q := (60, .return_, 1)) tx_wi_init_0 30 rfl
def T_wi_firstBroken_0 : List (Nat × Instr × Nat) := [(0, .aload_n 1, 1), (1, .invokevirtual 56, 3), (4, .ifCond .ne 5, 3), (7, .iconst 1, 1), (8, .ireturn, 1), (9, .aload_n 0, 1), (10, .aload_n 1, 1), (11, .invokevirtual 62, 3), (14, .ifCond .eq 5, 3), (17, .iconst 2, 1), (18, .ireturn, 1), (19, .aload_n 0, 1), (20, .aload_n 1, 1), (21, .invokevirtual 66, 3), (24, .ifCond .eq 5, 3), (27, .iconst 3, 1), (28, .ireturn, 1), (29, .aload_n 0, 1), (30, .aload_n 1, 1), (31, .invokevirtual 69, 3), (34, .ifCond .eq 5, 3), (37, .iconst 4, 1), (38, .ireturn, 1), (39, .aload_n 0, 1), (40, .aload_n 1, 1), (41, .invokevirtual 72, 3), (44, .ifCond .eq 7, 3), (47, .iconst 5, 1), (48, .goto 4, 3), (51, .iconst 0, 1), (52, .ireturn, 1)]
theorem tx_wi_firstBroken_0 : zdec prog_8_method_9_code T_wi_firstBroken_0 = true := by decide +kernel
theorem d_wi_firstBroken_0 : decode prog_8_method_9_code 0 = .ok (.aload_n 1, 1) := zD (q := (0, .aload_n 1, 1)) tx_wi_firstBroken_0 0 rfl
theorem d_wi_firstBroken_1 : decode prog_8_method_9_code 1 = .ok (.invokevirtual 56, 3) := zD (q := (1, .invokevirtual 56, 3)) tx_wi_firstBroken_0 1 rfl
theorem d_wi_firstBroken_4 : decode prog_8_method_9_code 4 = .ok (.ifCond .ne 5, 3) := zD (q := (4, .ifCond .ne 5, 3)) tx_wi_firstBroken_0 2 rfl
theorem d_wi_firstBroken_7 : decode prog_8_method_9_code 7 = .ok (.iconst 1, 1) := zD (q := (7, .iconst 1, 1)) tx_wi_firstBroken_0 3 rfl
theorem d_wi_firstBroken_8 : decode prog_8_method_9_code 8 = .ok (.ireturn, 1) := zD (q := (8, .ireturn, 1)) tx_wi_firstBroken_0 4 rfl
theorem d_wi_firstBroken_9 : decode prog_8_method_9_code 9 = .ok (.aload_n 0, 1) := zD (q := (9, .aload_n 0, 1)) tx_wi_firstBroken_0 5 rfl
theorem d_wi_firstBroken_10 : decode prog_8_method_9_code 10 = .ok (.aload_n 1, 1) := zD (q := (10, .aload_n 1, 1)) tx_wi_firstBroken_0 6 rfl
theorem d_wi_firstBroken_11 : decode prog_8_method_9_code 11 = .ok (.invokevirtual 62, 3) := zD (q := (11, .invokevirtual 62, 3)) tx_wi_firstBroken_0 7 rfl
theorem d_wi_firstBroken_14 : decode prog_8_method_9_code 14 = .ok (.ifCond .eq 5, 3) := zD (q := (14, .ifCond .eq 5, 3)) tx_wi_firstBroken_0 8 rfl
theorem d_wi_firstBroken_17 : decode prog_8_method_9_code 17 = .ok (.iconst 2, 1) := zD (q := (17, .iconst 2, 1)) tx_wi_firstBroken_0 9 rfl
theorem d_wi_firstBroken_18 : decode prog_8_method_9_code 18 = .ok (.ireturn, 1) := zD (q := (18, .ireturn, 1)) tx_wi_firstBroken_0 10 rfl
theorem d_wi_firstBroken_19 : decode prog_8_method_9_code 19 = .ok (.aload_n 0, 1) := zD (q := (19, .aload_n 0, 1)) tx_wi_firstBroken_0 11 rfl
theorem d_wi_firstBroken_20 : decode prog_8_method_9_code 20 = .ok (.aload_n 1, 1) := zD (q := (20, .aload_n 1, 1)) tx_wi_firstBroken_0 12 rfl
theorem d_wi_firstBroken_21 : decode prog_8_method_9_code 21 = .ok (.invokevirtual 66, 3) := zD (q := (21, .invokevirtual 66, 3)) tx_wi_firstBroken_0 13 rfl
theorem d_wi_firstBroken_24 : decode prog_8_method_9_code 24 = .ok (.ifCond .eq 5, 3) := zD (q := (24, .ifCond .eq 5, 3)) tx_wi_firstBroken_0 14 rfl
theorem d_wi_firstBroken_27 : decode prog_8_method_9_code 27 = .ok (.iconst 3, 1) := zD (q := (27, .iconst 3, 1)) tx_wi_firstBroken_0 15 rfl
theorem d_wi_firstBroken_28 : decode prog_8_method_9_code 28 = .ok (.ireturn, 1) := zD (q := (28, .ireturn, 1)) tx_wi_firstBroken_0 16 rfl
theorem d_wi_firstBroken_29 : decode prog_8_method_9_code 29 = .ok (.aload_n 0, 1) := zD (q := (29, .aload_n 0, 1)) tx_wi_firstBroken_0 17 rfl
theorem d_wi_firstBroken_30 : decode prog_8_method_9_code 30 = .ok (.aload_n 1, 1) := zD (q := (30, .aload_n 1, 1)) tx_wi_firstBroken_0 18 rfl
theorem d_wi_firstBroken_31 : decode prog_8_method_9_code 31 = .ok (.invokevirtual 69, 3) := zD (q := (31, .invokevirtual 69, 3)) tx_wi_firstBroken_0 19 rfl
theorem d_wi_firstBroken_34 : decode prog_8_method_9_code 34 = .ok (.ifCond .eq 5, 3) := zD (q := (34, .ifCond .eq 5, 3)) tx_wi_firstBroken_0 20 rfl
theorem d_wi_firstBroken_37 : decode prog_8_method_9_code 37 = .ok (.iconst 4, 1) := zD (q := (37, .iconst 4, 1)) tx_wi_firstBroken_0 21 rfl
theorem d_wi_firstBroken_38 : decode prog_8_method_9_code 38 = .ok (.ireturn, 1) := zD (q := (38, .ireturn, 1)) tx_wi_firstBroken_0 22 rfl
theorem d_wi_firstBroken_39 : decode prog_8_method_9_code 39 = .ok (.aload_n 0, 1) := zD (q := (39, .aload_n 0, 1)) tx_wi_firstBroken_0 23 rfl
theorem d_wi_firstBroken_40 : decode prog_8_method_9_code 40 = .ok (.aload_n 1, 1) := zD (q := (40, .aload_n 1, 1)) tx_wi_firstBroken_0 24 rfl
theorem d_wi_firstBroken_41 : decode prog_8_method_9_code 41 = .ok (.invokevirtual 72, 3) := zD (q := (41, .invokevirtual 72, 3)) tx_wi_firstBroken_0 25 rfl
theorem d_wi_firstBroken_44 : decode prog_8_method_9_code 44 = .ok (.ifCond .eq 7, 3) := zD (q := (44, .ifCond .eq 7, 3)) tx_wi_firstBroken_0 26 rfl
theorem d_wi_firstBroken_47 : decode prog_8_method_9_code 47 = .ok (.iconst 5, 1) := zD (q := (47, .iconst 5, 1)) tx_wi_firstBroken_0 27 rfl
theorem d_wi_firstBroken_48 : decode prog_8_method_9_code 48 = .ok (.goto 4, 3) := zD (q := (48, .goto 4, 3)) tx_wi_firstBroken_0 28 rfl
theorem d_wi_firstBroken_51 : decode prog_8_method_9_code 51 = .ok (.iconst 0, 1) := zD (q := (51, .iconst 0, 1)) tx_wi_firstBroken_0 29 rfl
theorem d_wi_firstBroken_52 : decode prog_8_method_9_code 52 = .ok (.ireturn, 1) := zD (q := (52, .ireturn, 1)) tx_wi_firstBroken_0 30 rfl
def T_wi_breaksBan_0 : List (Nat × Instr × Nat) := [(0, .iconst 0, 1), (1, .istore_n 2, 1), (2, .iload_n 2, 1), (3, .aload_n 1, 1), (4, .invokevirtual 56, 3), (7, .if_icmp .ge 72, 3), (10, .iconst 0, 1), (11, .istore_n 3, 1), (12, .iload_n 3, 1), (13, .aload_n 1, 1), (14, .invokevirtual 75, 3), (17, .if_icmp .ge 56, 3), (20, .aload_n 1, 1), (21, .iload_n 2, 1), (22, .iload_n 3, 1), (23, .invokevirtual 78, 3), (26, .istore 4, 2), (28, .iload 4, 2), (30, .iconst 1, 1), (31, .if_icmp .ne 16, 3), (34, .aload_n 0, 1), (35, .getfield 9, 3), (38, .iload_n 2, 1), (39, .iaload, 1), (40, .iload_n 3, 1), (41, .invokestatic 52, 3), (44, .ifCond .ne 21, 3), (47, .iload 4, 2), (49, .ifCond .ne 18, 3), (52, .aload_n 0, 1), (53, .getfield 15, 3), (56, .iload_n 2, 1), (57, .iaload, 1), (58, .iload_n 3, 1), (59, .invokestatic 52, 3), (62, .ifCond .eq 5, 3), (65, .iconst 1, 1), (66, .ireturn, 1), (67, .iinc 3 1, 3), (70, .goto (-58), 3), (73, .iinc 2 1, 3), (76, .goto (-74), 3), (79, .iconst 0, 1), (80, .ireturn, 1)]
theorem tx_wi_breaksBan_0 : zdec prog_8_method_10_code T_wi_breaksBan_0 = true := by decide +kernel
theorem d_wi_breaksBan_0 : decode prog_8_method_10_code 0 = .ok (.iconst 0, 1) := zD (q := (0, .iconst 0, 1)) tx_wi_breaksBan_0 0 rfl
theorem d_wi_breaksBan_1 : decode prog_8_method_10_code 1 = .ok (.istore_n 2, 1) := zD (q := (1, .istore_n 2, 1)) tx_wi_breaksBan_0 1 rfl
theorem d_wi_breaksBan_2 : decode prog_8_method_10_code 2 = .ok (.iload_n 2, 1) := zD (q := (2, .iload_n 2, 1)) tx_wi_breaksBan_0 2 rfl
theorem d_wi_breaksBan_3 : decode prog_8_method_10_code 3 = .ok (.aload_n 1, 1) := zD (q := (3, .aload_n 1, 1)) tx_wi_breaksBan_0 3 rfl
theorem d_wi_breaksBan_4 : decode prog_8_method_10_code 4 = .ok (.invokevirtual 56, 3) := zD (q := (4, .invokevirtual 56, 3)) tx_wi_breaksBan_0 4 rfl
theorem d_wi_breaksBan_7 : decode prog_8_method_10_code 7 = .ok (.if_icmp .ge 72, 3) := zD (q := (7, .if_icmp .ge 72, 3)) tx_wi_breaksBan_0 5 rfl
theorem d_wi_breaksBan_10 : decode prog_8_method_10_code 10 = .ok (.iconst 0, 1) := zD (q := (10, .iconst 0, 1)) tx_wi_breaksBan_0 6 rfl
theorem d_wi_breaksBan_11 : decode prog_8_method_10_code 11 = .ok (.istore_n 3, 1) := zD (q := (11, .istore_n 3, 1)) tx_wi_breaksBan_0 7 rfl
theorem d_wi_breaksBan_12 : decode prog_8_method_10_code 12 = .ok (.iload_n 3, 1) := zD (q := (12, .iload_n 3, 1)) tx_wi_breaksBan_0 8 rfl
theorem d_wi_breaksBan_13 : decode prog_8_method_10_code 13 = .ok (.aload_n 1, 1) := zD (q := (13, .aload_n 1, 1)) tx_wi_breaksBan_0 9 rfl
theorem d_wi_breaksBan_14 : decode prog_8_method_10_code 14 = .ok (.invokevirtual 75, 3) := zD (q := (14, .invokevirtual 75, 3)) tx_wi_breaksBan_0 10 rfl
theorem d_wi_breaksBan_17 : decode prog_8_method_10_code 17 = .ok (.if_icmp .ge 56, 3) := zD (q := (17, .if_icmp .ge 56, 3)) tx_wi_breaksBan_0 11 rfl
theorem d_wi_breaksBan_20 : decode prog_8_method_10_code 20 = .ok (.aload_n 1, 1) := zD (q := (20, .aload_n 1, 1)) tx_wi_breaksBan_0 12 rfl
theorem d_wi_breaksBan_21 : decode prog_8_method_10_code 21 = .ok (.iload_n 2, 1) := zD (q := (21, .iload_n 2, 1)) tx_wi_breaksBan_0 13 rfl
theorem d_wi_breaksBan_22 : decode prog_8_method_10_code 22 = .ok (.iload_n 3, 1) := zD (q := (22, .iload_n 3, 1)) tx_wi_breaksBan_0 14 rfl
theorem d_wi_breaksBan_23 : decode prog_8_method_10_code 23 = .ok (.invokevirtual 78, 3) := zD (q := (23, .invokevirtual 78, 3)) tx_wi_breaksBan_0 15 rfl
theorem d_wi_breaksBan_26 : decode prog_8_method_10_code 26 = .ok (.istore 4, 2) := zD (q := (26, .istore 4, 2)) tx_wi_breaksBan_0 16 rfl
theorem d_wi_breaksBan_28 : decode prog_8_method_10_code 28 = .ok (.iload 4, 2) := zD (q := (28, .iload 4, 2)) tx_wi_breaksBan_0 17 rfl
theorem d_wi_breaksBan_30 : decode prog_8_method_10_code 30 = .ok (.iconst 1, 1) := zD (q := (30, .iconst 1, 1)) tx_wi_breaksBan_0 18 rfl
theorem d_wi_breaksBan_31 : decode prog_8_method_10_code 31 = .ok (.if_icmp .ne 16, 3) := zD (q := (31, .if_icmp .ne 16, 3)) tx_wi_breaksBan_0 19 rfl
theorem d_wi_breaksBan_34 : decode prog_8_method_10_code 34 = .ok (.aload_n 0, 1) := zD (q := (34, .aload_n 0, 1)) tx_wi_breaksBan_0 20 rfl
theorem d_wi_breaksBan_35 : decode prog_8_method_10_code 35 = .ok (.getfield 9, 3) := zD (q := (35, .getfield 9, 3)) tx_wi_breaksBan_0 21 rfl
theorem d_wi_breaksBan_38 : decode prog_8_method_10_code 38 = .ok (.iload_n 2, 1) := zD (q := (38, .iload_n 2, 1)) tx_wi_breaksBan_0 22 rfl
theorem d_wi_breaksBan_39 : decode prog_8_method_10_code 39 = .ok (.iaload, 1) := zD (q := (39, .iaload, 1)) tx_wi_breaksBan_0 23 rfl
theorem d_wi_breaksBan_40 : decode prog_8_method_10_code 40 = .ok (.iload_n 3, 1) := zD (q := (40, .iload_n 3, 1)) tx_wi_breaksBan_0 24 rfl
theorem d_wi_breaksBan_41 : decode prog_8_method_10_code 41 = .ok (.invokestatic 52, 3) := zD (q := (41, .invokestatic 52, 3)) tx_wi_breaksBan_0 25 rfl
theorem d_wi_breaksBan_44 : decode prog_8_method_10_code 44 = .ok (.ifCond .ne 21, 3) := zD (q := (44, .ifCond .ne 21, 3)) tx_wi_breaksBan_0 26 rfl
theorem d_wi_breaksBan_47 : decode prog_8_method_10_code 47 = .ok (.iload 4, 2) := zD (q := (47, .iload 4, 2)) tx_wi_breaksBan_0 27 rfl
theorem d_wi_breaksBan_49 : decode prog_8_method_10_code 49 = .ok (.ifCond .ne 18, 3) := zD (q := (49, .ifCond .ne 18, 3)) tx_wi_breaksBan_0 28 rfl
theorem d_wi_breaksBan_52 : decode prog_8_method_10_code 52 = .ok (.aload_n 0, 1) := zD (q := (52, .aload_n 0, 1)) tx_wi_breaksBan_0 29 rfl
theorem d_wi_breaksBan_53 : decode prog_8_method_10_code 53 = .ok (.getfield 15, 3) := zD (q := (53, .getfield 15, 3)) tx_wi_breaksBan_0 30 rfl
theorem d_wi_breaksBan_56 : decode prog_8_method_10_code 56 = .ok (.iload_n 2, 1) := zD (q := (56, .iload_n 2, 1)) tx_wi_breaksBan_0 31 rfl
theorem d_wi_breaksBan_57 : decode prog_8_method_10_code 57 = .ok (.iaload, 1) := zD (q := (57, .iaload, 1)) tx_wi_breaksBan_0 32 rfl
theorem d_wi_breaksBan_58 : decode prog_8_method_10_code 58 = .ok (.iload_n 3, 1) := zD (q := (58, .iload_n 3, 1)) tx_wi_breaksBan_0 33 rfl
theorem d_wi_breaksBan_59 : decode prog_8_method_10_code 59 = .ok (.invokestatic 52, 3) := zD (q := (59, .invokestatic 52, 3)) tx_wi_breaksBan_0 34 rfl
theorem d_wi_breaksBan_62 : decode prog_8_method_10_code 62 = .ok (.ifCond .eq 5, 3) := zD (q := (62, .ifCond .eq 5, 3)) tx_wi_breaksBan_0 35 rfl
theorem d_wi_breaksBan_65 : decode prog_8_method_10_code 65 = .ok (.iconst 1, 1) := zD (q := (65, .iconst 1, 1)) tx_wi_breaksBan_0 36 rfl
theorem d_wi_breaksBan_66 : decode prog_8_method_10_code 66 = .ok (.ireturn, 1) := zD (q := (66, .ireturn, 1)) tx_wi_breaksBan_0 37 rfl
theorem d_wi_breaksBan_67 : decode prog_8_method_10_code 67 = .ok (.iinc 3 1, 3) := zD (q := (67, .iinc 3 1, 3)) tx_wi_breaksBan_0 38 rfl
theorem d_wi_breaksBan_70 : decode prog_8_method_10_code 70 = .ok (.goto (-58), 3) := zD (q := (70, .goto (-58), 3)) tx_wi_breaksBan_0 39 rfl
theorem d_wi_breaksBan_73 : decode prog_8_method_10_code 73 = .ok (.iinc 2 1, 3) := zD (q := (73, .iinc 2 1, 3)) tx_wi_breaksBan_0 40 rfl
theorem d_wi_breaksBan_76 : decode prog_8_method_10_code 76 = .ok (.goto (-74), 3) := zD (q := (76, .goto (-74), 3)) tx_wi_breaksBan_0 41 rfl
theorem d_wi_breaksBan_79 : decode prog_8_method_10_code 79 = .ok (.iconst 0, 1) := zD (q := (79, .iconst 0, 1)) tx_wi_breaksBan_0 42 rfl
theorem d_wi_breaksBan_80 : decode prog_8_method_10_code 80 = .ok (.ireturn, 1) := zD (q := (80, .ireturn, 1)) tx_wi_breaksBan_0 43 rfl
def T_wi_breaksPair_0 : List (Nat × Instr × Nat) := [(0, .iconst 0, 1), (1, .istore_n 2, 1), (2, .iload_n 2, 1), (3, .aload_n 0, 1), (4, .getfield 43, 3), (7, .if_icmp .ge 57, 3), (10, .iconst 0, 1), (11, .istore_n 3, 1), (12, .iload_n 3, 1), (13, .aload_n 1, 1), (14, .invokevirtual 56, 3), (17, .if_icmp .ge 41, 3), (20, .aload_n 1, 1), (21, .iload_n 3, 1), (22, .aload_n 0, 1), (23, .getfield 18, 3), (26, .iload_n 2, 1), (27, .iaload, 1), (28, .invokevirtual 78, 3), (31, .iconst 1, 1), (32, .if_icmp .ne 20, 3), (35, .aload_n 1, 1), (36, .iload_n 3, 1), (37, .aload_n 0, 1), (38, .getfield 21, 3), (41, .iload_n 2, 1), (42, .iaload, 1), (43, .invokevirtual 78, 3), (46, .iconst 1, 1), (47, .if_icmp .ne 5, 3), (50, .iconst 1, 1), (51, .ireturn, 1), (52, .iinc 3 1, 3), (55, .goto (-43), 3), (58, .iinc 2 1, 3), (61, .goto (-59), 3), (64, .iconst 0, 1), (65, .ireturn, 1)]
theorem tx_wi_breaksPair_0 : zdec prog_8_method_11_code T_wi_breaksPair_0 = true := by decide +kernel
theorem d_wi_breaksPair_0 : decode prog_8_method_11_code 0 = .ok (.iconst 0, 1) := zD (q := (0, .iconst 0, 1)) tx_wi_breaksPair_0 0 rfl
theorem d_wi_breaksPair_1 : decode prog_8_method_11_code 1 = .ok (.istore_n 2, 1) := zD (q := (1, .istore_n 2, 1)) tx_wi_breaksPair_0 1 rfl
theorem d_wi_breaksPair_2 : decode prog_8_method_11_code 2 = .ok (.iload_n 2, 1) := zD (q := (2, .iload_n 2, 1)) tx_wi_breaksPair_0 2 rfl
theorem d_wi_breaksPair_3 : decode prog_8_method_11_code 3 = .ok (.aload_n 0, 1) := zD (q := (3, .aload_n 0, 1)) tx_wi_breaksPair_0 3 rfl
theorem d_wi_breaksPair_4 : decode prog_8_method_11_code 4 = .ok (.getfield 43, 3) := zD (q := (4, .getfield 43, 3)) tx_wi_breaksPair_0 4 rfl
theorem d_wi_breaksPair_7 : decode prog_8_method_11_code 7 = .ok (.if_icmp .ge 57, 3) := zD (q := (7, .if_icmp .ge 57, 3)) tx_wi_breaksPair_0 5 rfl
theorem d_wi_breaksPair_10 : decode prog_8_method_11_code 10 = .ok (.iconst 0, 1) := zD (q := (10, .iconst 0, 1)) tx_wi_breaksPair_0 6 rfl
theorem d_wi_breaksPair_11 : decode prog_8_method_11_code 11 = .ok (.istore_n 3, 1) := zD (q := (11, .istore_n 3, 1)) tx_wi_breaksPair_0 7 rfl
theorem d_wi_breaksPair_12 : decode prog_8_method_11_code 12 = .ok (.iload_n 3, 1) := zD (q := (12, .iload_n 3, 1)) tx_wi_breaksPair_0 8 rfl
theorem d_wi_breaksPair_13 : decode prog_8_method_11_code 13 = .ok (.aload_n 1, 1) := zD (q := (13, .aload_n 1, 1)) tx_wi_breaksPair_0 9 rfl
theorem d_wi_breaksPair_14 : decode prog_8_method_11_code 14 = .ok (.invokevirtual 56, 3) := zD (q := (14, .invokevirtual 56, 3)) tx_wi_breaksPair_0 10 rfl
theorem d_wi_breaksPair_17 : decode prog_8_method_11_code 17 = .ok (.if_icmp .ge 41, 3) := zD (q := (17, .if_icmp .ge 41, 3)) tx_wi_breaksPair_0 11 rfl
theorem d_wi_breaksPair_20 : decode prog_8_method_11_code 20 = .ok (.aload_n 1, 1) := zD (q := (20, .aload_n 1, 1)) tx_wi_breaksPair_0 12 rfl
theorem d_wi_breaksPair_21 : decode prog_8_method_11_code 21 = .ok (.iload_n 3, 1) := zD (q := (21, .iload_n 3, 1)) tx_wi_breaksPair_0 13 rfl
theorem d_wi_breaksPair_22 : decode prog_8_method_11_code 22 = .ok (.aload_n 0, 1) := zD (q := (22, .aload_n 0, 1)) tx_wi_breaksPair_0 14 rfl
theorem d_wi_breaksPair_23 : decode prog_8_method_11_code 23 = .ok (.getfield 18, 3) := zD (q := (23, .getfield 18, 3)) tx_wi_breaksPair_0 15 rfl
theorem d_wi_breaksPair_26 : decode prog_8_method_11_code 26 = .ok (.iload_n 2, 1) := zD (q := (26, .iload_n 2, 1)) tx_wi_breaksPair_0 16 rfl
theorem d_wi_breaksPair_27 : decode prog_8_method_11_code 27 = .ok (.iaload, 1) := zD (q := (27, .iaload, 1)) tx_wi_breaksPair_0 17 rfl
theorem d_wi_breaksPair_28 : decode prog_8_method_11_code 28 = .ok (.invokevirtual 78, 3) := zD (q := (28, .invokevirtual 78, 3)) tx_wi_breaksPair_0 18 rfl
theorem d_wi_breaksPair_31 : decode prog_8_method_11_code 31 = .ok (.iconst 1, 1) := zD (q := (31, .iconst 1, 1)) tx_wi_breaksPair_0 19 rfl
theorem d_wi_breaksPair_32 : decode prog_8_method_11_code 32 = .ok (.if_icmp .ne 20, 3) := zD (q := (32, .if_icmp .ne 20, 3)) tx_wi_breaksPair_0 20 rfl
theorem d_wi_breaksPair_35 : decode prog_8_method_11_code 35 = .ok (.aload_n 1, 1) := zD (q := (35, .aload_n 1, 1)) tx_wi_breaksPair_0 21 rfl
theorem d_wi_breaksPair_36 : decode prog_8_method_11_code 36 = .ok (.iload_n 3, 1) := zD (q := (36, .iload_n 3, 1)) tx_wi_breaksPair_0 22 rfl
theorem d_wi_breaksPair_37 : decode prog_8_method_11_code 37 = .ok (.aload_n 0, 1) := zD (q := (37, .aload_n 0, 1)) tx_wi_breaksPair_0 23 rfl
theorem d_wi_breaksPair_38 : decode prog_8_method_11_code 38 = .ok (.getfield 21, 3) := zD (q := (38, .getfield 21, 3)) tx_wi_breaksPair_0 24 rfl
theorem d_wi_breaksPair_41 : decode prog_8_method_11_code 41 = .ok (.iload_n 2, 1) := zD (q := (41, .iload_n 2, 1)) tx_wi_breaksPair_0 25 rfl
theorem d_wi_breaksPair_42 : decode prog_8_method_11_code 42 = .ok (.iaload, 1) := zD (q := (42, .iaload, 1)) tx_wi_breaksPair_0 26 rfl
theorem d_wi_breaksPair_43 : decode prog_8_method_11_code 43 = .ok (.invokevirtual 78, 3) := zD (q := (43, .invokevirtual 78, 3)) tx_wi_breaksPair_0 27 rfl
theorem d_wi_breaksPair_46 : decode prog_8_method_11_code 46 = .ok (.iconst 1, 1) := zD (q := (46, .iconst 1, 1)) tx_wi_breaksPair_0 28 rfl
theorem d_wi_breaksPair_47 : decode prog_8_method_11_code 47 = .ok (.if_icmp .ne 5, 3) := zD (q := (47, .if_icmp .ne 5, 3)) tx_wi_breaksPair_0 29 rfl
theorem d_wi_breaksPair_50 : decode prog_8_method_11_code 50 = .ok (.iconst 1, 1) := zD (q := (50, .iconst 1, 1)) tx_wi_breaksPair_0 30 rfl
theorem d_wi_breaksPair_51 : decode prog_8_method_11_code 51 = .ok (.ireturn, 1) := zD (q := (51, .ireturn, 1)) tx_wi_breaksPair_0 31 rfl
theorem d_wi_breaksPair_52 : decode prog_8_method_11_code 52 = .ok (.iinc 3 1, 3) := zD (q := (52, .iinc 3 1, 3)) tx_wi_breaksPair_0 32 rfl
theorem d_wi_breaksPair_55 : decode prog_8_method_11_code 55 = .ok (.goto (-43), 3) := zD (q := (55, .goto (-43), 3)) tx_wi_breaksPair_0 33 rfl
theorem d_wi_breaksPair_58 : decode prog_8_method_11_code 58 = .ok (.iinc 2 1, 3) := zD (q := (58, .iinc 2 1, 3)) tx_wi_breaksPair_0 34 rfl
theorem d_wi_breaksPair_61 : decode prog_8_method_11_code 61 = .ok (.goto (-59), 3) := zD (q := (61, .goto (-59), 3)) tx_wi_breaksPair_0 35 rfl
theorem d_wi_breaksPair_64 : decode prog_8_method_11_code 64 = .ok (.iconst 0, 1) := zD (q := (64, .iconst 0, 1)) tx_wi_breaksPair_0 36 rfl
theorem d_wi_breaksPair_65 : decode prog_8_method_11_code 65 = .ok (.ireturn, 1) := zD (q := (65, .ireturn, 1)) tx_wi_breaksPair_0 37 rfl
def T_wi_breaksFixed_0 : List (Nat × Instr × Nat) := [(0, .iconst 0, 1), (1, .istore_n 2, 1), (2, .iload_n 2, 1), (3, .aload_n 0, 1), (4, .getfield 46, 3), (7, .if_icmp .ge 61, 3), (10, .aload_n 0, 1), (11, .getfield 30, 3), (14, .iload_n 2, 1), (15, .iaload, 1), (16, .istore_n 3, 1), (17, .aload_n 1, 1), (18, .iload_n 3, 1), (19, .invokevirtual 82, 3), (22, .ifCond .eq 38, 3), (25, .aload_n 1, 1), (26, .iload_n 3, 1), (27, .aload_n 0, 1), (28, .getfield 24, 3), (31, .iload_n 2, 1), (32, .iaload, 1), (33, .invokevirtual 86, 3), (36, .aload_n 0, 1), (37, .getfield 27, 3), (40, .iload_n 2, 1), (41, .iaload, 1), (42, .if_icmp .ne 18, 3), (45, .aload_n 1, 1), (46, .iload_n 3, 1), (47, .aload_n 0, 1), (48, .getfield 24, 3), (51, .iload_n 2, 1), (52, .iaload, 1), (53, .invokevirtual 78, 3), (56, .iconst 1, 1), (57, .if_icmp .eq 5, 3), (60, .iconst 1, 1), (61, .ireturn, 1), (62, .iinc 2 1, 3), (65, .goto (-63), 3), (68, .iconst 0, 1), (69, .ireturn, 1)]
theorem tx_wi_breaksFixed_0 : zdec prog_8_method_12_code T_wi_breaksFixed_0 = true := by decide +kernel
theorem d_wi_breaksFixed_0 : decode prog_8_method_12_code 0 = .ok (.iconst 0, 1) := zD (q := (0, .iconst 0, 1)) tx_wi_breaksFixed_0 0 rfl
theorem d_wi_breaksFixed_1 : decode prog_8_method_12_code 1 = .ok (.istore_n 2, 1) := zD (q := (1, .istore_n 2, 1)) tx_wi_breaksFixed_0 1 rfl
theorem d_wi_breaksFixed_2 : decode prog_8_method_12_code 2 = .ok (.iload_n 2, 1) := zD (q := (2, .iload_n 2, 1)) tx_wi_breaksFixed_0 2 rfl
theorem d_wi_breaksFixed_3 : decode prog_8_method_12_code 3 = .ok (.aload_n 0, 1) := zD (q := (3, .aload_n 0, 1)) tx_wi_breaksFixed_0 3 rfl
theorem d_wi_breaksFixed_4 : decode prog_8_method_12_code 4 = .ok (.getfield 46, 3) := zD (q := (4, .getfield 46, 3)) tx_wi_breaksFixed_0 4 rfl
theorem d_wi_breaksFixed_7 : decode prog_8_method_12_code 7 = .ok (.if_icmp .ge 61, 3) := zD (q := (7, .if_icmp .ge 61, 3)) tx_wi_breaksFixed_0 5 rfl
theorem d_wi_breaksFixed_10 : decode prog_8_method_12_code 10 = .ok (.aload_n 0, 1) := zD (q := (10, .aload_n 0, 1)) tx_wi_breaksFixed_0 6 rfl
theorem d_wi_breaksFixed_11 : decode prog_8_method_12_code 11 = .ok (.getfield 30, 3) := zD (q := (11, .getfield 30, 3)) tx_wi_breaksFixed_0 7 rfl
theorem d_wi_breaksFixed_14 : decode prog_8_method_12_code 14 = .ok (.iload_n 2, 1) := zD (q := (14, .iload_n 2, 1)) tx_wi_breaksFixed_0 8 rfl
theorem d_wi_breaksFixed_15 : decode prog_8_method_12_code 15 = .ok (.iaload, 1) := zD (q := (15, .iaload, 1)) tx_wi_breaksFixed_0 9 rfl
theorem d_wi_breaksFixed_16 : decode prog_8_method_12_code 16 = .ok (.istore_n 3, 1) := zD (q := (16, .istore_n 3, 1)) tx_wi_breaksFixed_0 10 rfl
theorem d_wi_breaksFixed_17 : decode prog_8_method_12_code 17 = .ok (.aload_n 1, 1) := zD (q := (17, .aload_n 1, 1)) tx_wi_breaksFixed_0 11 rfl
theorem d_wi_breaksFixed_18 : decode prog_8_method_12_code 18 = .ok (.iload_n 3, 1) := zD (q := (18, .iload_n 3, 1)) tx_wi_breaksFixed_0 12 rfl
theorem d_wi_breaksFixed_19 : decode prog_8_method_12_code 19 = .ok (.invokevirtual 82, 3) := zD (q := (19, .invokevirtual 82, 3)) tx_wi_breaksFixed_0 13 rfl
theorem d_wi_breaksFixed_22 : decode prog_8_method_12_code 22 = .ok (.ifCond .eq 38, 3) := zD (q := (22, .ifCond .eq 38, 3)) tx_wi_breaksFixed_0 14 rfl
theorem d_wi_breaksFixed_25 : decode prog_8_method_12_code 25 = .ok (.aload_n 1, 1) := zD (q := (25, .aload_n 1, 1)) tx_wi_breaksFixed_0 15 rfl
theorem d_wi_breaksFixed_26 : decode prog_8_method_12_code 26 = .ok (.iload_n 3, 1) := zD (q := (26, .iload_n 3, 1)) tx_wi_breaksFixed_0 16 rfl
theorem d_wi_breaksFixed_27 : decode prog_8_method_12_code 27 = .ok (.aload_n 0, 1) := zD (q := (27, .aload_n 0, 1)) tx_wi_breaksFixed_0 17 rfl
theorem d_wi_breaksFixed_28 : decode prog_8_method_12_code 28 = .ok (.getfield 24, 3) := zD (q := (28, .getfield 24, 3)) tx_wi_breaksFixed_0 18 rfl
theorem d_wi_breaksFixed_31 : decode prog_8_method_12_code 31 = .ok (.iload_n 2, 1) := zD (q := (31, .iload_n 2, 1)) tx_wi_breaksFixed_0 19 rfl
theorem d_wi_breaksFixed_32 : decode prog_8_method_12_code 32 = .ok (.iaload, 1) := zD (q := (32, .iaload, 1)) tx_wi_breaksFixed_0 20 rfl
theorem d_wi_breaksFixed_33 : decode prog_8_method_12_code 33 = .ok (.invokevirtual 86, 3) := zD (q := (33, .invokevirtual 86, 3)) tx_wi_breaksFixed_0 21 rfl
theorem d_wi_breaksFixed_36 : decode prog_8_method_12_code 36 = .ok (.aload_n 0, 1) := zD (q := (36, .aload_n 0, 1)) tx_wi_breaksFixed_0 22 rfl
theorem d_wi_breaksFixed_37 : decode prog_8_method_12_code 37 = .ok (.getfield 27, 3) := zD (q := (37, .getfield 27, 3)) tx_wi_breaksFixed_0 23 rfl
theorem d_wi_breaksFixed_40 : decode prog_8_method_12_code 40 = .ok (.iload_n 2, 1) := zD (q := (40, .iload_n 2, 1)) tx_wi_breaksFixed_0 24 rfl
theorem d_wi_breaksFixed_41 : decode prog_8_method_12_code 41 = .ok (.iaload, 1) := zD (q := (41, .iaload, 1)) tx_wi_breaksFixed_0 25 rfl
theorem d_wi_breaksFixed_42 : decode prog_8_method_12_code 42 = .ok (.if_icmp .ne 18, 3) := zD (q := (42, .if_icmp .ne 18, 3)) tx_wi_breaksFixed_0 26 rfl
theorem d_wi_breaksFixed_45 : decode prog_8_method_12_code 45 = .ok (.aload_n 1, 1) := zD (q := (45, .aload_n 1, 1)) tx_wi_breaksFixed_0 27 rfl
theorem d_wi_breaksFixed_46 : decode prog_8_method_12_code 46 = .ok (.iload_n 3, 1) := zD (q := (46, .iload_n 3, 1)) tx_wi_breaksFixed_0 28 rfl
theorem d_wi_breaksFixed_47 : decode prog_8_method_12_code 47 = .ok (.aload_n 0, 1) := zD (q := (47, .aload_n 0, 1)) tx_wi_breaksFixed_0 29 rfl
theorem d_wi_breaksFixed_48 : decode prog_8_method_12_code 48 = .ok (.getfield 24, 3) := zD (q := (48, .getfield 24, 3)) tx_wi_breaksFixed_0 30 rfl
theorem d_wi_breaksFixed_51 : decode prog_8_method_12_code 51 = .ok (.iload_n 2, 1) := zD (q := (51, .iload_n 2, 1)) tx_wi_breaksFixed_0 31 rfl
theorem d_wi_breaksFixed_52 : decode prog_8_method_12_code 52 = .ok (.iaload, 1) := zD (q := (52, .iaload, 1)) tx_wi_breaksFixed_0 32 rfl
theorem d_wi_breaksFixed_53 : decode prog_8_method_12_code 53 = .ok (.invokevirtual 78, 3) := zD (q := (53, .invokevirtual 78, 3)) tx_wi_breaksFixed_0 33 rfl
theorem d_wi_breaksFixed_56 : decode prog_8_method_12_code 56 = .ok (.iconst 1, 1) := zD (q := (56, .iconst 1, 1)) tx_wi_breaksFixed_0 34 rfl
theorem d_wi_breaksFixed_57 : decode prog_8_method_12_code 57 = .ok (.if_icmp .eq 5, 3) := zD (q := (57, .if_icmp .eq 5, 3)) tx_wi_breaksFixed_0 35 rfl
theorem d_wi_breaksFixed_60 : decode prog_8_method_12_code 60 = .ok (.iconst 1, 1) := zD (q := (60, .iconst 1, 1)) tx_wi_breaksFixed_0 36 rfl
theorem d_wi_breaksFixed_61 : decode prog_8_method_12_code 61 = .ok (.ireturn, 1) := zD (q := (61, .ireturn, 1)) tx_wi_breaksFixed_0 37 rfl
theorem d_wi_breaksFixed_62 : decode prog_8_method_12_code 62 = .ok (.iinc 2 1, 3) := zD (q := (62, .iinc 2 1, 3)) tx_wi_breaksFixed_0 38 rfl
theorem d_wi_breaksFixed_65 : decode prog_8_method_12_code 65 = .ok (.goto (-63), 3) := zD (q := (65, .goto (-63), 3)) tx_wi_breaksFixed_0 39 rfl
theorem d_wi_breaksFixed_68 : decode prog_8_method_12_code 68 = .ok (.iconst 0, 1) := zD (q := (68, .iconst 0, 1)) tx_wi_breaksFixed_0 40 rfl
theorem d_wi_breaksFixed_69 : decode prog_8_method_12_code 69 = .ok (.ireturn, 1) := zD (q := (69, .ireturn, 1)) tx_wi_breaksFixed_0 41 rfl
def T_wi_breaksCap_0 : List (Nat × Instr × Nat) := [(0, .aload_n 0, 1), (1, .getfield 49, 3), (4, .ifCond .ne 5, 3), (7, .iconst 0, 1), (8, .ireturn, 1), (9, .iconst 0, 1), (10, .istore_n 2, 1), (11, .iload_n 2, 1), (12, .aload_n 1, 1), (13, .invokevirtual 75, 3), (16, .if_icmp .ge 40, 3), (19, .iconst 0, 1), (20, .istore_n 3, 1), (21, .iload_n 3, 1), (22, .aload_n 1, 1), (23, .invokevirtual 56, 3), (26, .if_icmp .ge 24, 3), (29, .aload_n 1, 1), (30, .iload_n 3, 1), (31, .iload_n 2, 1), (32, .invokevirtual 89, 3), (35, .aload_n 0, 1), (36, .getfield 49, 3), (39, .if_icmp .le 5, 3), (42, .iconst 1, 1), (43, .ireturn, 1), (44, .iinc 3 1, 3), (47, .goto (-26), 3), (50, .iinc 2 1, 3), (53, .goto (-42), 3), (56, .iconst 0, 1), (57, .ireturn, 1)]
theorem tx_wi_breaksCap_0 : zdec prog_8_method_13_code T_wi_breaksCap_0 = true := by decide +kernel
theorem d_wi_breaksCap_0 : decode prog_8_method_13_code 0 = .ok (.aload_n 0, 1) := zD (q := (0, .aload_n 0, 1)) tx_wi_breaksCap_0 0 rfl
theorem d_wi_breaksCap_1 : decode prog_8_method_13_code 1 = .ok (.getfield 49, 3) := zD (q := (1, .getfield 49, 3)) tx_wi_breaksCap_0 1 rfl
theorem d_wi_breaksCap_4 : decode prog_8_method_13_code 4 = .ok (.ifCond .ne 5, 3) := zD (q := (4, .ifCond .ne 5, 3)) tx_wi_breaksCap_0 2 rfl
theorem d_wi_breaksCap_7 : decode prog_8_method_13_code 7 = .ok (.iconst 0, 1) := zD (q := (7, .iconst 0, 1)) tx_wi_breaksCap_0 3 rfl
theorem d_wi_breaksCap_8 : decode prog_8_method_13_code 8 = .ok (.ireturn, 1) := zD (q := (8, .ireturn, 1)) tx_wi_breaksCap_0 4 rfl
theorem d_wi_breaksCap_9 : decode prog_8_method_13_code 9 = .ok (.iconst 0, 1) := zD (q := (9, .iconst 0, 1)) tx_wi_breaksCap_0 5 rfl
theorem d_wi_breaksCap_10 : decode prog_8_method_13_code 10 = .ok (.istore_n 2, 1) := zD (q := (10, .istore_n 2, 1)) tx_wi_breaksCap_0 6 rfl
theorem d_wi_breaksCap_11 : decode prog_8_method_13_code 11 = .ok (.iload_n 2, 1) := zD (q := (11, .iload_n 2, 1)) tx_wi_breaksCap_0 7 rfl
theorem d_wi_breaksCap_12 : decode prog_8_method_13_code 12 = .ok (.aload_n 1, 1) := zD (q := (12, .aload_n 1, 1)) tx_wi_breaksCap_0 8 rfl
theorem d_wi_breaksCap_13 : decode prog_8_method_13_code 13 = .ok (.invokevirtual 75, 3) := zD (q := (13, .invokevirtual 75, 3)) tx_wi_breaksCap_0 9 rfl
theorem d_wi_breaksCap_16 : decode prog_8_method_13_code 16 = .ok (.if_icmp .ge 40, 3) := zD (q := (16, .if_icmp .ge 40, 3)) tx_wi_breaksCap_0 10 rfl
theorem d_wi_breaksCap_19 : decode prog_8_method_13_code 19 = .ok (.iconst 0, 1) := zD (q := (19, .iconst 0, 1)) tx_wi_breaksCap_0 11 rfl
theorem d_wi_breaksCap_20 : decode prog_8_method_13_code 20 = .ok (.istore_n 3, 1) := zD (q := (20, .istore_n 3, 1)) tx_wi_breaksCap_0 12 rfl
theorem d_wi_breaksCap_21 : decode prog_8_method_13_code 21 = .ok (.iload_n 3, 1) := zD (q := (21, .iload_n 3, 1)) tx_wi_breaksCap_0 13 rfl
theorem d_wi_breaksCap_22 : decode prog_8_method_13_code 22 = .ok (.aload_n 1, 1) := zD (q := (22, .aload_n 1, 1)) tx_wi_breaksCap_0 14 rfl
theorem d_wi_breaksCap_23 : decode prog_8_method_13_code 23 = .ok (.invokevirtual 56, 3) := zD (q := (23, .invokevirtual 56, 3)) tx_wi_breaksCap_0 15 rfl
theorem d_wi_breaksCap_26 : decode prog_8_method_13_code 26 = .ok (.if_icmp .ge 24, 3) := zD (q := (26, .if_icmp .ge 24, 3)) tx_wi_breaksCap_0 16 rfl
theorem d_wi_breaksCap_29 : decode prog_8_method_13_code 29 = .ok (.aload_n 1, 1) := zD (q := (29, .aload_n 1, 1)) tx_wi_breaksCap_0 17 rfl
theorem d_wi_breaksCap_30 : decode prog_8_method_13_code 30 = .ok (.iload_n 3, 1) := zD (q := (30, .iload_n 3, 1)) tx_wi_breaksCap_0 18 rfl
theorem d_wi_breaksCap_31 : decode prog_8_method_13_code 31 = .ok (.iload_n 2, 1) := zD (q := (31, .iload_n 2, 1)) tx_wi_breaksCap_0 19 rfl
theorem d_wi_breaksCap_32 : decode prog_8_method_13_code 32 = .ok (.invokevirtual 89, 3) := zD (q := (32, .invokevirtual 89, 3)) tx_wi_breaksCap_0 20 rfl
theorem d_wi_breaksCap_35 : decode prog_8_method_13_code 35 = .ok (.aload_n 0, 1) := zD (q := (35, .aload_n 0, 1)) tx_wi_breaksCap_0 21 rfl
theorem d_wi_breaksCap_36 : decode prog_8_method_13_code 36 = .ok (.getfield 49, 3) := zD (q := (36, .getfield 49, 3)) tx_wi_breaksCap_0 22 rfl
theorem d_wi_breaksCap_39 : decode prog_8_method_13_code 39 = .ok (.if_icmp .le 5, 3) := zD (q := (39, .if_icmp .le 5, 3)) tx_wi_breaksCap_0 23 rfl
theorem d_wi_breaksCap_42 : decode prog_8_method_13_code 42 = .ok (.iconst 1, 1) := zD (q := (42, .iconst 1, 1)) tx_wi_breaksCap_0 24 rfl
theorem d_wi_breaksCap_43 : decode prog_8_method_13_code 43 = .ok (.ireturn, 1) := zD (q := (43, .ireturn, 1)) tx_wi_breaksCap_0 25 rfl
theorem d_wi_breaksCap_44 : decode prog_8_method_13_code 44 = .ok (.iinc 3 1, 3) := zD (q := (44, .iinc 3 1, 3)) tx_wi_breaksCap_0 26 rfl
theorem d_wi_breaksCap_47 : decode prog_8_method_13_code 47 = .ok (.goto (-26), 3) := zD (q := (47, .goto (-26), 3)) tx_wi_breaksCap_0 27 rfl
theorem d_wi_breaksCap_50 : decode prog_8_method_13_code 50 = .ok (.iinc 2 1, 3) := zD (q := (50, .iinc 2 1, 3)) tx_wi_breaksCap_0 28 rfl
theorem d_wi_breaksCap_53 : decode prog_8_method_13_code 53 = .ok (.goto (-42), 3) := zD (q := (53, .goto (-42), 3)) tx_wi_breaksCap_0 29 rfl
theorem d_wi_breaksCap_56 : decode prog_8_method_13_code 56 = .ok (.iconst 0, 1) := zD (q := (56, .iconst 0, 1)) tx_wi_breaksCap_0 30 rfl
theorem d_wi_breaksCap_57 : decode prog_8_method_13_code 57 = .ok (.ireturn, 1) := zD (q := (57, .ireturn, 1)) tx_wi_breaksCap_0 31 rfl
def T_wi_forget_0 : List (Nat × Instr × Nat) := [(0, .aload_n 0, 1), (1, .getfield 9, 3), (4, .iconst 0, 1), (5, .invokestatic 33, 3), (8, .aload_n 0, 1), (9, .getfield 15, 3), (12, .iconst 0, 1), (13, .invokestatic 33, 3), (16, .aload_n 0, 1), (17, .iconst 0, 1), (18, .putfield 39, 3), (21, .aload_n 0, 1), (22, .iconst 0, 1), (23, .putfield 43, 3), (26, .aload_n 0, 1), (27, .iconst 0, 1), (28, .putfield 46, 3), (31, .aload_n 0, 1), (32, .iconst 0, 1), (33, .putfield 49, 3), (36, .return_, 1)]
theorem tx_wi_forget_0 : zdec prog_8_method_2_code T_wi_forget_0 = true := by decide +kernel
theorem d_wi_forget_0 : decode prog_8_method_2_code 0 = .ok (.aload_n 0, 1) := zD (q := (0, .aload_n 0, 1)) tx_wi_forget_0 0 rfl
theorem d_wi_forget_1 : decode prog_8_method_2_code 1 = .ok (.getfield 9, 3) := zD (q := (1, .getfield 9, 3)) tx_wi_forget_0 1 rfl
theorem d_wi_forget_4 : decode prog_8_method_2_code 4 = .ok (.iconst 0, 1) := zD (q := (4, .iconst 0, 1)) tx_wi_forget_0 2 rfl
theorem d_wi_forget_5 : decode prog_8_method_2_code 5 = .ok (.invokestatic 33, 3) := zD (q := (5, .invokestatic 33, 3)) tx_wi_forget_0 3 rfl
theorem d_wi_forget_8 : decode prog_8_method_2_code 8 = .ok (.aload_n 0, 1) := zD (q := (8, .aload_n 0, 1)) tx_wi_forget_0 4 rfl
theorem d_wi_forget_9 : decode prog_8_method_2_code 9 = .ok (.getfield 15, 3) := zD (q := (9, .getfield 15, 3)) tx_wi_forget_0 5 rfl
theorem d_wi_forget_12 : decode prog_8_method_2_code 12 = .ok (.iconst 0, 1) := zD (q := (12, .iconst 0, 1)) tx_wi_forget_0 6 rfl
theorem d_wi_forget_13 : decode prog_8_method_2_code 13 = .ok (.invokestatic 33, 3) := zD (q := (13, .invokestatic 33, 3)) tx_wi_forget_0 7 rfl
theorem d_wi_forget_16 : decode prog_8_method_2_code 16 = .ok (.aload_n 0, 1) := zD (q := (16, .aload_n 0, 1)) tx_wi_forget_0 8 rfl
theorem d_wi_forget_17 : decode prog_8_method_2_code 17 = .ok (.iconst 0, 1) := zD (q := (17, .iconst 0, 1)) tx_wi_forget_0 9 rfl
theorem d_wi_forget_18 : decode prog_8_method_2_code 18 = .ok (.putfield 39, 3) := zD (q := (18, .putfield 39, 3)) tx_wi_forget_0 10 rfl
theorem d_wi_forget_21 : decode prog_8_method_2_code 21 = .ok (.aload_n 0, 1) := zD (q := (21, .aload_n 0, 1)) tx_wi_forget_0 11 rfl
theorem d_wi_forget_22 : decode prog_8_method_2_code 22 = .ok (.iconst 0, 1) := zD (q := (22, .iconst 0, 1)) tx_wi_forget_0 12 rfl
theorem d_wi_forget_23 : decode prog_8_method_2_code 23 = .ok (.putfield 43, 3) := zD (q := (23, .putfield 43, 3)) tx_wi_forget_0 13 rfl
theorem d_wi_forget_26 : decode prog_8_method_2_code 26 = .ok (.aload_n 0, 1) := zD (q := (26, .aload_n 0, 1)) tx_wi_forget_0 14 rfl
theorem d_wi_forget_27 : decode prog_8_method_2_code 27 = .ok (.iconst 0, 1) := zD (q := (27, .iconst 0, 1)) tx_wi_forget_0 15 rfl
theorem d_wi_forget_28 : decode prog_8_method_2_code 28 = .ok (.putfield 46, 3) := zD (q := (28, .putfield 46, 3)) tx_wi_forget_0 16 rfl
theorem d_wi_forget_31 : decode prog_8_method_2_code 31 = .ok (.aload_n 0, 1) := zD (q := (31, .aload_n 0, 1)) tx_wi_forget_0 17 rfl
theorem d_wi_forget_32 : decode prog_8_method_2_code 32 = .ok (.iconst 0, 1) := zD (q := (32, .iconst 0, 1)) tx_wi_forget_0 18 rfl
theorem d_wi_forget_33 : decode prog_8_method_2_code 33 = .ok (.putfield 49, 3) := zD (q := (33, .putfield 49, 3)) tx_wi_forget_0 19 rfl
theorem d_wi_forget_36 : decode prog_8_method_2_code 36 = .ok (.return_, 1) := zD (q := (36, .return_, 1)) tx_wi_forget_0 20 rfl
def T_wi_addBan_0 : List (Nat × Instr × Nat) := [(0, .iload_n 3, 1), (1, .ifCond .ne 10, 3), (4, .aload_n 0, 1), (5, .getfield 9, 3), (8, .goto 7, 3), (11, .aload_n 0, 1), (12, .getfield 15, 3), (15, .astore 4, 2), (17, .aload 4, 2), (19, .iload_n 2, 1), (20, .iaload, 1), (21, .iload_n 1, 1), (22, .invokestatic 52, 3), (25, .ifCond .ne 23, 3), (28, .aload 4, 2), (30, .iload_n 2, 1), (31, .dup2, 1), (32, .iaload, 1), (33, .iconst 1, 1), (34, .iload_n 1, 1), (35, .ishl, 1), (36, .ior, 1), (37, .iastore, 1), (38, .aload_n 0, 1), (39, .dup, 1), (40, .getfield 39, 3), (43, .iconst 1, 1), (44, .iadd, 1), (45, .putfield 39, 3), (48, .aload_n 0, 1), (49, .getfield 39, 3), (52, .ireturn, 1)]
theorem tx_wi_addBan_0 : zdec prog_8_method_3_code T_wi_addBan_0 = true := by decide +kernel
theorem d_wi_addBan_0 : decode prog_8_method_3_code 0 = .ok (.iload_n 3, 1) := zD (q := (0, .iload_n 3, 1)) tx_wi_addBan_0 0 rfl
theorem d_wi_addBan_1 : decode prog_8_method_3_code 1 = .ok (.ifCond .ne 10, 3) := zD (q := (1, .ifCond .ne 10, 3)) tx_wi_addBan_0 1 rfl
theorem d_wi_addBan_4 : decode prog_8_method_3_code 4 = .ok (.aload_n 0, 1) := zD (q := (4, .aload_n 0, 1)) tx_wi_addBan_0 2 rfl
theorem d_wi_addBan_5 : decode prog_8_method_3_code 5 = .ok (.getfield 9, 3) := zD (q := (5, .getfield 9, 3)) tx_wi_addBan_0 3 rfl
theorem d_wi_addBan_8 : decode prog_8_method_3_code 8 = .ok (.goto 7, 3) := zD (q := (8, .goto 7, 3)) tx_wi_addBan_0 4 rfl
theorem d_wi_addBan_11 : decode prog_8_method_3_code 11 = .ok (.aload_n 0, 1) := zD (q := (11, .aload_n 0, 1)) tx_wi_addBan_0 5 rfl
theorem d_wi_addBan_12 : decode prog_8_method_3_code 12 = .ok (.getfield 15, 3) := zD (q := (12, .getfield 15, 3)) tx_wi_addBan_0 6 rfl
theorem d_wi_addBan_15 : decode prog_8_method_3_code 15 = .ok (.astore 4, 2) := zD (q := (15, .astore 4, 2)) tx_wi_addBan_0 7 rfl
theorem d_wi_addBan_17 : decode prog_8_method_3_code 17 = .ok (.aload 4, 2) := zD (q := (17, .aload 4, 2)) tx_wi_addBan_0 8 rfl
theorem d_wi_addBan_19 : decode prog_8_method_3_code 19 = .ok (.iload_n 2, 1) := zD (q := (19, .iload_n 2, 1)) tx_wi_addBan_0 9 rfl
theorem d_wi_addBan_20 : decode prog_8_method_3_code 20 = .ok (.iaload, 1) := zD (q := (20, .iaload, 1)) tx_wi_addBan_0 10 rfl
theorem d_wi_addBan_21 : decode prog_8_method_3_code 21 = .ok (.iload_n 1, 1) := zD (q := (21, .iload_n 1, 1)) tx_wi_addBan_0 11 rfl
theorem d_wi_addBan_22 : decode prog_8_method_3_code 22 = .ok (.invokestatic 52, 3) := zD (q := (22, .invokestatic 52, 3)) tx_wi_addBan_0 12 rfl
theorem d_wi_addBan_25 : decode prog_8_method_3_code 25 = .ok (.ifCond .ne 23, 3) := zD (q := (25, .ifCond .ne 23, 3)) tx_wi_addBan_0 13 rfl
theorem d_wi_addBan_28 : decode prog_8_method_3_code 28 = .ok (.aload 4, 2) := zD (q := (28, .aload 4, 2)) tx_wi_addBan_0 14 rfl
theorem d_wi_addBan_30 : decode prog_8_method_3_code 30 = .ok (.iload_n 2, 1) := zD (q := (30, .iload_n 2, 1)) tx_wi_addBan_0 15 rfl
theorem d_wi_addBan_31 : decode prog_8_method_3_code 31 = .ok (.dup2, 1) := zD (q := (31, .dup2, 1)) tx_wi_addBan_0 16 rfl
theorem d_wi_addBan_32 : decode prog_8_method_3_code 32 = .ok (.iaload, 1) := zD (q := (32, .iaload, 1)) tx_wi_addBan_0 17 rfl
theorem d_wi_addBan_33 : decode prog_8_method_3_code 33 = .ok (.iconst 1, 1) := zD (q := (33, .iconst 1, 1)) tx_wi_addBan_0 18 rfl
theorem d_wi_addBan_34 : decode prog_8_method_3_code 34 = .ok (.iload_n 1, 1) := zD (q := (34, .iload_n 1, 1)) tx_wi_addBan_0 19 rfl
theorem d_wi_addBan_35 : decode prog_8_method_3_code 35 = .ok (.ishl, 1) := zD (q := (35, .ishl, 1)) tx_wi_addBan_0 20 rfl
theorem d_wi_addBan_36 : decode prog_8_method_3_code 36 = .ok (.ior, 1) := zD (q := (36, .ior, 1)) tx_wi_addBan_0 21 rfl
theorem d_wi_addBan_37 : decode prog_8_method_3_code 37 = .ok (.iastore, 1) := zD (q := (37, .iastore, 1)) tx_wi_addBan_0 22 rfl
theorem d_wi_addBan_38 : decode prog_8_method_3_code 38 = .ok (.aload_n 0, 1) := zD (q := (38, .aload_n 0, 1)) tx_wi_addBan_0 23 rfl
theorem d_wi_addBan_39 : decode prog_8_method_3_code 39 = .ok (.dup, 1) := zD (q := (39, .dup, 1)) tx_wi_addBan_0 24 rfl
theorem d_wi_addBan_40 : decode prog_8_method_3_code 40 = .ok (.getfield 39, 3) := zD (q := (40, .getfield 39, 3)) tx_wi_addBan_0 25 rfl
theorem d_wi_addBan_43 : decode prog_8_method_3_code 43 = .ok (.iconst 1, 1) := zD (q := (43, .iconst 1, 1)) tx_wi_addBan_0 26 rfl
theorem d_wi_addBan_44 : decode prog_8_method_3_code 44 = .ok (.iadd, 1) := zD (q := (44, .iadd, 1)) tx_wi_addBan_0 27 rfl
theorem d_wi_addBan_45 : decode prog_8_method_3_code 45 = .ok (.putfield 39, 3) := zD (q := (45, .putfield 39, 3)) tx_wi_addBan_0 28 rfl
theorem d_wi_addBan_48 : decode prog_8_method_3_code 48 = .ok (.aload_n 0, 1) := zD (q := (48, .aload_n 0, 1)) tx_wi_addBan_0 29 rfl
theorem d_wi_addBan_49 : decode prog_8_method_3_code 49 = .ok (.getfield 39, 3) := zD (q := (49, .getfield 39, 3)) tx_wi_addBan_0 30 rfl
theorem d_wi_addBan_52 : decode prog_8_method_3_code 52 = .ok (.ireturn, 1) := zD (q := (52, .ireturn, 1)) tx_wi_addBan_0 31 rfl
def T_wi_pairsAreFull_0 : List (Nat × Instr × Nat) := [(0, .aload_n 0, 1), (1, .getfield 43, 3), (4, .bipush 6, 2), (6, .if_icmp .lt 7, 3), (9, .iconst 1, 1), (10, .goto 4, 3), (13, .iconst 0, 1), (14, .ireturn, 1)]
theorem tx_wi_pairsAreFull_0 : zdec prog_8_method_4_code T_wi_pairsAreFull_0 = true := by decide +kernel
theorem d_wi_pairsAreFull_0 : decode prog_8_method_4_code 0 = .ok (.aload_n 0, 1) := zD (q := (0, .aload_n 0, 1)) tx_wi_pairsAreFull_0 0 rfl
theorem d_wi_pairsAreFull_1 : decode prog_8_method_4_code 1 = .ok (.getfield 43, 3) := zD (q := (1, .getfield 43, 3)) tx_wi_pairsAreFull_0 1 rfl
theorem d_wi_pairsAreFull_4 : decode prog_8_method_4_code 4 = .ok (.bipush 6, 2) := zD (q := (4, .bipush 6, 2)) tx_wi_pairsAreFull_0 2 rfl
theorem d_wi_pairsAreFull_6 : decode prog_8_method_4_code 6 = .ok (.if_icmp .lt 7, 3) := zD (q := (6, .if_icmp .lt 7, 3)) tx_wi_pairsAreFull_0 3 rfl
theorem d_wi_pairsAreFull_9 : decode prog_8_method_4_code 9 = .ok (.iconst 1, 1) := zD (q := (9, .iconst 1, 1)) tx_wi_pairsAreFull_0 4 rfl
theorem d_wi_pairsAreFull_10 : decode prog_8_method_4_code 10 = .ok (.goto 4, 3) := zD (q := (10, .goto 4, 3)) tx_wi_pairsAreFull_0 5 rfl
theorem d_wi_pairsAreFull_13 : decode prog_8_method_4_code 13 = .ok (.iconst 0, 1) := zD (q := (13, .iconst 0, 1)) tx_wi_pairsAreFull_0 6 rfl
theorem d_wi_pairsAreFull_14 : decode prog_8_method_4_code 14 = .ok (.ireturn, 1) := zD (q := (14, .ireturn, 1)) tx_wi_pairsAreFull_0 7 rfl
def T_wi_addPair_0 : List (Nat × Instr × Nat) := [(0, .aload_n 0, 1), (1, .getfield 18, 3), (4, .aload_n 0, 1), (5, .getfield 43, 3), (8, .iload_n 1, 1), (9, .iastore, 1), (10, .aload_n 0, 1), (11, .getfield 21, 3), (14, .aload_n 0, 1), (15, .getfield 43, 3), (18, .iload_n 2, 1), (19, .iastore, 1), (20, .aload_n 0, 1), (21, .dup, 1), (22, .getfield 43, 3), (25, .iconst 1, 1), (26, .iadd, 1), (27, .putfield 43, 3), (30, .aload_n 0, 1), (31, .getfield 43, 3), (34, .ireturn, 1)]
theorem tx_wi_addPair_0 : zdec prog_8_method_5_code T_wi_addPair_0 = true := by decide +kernel
theorem d_wi_addPair_0 : decode prog_8_method_5_code 0 = .ok (.aload_n 0, 1) := zD (q := (0, .aload_n 0, 1)) tx_wi_addPair_0 0 rfl
theorem d_wi_addPair_1 : decode prog_8_method_5_code 1 = .ok (.getfield 18, 3) := zD (q := (1, .getfield 18, 3)) tx_wi_addPair_0 1 rfl
theorem d_wi_addPair_4 : decode prog_8_method_5_code 4 = .ok (.aload_n 0, 1) := zD (q := (4, .aload_n 0, 1)) tx_wi_addPair_0 2 rfl
theorem d_wi_addPair_5 : decode prog_8_method_5_code 5 = .ok (.getfield 43, 3) := zD (q := (5, .getfield 43, 3)) tx_wi_addPair_0 3 rfl
theorem d_wi_addPair_8 : decode prog_8_method_5_code 8 = .ok (.iload_n 1, 1) := zD (q := (8, .iload_n 1, 1)) tx_wi_addPair_0 4 rfl
theorem d_wi_addPair_9 : decode prog_8_method_5_code 9 = .ok (.iastore, 1) := zD (q := (9, .iastore, 1)) tx_wi_addPair_0 5 rfl
theorem d_wi_addPair_10 : decode prog_8_method_5_code 10 = .ok (.aload_n 0, 1) := zD (q := (10, .aload_n 0, 1)) tx_wi_addPair_0 6 rfl
theorem d_wi_addPair_11 : decode prog_8_method_5_code 11 = .ok (.getfield 21, 3) := zD (q := (11, .getfield 21, 3)) tx_wi_addPair_0 7 rfl
theorem d_wi_addPair_14 : decode prog_8_method_5_code 14 = .ok (.aload_n 0, 1) := zD (q := (14, .aload_n 0, 1)) tx_wi_addPair_0 8 rfl
theorem d_wi_addPair_15 : decode prog_8_method_5_code 15 = .ok (.getfield 43, 3) := zD (q := (15, .getfield 43, 3)) tx_wi_addPair_0 9 rfl
theorem d_wi_addPair_18 : decode prog_8_method_5_code 18 = .ok (.iload_n 2, 1) := zD (q := (18, .iload_n 2, 1)) tx_wi_addPair_0 10 rfl
theorem d_wi_addPair_19 : decode prog_8_method_5_code 19 = .ok (.iastore, 1) := zD (q := (19, .iastore, 1)) tx_wi_addPair_0 11 rfl
theorem d_wi_addPair_20 : decode prog_8_method_5_code 20 = .ok (.aload_n 0, 1) := zD (q := (20, .aload_n 0, 1)) tx_wi_addPair_0 12 rfl
theorem d_wi_addPair_21 : decode prog_8_method_5_code 21 = .ok (.dup, 1) := zD (q := (21, .dup, 1)) tx_wi_addPair_0 13 rfl
theorem d_wi_addPair_22 : decode prog_8_method_5_code 22 = .ok (.getfield 43, 3) := zD (q := (22, .getfield 43, 3)) tx_wi_addPair_0 14 rfl
theorem d_wi_addPair_25 : decode prog_8_method_5_code 25 = .ok (.iconst 1, 1) := zD (q := (25, .iconst 1, 1)) tx_wi_addPair_0 15 rfl
theorem d_wi_addPair_26 : decode prog_8_method_5_code 26 = .ok (.iadd, 1) := zD (q := (26, .iadd, 1)) tx_wi_addPair_0 16 rfl
theorem d_wi_addPair_27 : decode prog_8_method_5_code 27 = .ok (.putfield 43, 3) := zD (q := (27, .putfield 43, 3)) tx_wi_addPair_0 17 rfl
theorem d_wi_addPair_30 : decode prog_8_method_5_code 30 = .ok (.aload_n 0, 1) := zD (q := (30, .aload_n 0, 1)) tx_wi_addPair_0 18 rfl
theorem d_wi_addPair_31 : decode prog_8_method_5_code 31 = .ok (.getfield 43, 3) := zD (q := (31, .getfield 43, 3)) tx_wi_addPair_0 19 rfl
theorem d_wi_addPair_34 : decode prog_8_method_5_code 34 = .ok (.ireturn, 1) := zD (q := (34, .ireturn, 1)) tx_wi_addPair_0 20 rfl
def T_wi_fixedAreFull_0 : List (Nat × Instr × Nat) := [(0, .aload_n 0, 1), (1, .getfield 46, 3), (4, .bipush 6, 2), (6, .if_icmp .lt 7, 3), (9, .iconst 1, 1), (10, .goto 4, 3), (13, .iconst 0, 1), (14, .ireturn, 1)]
theorem tx_wi_fixedAreFull_0 : zdec prog_8_method_6_code T_wi_fixedAreFull_0 = true := by decide +kernel
theorem d_wi_fixedAreFull_0 : decode prog_8_method_6_code 0 = .ok (.aload_n 0, 1) := zD (q := (0, .aload_n 0, 1)) tx_wi_fixedAreFull_0 0 rfl
theorem d_wi_fixedAreFull_1 : decode prog_8_method_6_code 1 = .ok (.getfield 46, 3) := zD (q := (1, .getfield 46, 3)) tx_wi_fixedAreFull_0 1 rfl
theorem d_wi_fixedAreFull_4 : decode prog_8_method_6_code 4 = .ok (.bipush 6, 2) := zD (q := (4, .bipush 6, 2)) tx_wi_fixedAreFull_0 2 rfl
theorem d_wi_fixedAreFull_6 : decode prog_8_method_6_code 6 = .ok (.if_icmp .lt 7, 3) := zD (q := (6, .if_icmp .lt 7, 3)) tx_wi_fixedAreFull_0 3 rfl
theorem d_wi_fixedAreFull_9 : decode prog_8_method_6_code 9 = .ok (.iconst 1, 1) := zD (q := (9, .iconst 1, 1)) tx_wi_fixedAreFull_0 4 rfl
theorem d_wi_fixedAreFull_10 : decode prog_8_method_6_code 10 = .ok (.goto 4, 3) := zD (q := (10, .goto 4, 3)) tx_wi_fixedAreFull_0 5 rfl
theorem d_wi_fixedAreFull_13 : decode prog_8_method_6_code 13 = .ok (.iconst 0, 1) := zD (q := (13, .iconst 0, 1)) tx_wi_fixedAreFull_0 6 rfl
theorem d_wi_fixedAreFull_14 : decode prog_8_method_6_code 14 = .ok (.ireturn, 1) := zD (q := (14, .ireturn, 1)) tx_wi_fixedAreFull_0 7 rfl
def T_wi_addFixed_0 : List (Nat × Instr × Nat) := [(0, .aload_n 0, 1), (1, .getfield 24, 3), (4, .aload_n 0, 1), (5, .getfield 46, 3), (8, .iload_n 1, 1), (9, .iastore, 1), (10, .aload_n 0, 1), (11, .getfield 27, 3), (14, .aload_n 0, 1), (15, .getfield 46, 3), (18, .iload_n 2, 1), (19, .iastore, 1), (20, .aload_n 0, 1), (21, .getfield 30, 3), (24, .aload_n 0, 1), (25, .getfield 46, 3), (28, .iload_n 3, 1), (29, .iastore, 1), (30, .aload_n 0, 1), (31, .dup, 1), (32, .getfield 46, 3), (35, .iconst 1, 1), (36, .iadd, 1), (37, .putfield 46, 3), (40, .aload_n 0, 1), (41, .getfield 46, 3), (44, .ireturn, 1)]
theorem tx_wi_addFixed_0 : zdec prog_8_method_7_code T_wi_addFixed_0 = true := by decide +kernel
theorem d_wi_addFixed_0 : decode prog_8_method_7_code 0 = .ok (.aload_n 0, 1) := zD (q := (0, .aload_n 0, 1)) tx_wi_addFixed_0 0 rfl
theorem d_wi_addFixed_1 : decode prog_8_method_7_code 1 = .ok (.getfield 24, 3) := zD (q := (1, .getfield 24, 3)) tx_wi_addFixed_0 1 rfl
theorem d_wi_addFixed_4 : decode prog_8_method_7_code 4 = .ok (.aload_n 0, 1) := zD (q := (4, .aload_n 0, 1)) tx_wi_addFixed_0 2 rfl
theorem d_wi_addFixed_5 : decode prog_8_method_7_code 5 = .ok (.getfield 46, 3) := zD (q := (5, .getfield 46, 3)) tx_wi_addFixed_0 3 rfl
theorem d_wi_addFixed_8 : decode prog_8_method_7_code 8 = .ok (.iload_n 1, 1) := zD (q := (8, .iload_n 1, 1)) tx_wi_addFixed_0 4 rfl
theorem d_wi_addFixed_9 : decode prog_8_method_7_code 9 = .ok (.iastore, 1) := zD (q := (9, .iastore, 1)) tx_wi_addFixed_0 5 rfl
theorem d_wi_addFixed_10 : decode prog_8_method_7_code 10 = .ok (.aload_n 0, 1) := zD (q := (10, .aload_n 0, 1)) tx_wi_addFixed_0 6 rfl
theorem d_wi_addFixed_11 : decode prog_8_method_7_code 11 = .ok (.getfield 27, 3) := zD (q := (11, .getfield 27, 3)) tx_wi_addFixed_0 7 rfl
theorem d_wi_addFixed_14 : decode prog_8_method_7_code 14 = .ok (.aload_n 0, 1) := zD (q := (14, .aload_n 0, 1)) tx_wi_addFixed_0 8 rfl
theorem d_wi_addFixed_15 : decode prog_8_method_7_code 15 = .ok (.getfield 46, 3) := zD (q := (15, .getfield 46, 3)) tx_wi_addFixed_0 9 rfl
theorem d_wi_addFixed_18 : decode prog_8_method_7_code 18 = .ok (.iload_n 2, 1) := zD (q := (18, .iload_n 2, 1)) tx_wi_addFixed_0 10 rfl
theorem d_wi_addFixed_19 : decode prog_8_method_7_code 19 = .ok (.iastore, 1) := zD (q := (19, .iastore, 1)) tx_wi_addFixed_0 11 rfl
theorem d_wi_addFixed_20 : decode prog_8_method_7_code 20 = .ok (.aload_n 0, 1) := zD (q := (20, .aload_n 0, 1)) tx_wi_addFixed_0 12 rfl
theorem d_wi_addFixed_21 : decode prog_8_method_7_code 21 = .ok (.getfield 30, 3) := zD (q := (21, .getfield 30, 3)) tx_wi_addFixed_0 13 rfl
theorem d_wi_addFixed_24 : decode prog_8_method_7_code 24 = .ok (.aload_n 0, 1) := zD (q := (24, .aload_n 0, 1)) tx_wi_addFixed_0 14 rfl
theorem d_wi_addFixed_25 : decode prog_8_method_7_code 25 = .ok (.getfield 46, 3) := zD (q := (25, .getfield 46, 3)) tx_wi_addFixed_0 15 rfl
theorem d_wi_addFixed_28 : decode prog_8_method_7_code 28 = .ok (.iload_n 3, 1) := zD (q := (28, .iload_n 3, 1)) tx_wi_addFixed_0 16 rfl
theorem d_wi_addFixed_29 : decode prog_8_method_7_code 29 = .ok (.iastore, 1) := zD (q := (29, .iastore, 1)) tx_wi_addFixed_0 17 rfl
theorem d_wi_addFixed_30 : decode prog_8_method_7_code 30 = .ok (.aload_n 0, 1) := zD (q := (30, .aload_n 0, 1)) tx_wi_addFixed_0 18 rfl
theorem d_wi_addFixed_31 : decode prog_8_method_7_code 31 = .ok (.dup, 1) := zD (q := (31, .dup, 1)) tx_wi_addFixed_0 19 rfl
theorem d_wi_addFixed_32 : decode prog_8_method_7_code 32 = .ok (.getfield 46, 3) := zD (q := (32, .getfield 46, 3)) tx_wi_addFixed_0 20 rfl
theorem d_wi_addFixed_35 : decode prog_8_method_7_code 35 = .ok (.iconst 1, 1) := zD (q := (35, .iconst 1, 1)) tx_wi_addFixed_0 21 rfl
theorem d_wi_addFixed_36 : decode prog_8_method_7_code 36 = .ok (.iadd, 1) := zD (q := (36, .iadd, 1)) tx_wi_addFixed_0 22 rfl
theorem d_wi_addFixed_37 : decode prog_8_method_7_code 37 = .ok (.putfield 46, 3) := zD (q := (37, .putfield 46, 3)) tx_wi_addFixed_0 23 rfl
theorem d_wi_addFixed_40 : decode prog_8_method_7_code 40 = .ok (.aload_n 0, 1) := zD (q := (40, .aload_n 0, 1)) tx_wi_addFixed_0 24 rfl
theorem d_wi_addFixed_41 : decode prog_8_method_7_code 41 = .ok (.getfield 46, 3) := zD (q := (41, .getfield 46, 3)) tx_wi_addFixed_0 25 rfl
theorem d_wi_addFixed_44 : decode prog_8_method_7_code 44 = .ok (.ireturn, 1) := zD (q := (44, .ireturn, 1)) tx_wi_addFixed_0 26 rfl
def T_wi_setCap_0 : List (Nat × Instr × Nat) := [(0, .aload_n 0, 1), (1, .iload_n 1, 1), (2, .putfield 49, 3), (5, .return_, 1)]
theorem tx_wi_setCap_0 : zdec prog_8_method_8_code T_wi_setCap_0 = true := by decide +kernel
theorem d_wi_setCap_0 : decode prog_8_method_8_code 0 = .ok (.aload_n 0, 1) := zD (q := (0, .aload_n 0, 1)) tx_wi_setCap_0 0 rfl
theorem d_wi_setCap_1 : decode prog_8_method_8_code 1 = .ok (.iload_n 1, 1) := zD (q := (1, .iload_n 1, 1)) tx_wi_setCap_0 1 rfl
theorem d_wi_setCap_2 : decode prog_8_method_8_code 2 = .ok (.putfield 49, 3) := zD (q := (2, .putfield 49, 3)) tx_wi_setCap_0 2 rfl
theorem d_wi_setCap_5 : decode prog_8_method_8_code 5 = .ok (.return_, 1) := zD (q := (5, .return_, 1)) tx_wi_setCap_0 3 rfl
def T_wi_allowGame_0 : List (Nat × Instr × Nat) := [(0, .aload_n 0, 1), (1, .getfield 9, 3), (4, .iload_n 2, 1), (5, .iaload, 1), (6, .iload_n 3, 1), (7, .invokestatic 52, 3), (10, .ifCond .ne 65, 3), (13, .aload_n 0, 1), (14, .getfield 15, 3), (17, .iload_n 2, 1), (18, .iaload, 1), (19, .iload 4, 2), (21, .invokestatic 52, 3), (24, .ifCond .ne 51, 3), (27, .aload_n 0, 1), (28, .iload_n 2, 1), (29, .iload_n 3, 1), (30, .iload 4, 2), (32, .invokevirtual 92, 3), (35, .ifCond .eq 40, 3), (38, .aload_n 0, 1), (39, .aload_n 1, 1), (40, .iload_n 2, 1), (41, .iload_n 3, 1), (42, .invokevirtual 96, 3), (45, .ifCond .ne 30, 3), (48, .aload_n 0, 1), (49, .getfield 49, 3), (52, .ifCond .eq 19, 3), (55, .aload_n 1, 1), (56, .iload_n 2, 1), (57, .iconst 1, 1), (58, .isub, 1), (59, .iload 4, 2), (61, .invokevirtual 89, 3), (64, .aload_n 0, 1), (65, .getfield 49, 3), (68, .if_icmp .ge 7, 3), (71, .iconst 1, 1), (72, .goto 4, 3), (75, .iconst 0, 1), (76, .ireturn, 1)]
theorem tx_wi_allowGame_0 : zdec prog_8_method_14_code T_wi_allowGame_0 = true := by decide +kernel
theorem d_wi_allowGame_0 : decode prog_8_method_14_code 0 = .ok (.aload_n 0, 1) := zD (q := (0, .aload_n 0, 1)) tx_wi_allowGame_0 0 rfl
theorem d_wi_allowGame_1 : decode prog_8_method_14_code 1 = .ok (.getfield 9, 3) := zD (q := (1, .getfield 9, 3)) tx_wi_allowGame_0 1 rfl
theorem d_wi_allowGame_4 : decode prog_8_method_14_code 4 = .ok (.iload_n 2, 1) := zD (q := (4, .iload_n 2, 1)) tx_wi_allowGame_0 2 rfl
theorem d_wi_allowGame_5 : decode prog_8_method_14_code 5 = .ok (.iaload, 1) := zD (q := (5, .iaload, 1)) tx_wi_allowGame_0 3 rfl
theorem d_wi_allowGame_6 : decode prog_8_method_14_code 6 = .ok (.iload_n 3, 1) := zD (q := (6, .iload_n 3, 1)) tx_wi_allowGame_0 4 rfl
theorem d_wi_allowGame_7 : decode prog_8_method_14_code 7 = .ok (.invokestatic 52, 3) := zD (q := (7, .invokestatic 52, 3)) tx_wi_allowGame_0 5 rfl
theorem d_wi_allowGame_10 : decode prog_8_method_14_code 10 = .ok (.ifCond .ne 65, 3) := zD (q := (10, .ifCond .ne 65, 3)) tx_wi_allowGame_0 6 rfl
theorem d_wi_allowGame_13 : decode prog_8_method_14_code 13 = .ok (.aload_n 0, 1) := zD (q := (13, .aload_n 0, 1)) tx_wi_allowGame_0 7 rfl
theorem d_wi_allowGame_14 : decode prog_8_method_14_code 14 = .ok (.getfield 15, 3) := zD (q := (14, .getfield 15, 3)) tx_wi_allowGame_0 8 rfl
theorem d_wi_allowGame_17 : decode prog_8_method_14_code 17 = .ok (.iload_n 2, 1) := zD (q := (17, .iload_n 2, 1)) tx_wi_allowGame_0 9 rfl
theorem d_wi_allowGame_18 : decode prog_8_method_14_code 18 = .ok (.iaload, 1) := zD (q := (18, .iaload, 1)) tx_wi_allowGame_0 10 rfl
theorem d_wi_allowGame_19 : decode prog_8_method_14_code 19 = .ok (.iload 4, 2) := zD (q := (19, .iload 4, 2)) tx_wi_allowGame_0 11 rfl
theorem d_wi_allowGame_21 : decode prog_8_method_14_code 21 = .ok (.invokestatic 52, 3) := zD (q := (21, .invokestatic 52, 3)) tx_wi_allowGame_0 12 rfl
theorem d_wi_allowGame_24 : decode prog_8_method_14_code 24 = .ok (.ifCond .ne 51, 3) := zD (q := (24, .ifCond .ne 51, 3)) tx_wi_allowGame_0 13 rfl
theorem d_wi_allowGame_27 : decode prog_8_method_14_code 27 = .ok (.aload_n 0, 1) := zD (q := (27, .aload_n 0, 1)) tx_wi_allowGame_0 14 rfl
theorem d_wi_allowGame_28 : decode prog_8_method_14_code 28 = .ok (.iload_n 2, 1) := zD (q := (28, .iload_n 2, 1)) tx_wi_allowGame_0 15 rfl
theorem d_wi_allowGame_29 : decode prog_8_method_14_code 29 = .ok (.iload_n 3, 1) := zD (q := (29, .iload_n 3, 1)) tx_wi_allowGame_0 16 rfl
theorem d_wi_allowGame_30 : decode prog_8_method_14_code 30 = .ok (.iload 4, 2) := zD (q := (30, .iload 4, 2)) tx_wi_allowGame_0 17 rfl
theorem d_wi_allowGame_32 : decode prog_8_method_14_code 32 = .ok (.invokevirtual 92, 3) := zD (q := (32, .invokevirtual 92, 3)) tx_wi_allowGame_0 18 rfl
theorem d_wi_allowGame_35 : decode prog_8_method_14_code 35 = .ok (.ifCond .eq 40, 3) := zD (q := (35, .ifCond .eq 40, 3)) tx_wi_allowGame_0 19 rfl
theorem d_wi_allowGame_38 : decode prog_8_method_14_code 38 = .ok (.aload_n 0, 1) := zD (q := (38, .aload_n 0, 1)) tx_wi_allowGame_0 20 rfl
theorem d_wi_allowGame_39 : decode prog_8_method_14_code 39 = .ok (.aload_n 1, 1) := zD (q := (39, .aload_n 1, 1)) tx_wi_allowGame_0 21 rfl
theorem d_wi_allowGame_40 : decode prog_8_method_14_code 40 = .ok (.iload_n 2, 1) := zD (q := (40, .iload_n 2, 1)) tx_wi_allowGame_0 22 rfl
theorem d_wi_allowGame_41 : decode prog_8_method_14_code 41 = .ok (.iload_n 3, 1) := zD (q := (41, .iload_n 3, 1)) tx_wi_allowGame_0 23 rfl
theorem d_wi_allowGame_42 : decode prog_8_method_14_code 42 = .ok (.invokevirtual 96, 3) := zD (q := (42, .invokevirtual 96, 3)) tx_wi_allowGame_0 24 rfl
theorem d_wi_allowGame_45 : decode prog_8_method_14_code 45 = .ok (.ifCond .ne 30, 3) := zD (q := (45, .ifCond .ne 30, 3)) tx_wi_allowGame_0 25 rfl
theorem d_wi_allowGame_48 : decode prog_8_method_14_code 48 = .ok (.aload_n 0, 1) := zD (q := (48, .aload_n 0, 1)) tx_wi_allowGame_0 26 rfl
theorem d_wi_allowGame_49 : decode prog_8_method_14_code 49 = .ok (.getfield 49, 3) := zD (q := (49, .getfield 49, 3)) tx_wi_allowGame_0 27 rfl
theorem d_wi_allowGame_52 : decode prog_8_method_14_code 52 = .ok (.ifCond .eq 19, 3) := zD (q := (52, .ifCond .eq 19, 3)) tx_wi_allowGame_0 28 rfl
theorem d_wi_allowGame_55 : decode prog_8_method_14_code 55 = .ok (.aload_n 1, 1) := zD (q := (55, .aload_n 1, 1)) tx_wi_allowGame_0 29 rfl
theorem d_wi_allowGame_56 : decode prog_8_method_14_code 56 = .ok (.iload_n 2, 1) := zD (q := (56, .iload_n 2, 1)) tx_wi_allowGame_0 30 rfl
theorem d_wi_allowGame_57 : decode prog_8_method_14_code 57 = .ok (.iconst 1, 1) := zD (q := (57, .iconst 1, 1)) tx_wi_allowGame_0 31 rfl
theorem d_wi_allowGame_58 : decode prog_8_method_14_code 58 = .ok (.isub, 1) := zD (q := (58, .isub, 1)) tx_wi_allowGame_0 32 rfl
theorem d_wi_allowGame_59 : decode prog_8_method_14_code 59 = .ok (.iload 4, 2) := zD (q := (59, .iload 4, 2)) tx_wi_allowGame_0 33 rfl
theorem d_wi_allowGame_61 : decode prog_8_method_14_code 61 = .ok (.invokevirtual 89, 3) := zD (q := (61, .invokevirtual 89, 3)) tx_wi_allowGame_0 34 rfl
theorem d_wi_allowGame_64 : decode prog_8_method_14_code 64 = .ok (.aload_n 0, 1) := zD (q := (64, .aload_n 0, 1)) tx_wi_allowGame_0 35 rfl
theorem d_wi_allowGame_65 : decode prog_8_method_14_code 65 = .ok (.getfield 49, 3) := zD (q := (65, .getfield 49, 3)) tx_wi_allowGame_0 36 rfl
theorem d_wi_allowGame_68 : decode prog_8_method_14_code 68 = .ok (.if_icmp .ge 7, 3) := zD (q := (68, .if_icmp .ge 7, 3)) tx_wi_allowGame_0 37 rfl
theorem d_wi_allowGame_71 : decode prog_8_method_14_code 71 = .ok (.iconst 1, 1) := zD (q := (71, .iconst 1, 1)) tx_wi_allowGame_0 38 rfl
theorem d_wi_allowGame_72 : decode prog_8_method_14_code 72 = .ok (.goto 4, 3) := zD (q := (72, .goto 4, 3)) tx_wi_allowGame_0 39 rfl
theorem d_wi_allowGame_75 : decode prog_8_method_14_code 75 = .ok (.iconst 0, 1) := zD (q := (75, .iconst 0, 1)) tx_wi_allowGame_0 40 rfl
theorem d_wi_allowGame_76 : decode prog_8_method_14_code 76 = .ok (.ireturn, 1) := zD (q := (76, .ireturn, 1)) tx_wi_allowGame_0 41 rfl
def T_wi_fixedAllowGame_0 : List (Nat × Instr × Nat) := [(0, .iconst 0, 1), (1, .istore 4, 2), (3, .iload 4, 2), (5, .aload_n 0, 1), (6, .getfield 46, 3), (9, .if_icmp .ge 84, 3), (12, .aload_n 0, 1), (13, .iload 4, 2), (15, .iload_n 2, 1), (16, .invokevirtual 100, 3), (19, .istore 5, 2), (21, .aload_n 0, 1), (22, .iload 4, 2), (24, .iload_n 3, 1), (25, .invokevirtual 100, 3), (28, .istore 6, 2), (30, .aload_n 0, 1), (31, .getfield 30, 3), (34, .iload 4, 2), (36, .iaload, 1), (37, .iload_n 1, 1), (38, .if_icmp .eq 15, 3), (41, .iload 5, 2), (43, .ifCond .eq 44, 3), (46, .iload 6, 2), (48, .ifCond .eq 39, 3), (51, .iconst 0, 1), (52, .ireturn, 1), (53, .iload 5, 2), (55, .ifCond .ne 8, 3), (58, .iload 6, 2), (60, .ifCond .eq 27, 3), (63, .aload_n 0, 1), (64, .getfield 24, 3), (67, .iload 4, 2), (69, .iaload, 1), (70, .iload_n 2, 1), (71, .if_icmp .ne 14, 3), (74, .aload_n 0, 1), (75, .getfield 27, 3), (78, .iload 4, 2), (80, .iaload, 1), (81, .iload_n 3, 1), (82, .if_icmp .eq 5, 3), (85, .iconst 0, 1), (86, .ireturn, 1), (87, .iinc 4 1, 3), (90, .goto (-87), 3), (93, .iconst 1, 1), (94, .ireturn, 1)]
theorem tx_wi_fixedAllowGame_0 : zdec prog_8_method_16_code T_wi_fixedAllowGame_0 = true := by decide +kernel
theorem d_wi_fixedAllowGame_0 : decode prog_8_method_16_code 0 = .ok (.iconst 0, 1) := zD (q := (0, .iconst 0, 1)) tx_wi_fixedAllowGame_0 0 rfl
theorem d_wi_fixedAllowGame_1 : decode prog_8_method_16_code 1 = .ok (.istore 4, 2) := zD (q := (1, .istore 4, 2)) tx_wi_fixedAllowGame_0 1 rfl
theorem d_wi_fixedAllowGame_3 : decode prog_8_method_16_code 3 = .ok (.iload 4, 2) := zD (q := (3, .iload 4, 2)) tx_wi_fixedAllowGame_0 2 rfl
theorem d_wi_fixedAllowGame_5 : decode prog_8_method_16_code 5 = .ok (.aload_n 0, 1) := zD (q := (5, .aload_n 0, 1)) tx_wi_fixedAllowGame_0 3 rfl
theorem d_wi_fixedAllowGame_6 : decode prog_8_method_16_code 6 = .ok (.getfield 46, 3) := zD (q := (6, .getfield 46, 3)) tx_wi_fixedAllowGame_0 4 rfl
theorem d_wi_fixedAllowGame_9 : decode prog_8_method_16_code 9 = .ok (.if_icmp .ge 84, 3) := zD (q := (9, .if_icmp .ge 84, 3)) tx_wi_fixedAllowGame_0 5 rfl
theorem d_wi_fixedAllowGame_12 : decode prog_8_method_16_code 12 = .ok (.aload_n 0, 1) := zD (q := (12, .aload_n 0, 1)) tx_wi_fixedAllowGame_0 6 rfl
theorem d_wi_fixedAllowGame_13 : decode prog_8_method_16_code 13 = .ok (.iload 4, 2) := zD (q := (13, .iload 4, 2)) tx_wi_fixedAllowGame_0 7 rfl
theorem d_wi_fixedAllowGame_15 : decode prog_8_method_16_code 15 = .ok (.iload_n 2, 1) := zD (q := (15, .iload_n 2, 1)) tx_wi_fixedAllowGame_0 8 rfl
theorem d_wi_fixedAllowGame_16 : decode prog_8_method_16_code 16 = .ok (.invokevirtual 100, 3) := zD (q := (16, .invokevirtual 100, 3)) tx_wi_fixedAllowGame_0 9 rfl
theorem d_wi_fixedAllowGame_19 : decode prog_8_method_16_code 19 = .ok (.istore 5, 2) := zD (q := (19, .istore 5, 2)) tx_wi_fixedAllowGame_0 10 rfl
theorem d_wi_fixedAllowGame_21 : decode prog_8_method_16_code 21 = .ok (.aload_n 0, 1) := zD (q := (21, .aload_n 0, 1)) tx_wi_fixedAllowGame_0 11 rfl
theorem d_wi_fixedAllowGame_22 : decode prog_8_method_16_code 22 = .ok (.iload 4, 2) := zD (q := (22, .iload 4, 2)) tx_wi_fixedAllowGame_0 12 rfl
theorem d_wi_fixedAllowGame_24 : decode prog_8_method_16_code 24 = .ok (.iload_n 3, 1) := zD (q := (24, .iload_n 3, 1)) tx_wi_fixedAllowGame_0 13 rfl
theorem d_wi_fixedAllowGame_25 : decode prog_8_method_16_code 25 = .ok (.invokevirtual 100, 3) := zD (q := (25, .invokevirtual 100, 3)) tx_wi_fixedAllowGame_0 14 rfl
theorem d_wi_fixedAllowGame_28 : decode prog_8_method_16_code 28 = .ok (.istore 6, 2) := zD (q := (28, .istore 6, 2)) tx_wi_fixedAllowGame_0 15 rfl
theorem d_wi_fixedAllowGame_30 : decode prog_8_method_16_code 30 = .ok (.aload_n 0, 1) := zD (q := (30, .aload_n 0, 1)) tx_wi_fixedAllowGame_0 16 rfl
theorem d_wi_fixedAllowGame_31 : decode prog_8_method_16_code 31 = .ok (.getfield 30, 3) := zD (q := (31, .getfield 30, 3)) tx_wi_fixedAllowGame_0 17 rfl
theorem d_wi_fixedAllowGame_34 : decode prog_8_method_16_code 34 = .ok (.iload 4, 2) := zD (q := (34, .iload 4, 2)) tx_wi_fixedAllowGame_0 18 rfl
theorem d_wi_fixedAllowGame_36 : decode prog_8_method_16_code 36 = .ok (.iaload, 1) := zD (q := (36, .iaload, 1)) tx_wi_fixedAllowGame_0 19 rfl
theorem d_wi_fixedAllowGame_37 : decode prog_8_method_16_code 37 = .ok (.iload_n 1, 1) := zD (q := (37, .iload_n 1, 1)) tx_wi_fixedAllowGame_0 20 rfl
theorem d_wi_fixedAllowGame_38 : decode prog_8_method_16_code 38 = .ok (.if_icmp .eq 15, 3) := zD (q := (38, .if_icmp .eq 15, 3)) tx_wi_fixedAllowGame_0 21 rfl
theorem d_wi_fixedAllowGame_41 : decode prog_8_method_16_code 41 = .ok (.iload 5, 2) := zD (q := (41, .iload 5, 2)) tx_wi_fixedAllowGame_0 22 rfl
theorem d_wi_fixedAllowGame_43 : decode prog_8_method_16_code 43 = .ok (.ifCond .eq 44, 3) := zD (q := (43, .ifCond .eq 44, 3)) tx_wi_fixedAllowGame_0 23 rfl
theorem d_wi_fixedAllowGame_46 : decode prog_8_method_16_code 46 = .ok (.iload 6, 2) := zD (q := (46, .iload 6, 2)) tx_wi_fixedAllowGame_0 24 rfl
theorem d_wi_fixedAllowGame_48 : decode prog_8_method_16_code 48 = .ok (.ifCond .eq 39, 3) := zD (q := (48, .ifCond .eq 39, 3)) tx_wi_fixedAllowGame_0 25 rfl
theorem d_wi_fixedAllowGame_51 : decode prog_8_method_16_code 51 = .ok (.iconst 0, 1) := zD (q := (51, .iconst 0, 1)) tx_wi_fixedAllowGame_0 26 rfl
theorem d_wi_fixedAllowGame_52 : decode prog_8_method_16_code 52 = .ok (.ireturn, 1) := zD (q := (52, .ireturn, 1)) tx_wi_fixedAllowGame_0 27 rfl
theorem d_wi_fixedAllowGame_53 : decode prog_8_method_16_code 53 = .ok (.iload 5, 2) := zD (q := (53, .iload 5, 2)) tx_wi_fixedAllowGame_0 28 rfl
theorem d_wi_fixedAllowGame_55 : decode prog_8_method_16_code 55 = .ok (.ifCond .ne 8, 3) := zD (q := (55, .ifCond .ne 8, 3)) tx_wi_fixedAllowGame_0 29 rfl
theorem d_wi_fixedAllowGame_58 : decode prog_8_method_16_code 58 = .ok (.iload 6, 2) := zD (q := (58, .iload 6, 2)) tx_wi_fixedAllowGame_0 30 rfl
theorem d_wi_fixedAllowGame_60 : decode prog_8_method_16_code 60 = .ok (.ifCond .eq 27, 3) := zD (q := (60, .ifCond .eq 27, 3)) tx_wi_fixedAllowGame_0 31 rfl
theorem d_wi_fixedAllowGame_63 : decode prog_8_method_16_code 63 = .ok (.aload_n 0, 1) := zD (q := (63, .aload_n 0, 1)) tx_wi_fixedAllowGame_0 32 rfl
theorem d_wi_fixedAllowGame_64 : decode prog_8_method_16_code 64 = .ok (.getfield 24, 3) := zD (q := (64, .getfield 24, 3)) tx_wi_fixedAllowGame_0 33 rfl
theorem d_wi_fixedAllowGame_67 : decode prog_8_method_16_code 67 = .ok (.iload 4, 2) := zD (q := (67, .iload 4, 2)) tx_wi_fixedAllowGame_0 34 rfl
theorem d_wi_fixedAllowGame_69 : decode prog_8_method_16_code 69 = .ok (.iaload, 1) := zD (q := (69, .iaload, 1)) tx_wi_fixedAllowGame_0 35 rfl
theorem d_wi_fixedAllowGame_70 : decode prog_8_method_16_code 70 = .ok (.iload_n 2, 1) := zD (q := (70, .iload_n 2, 1)) tx_wi_fixedAllowGame_0 36 rfl
theorem d_wi_fixedAllowGame_71 : decode prog_8_method_16_code 71 = .ok (.if_icmp .ne 14, 3) := zD (q := (71, .if_icmp .ne 14, 3)) tx_wi_fixedAllowGame_0 37 rfl
theorem d_wi_fixedAllowGame_74 : decode prog_8_method_16_code 74 = .ok (.aload_n 0, 1) := zD (q := (74, .aload_n 0, 1)) tx_wi_fixedAllowGame_0 38 rfl
theorem d_wi_fixedAllowGame_75 : decode prog_8_method_16_code 75 = .ok (.getfield 27, 3) := zD (q := (75, .getfield 27, 3)) tx_wi_fixedAllowGame_0 39 rfl
theorem d_wi_fixedAllowGame_78 : decode prog_8_method_16_code 78 = .ok (.iload 4, 2) := zD (q := (78, .iload 4, 2)) tx_wi_fixedAllowGame_0 40 rfl
theorem d_wi_fixedAllowGame_80 : decode prog_8_method_16_code 80 = .ok (.iaload, 1) := zD (q := (80, .iaload, 1)) tx_wi_fixedAllowGame_0 41 rfl
theorem d_wi_fixedAllowGame_81 : decode prog_8_method_16_code 81 = .ok (.iload_n 3, 1) := zD (q := (81, .iload_n 3, 1)) tx_wi_fixedAllowGame_0 42 rfl
theorem d_wi_fixedAllowGame_82 : decode prog_8_method_16_code 82 = .ok (.if_icmp .eq 5, 3) := zD (q := (82, .if_icmp .eq 5, 3)) tx_wi_fixedAllowGame_0 43 rfl
theorem d_wi_fixedAllowGame_85 : decode prog_8_method_16_code 85 = .ok (.iconst 0, 1) := zD (q := (85, .iconst 0, 1)) tx_wi_fixedAllowGame_0 44 rfl
theorem d_wi_fixedAllowGame_86 : decode prog_8_method_16_code 86 = .ok (.ireturn, 1) := zD (q := (86, .ireturn, 1)) tx_wi_fixedAllowGame_0 45 rfl
theorem d_wi_fixedAllowGame_87 : decode prog_8_method_16_code 87 = .ok (.iinc 4 1, 3) := zD (q := (87, .iinc 4 1, 3)) tx_wi_fixedAllowGame_0 46 rfl
theorem d_wi_fixedAllowGame_90 : decode prog_8_method_16_code 90 = .ok (.goto (-87), 3) := zD (q := (90, .goto (-87), 3)) tx_wi_fixedAllowGame_0 47 rfl
theorem d_wi_fixedAllowGame_93 : decode prog_8_method_16_code 93 = .ok (.iconst 1, 1) := zD (q := (93, .iconst 1, 1)) tx_wi_fixedAllowGame_0 48 rfl
theorem d_wi_fixedAllowGame_94 : decode prog_8_method_16_code 94 = .ok (.ireturn, 1) := zD (q := (94, .ireturn, 1)) tx_wi_fixedAllowGame_0 49 rfl
def T_wi_isOfFixed_0 : List (Nat × Instr × Nat) := [(0, .aload_n 0, 1), (1, .getfield 24, 3), (4, .iload_n 1, 1), (5, .iaload, 1), (6, .iload_n 2, 1), (7, .if_icmp .eq 13, 3), (10, .aload_n 0, 1), (11, .getfield 27, 3), (14, .iload_n 1, 1), (15, .iaload, 1), (16, .iload_n 2, 1), (17, .if_icmp .ne 7, 3), (20, .iconst 1, 1), (21, .goto 4, 3), (24, .iconst 0, 1), (25, .ireturn, 1)]
theorem tx_wi_isOfFixed_0 : zdec prog_8_method_17_code T_wi_isOfFixed_0 = true := by decide +kernel
theorem d_wi_isOfFixed_0 : decode prog_8_method_17_code 0 = .ok (.aload_n 0, 1) := zD (q := (0, .aload_n 0, 1)) tx_wi_isOfFixed_0 0 rfl
theorem d_wi_isOfFixed_1 : decode prog_8_method_17_code 1 = .ok (.getfield 24, 3) := zD (q := (1, .getfield 24, 3)) tx_wi_isOfFixed_0 1 rfl
theorem d_wi_isOfFixed_4 : decode prog_8_method_17_code 4 = .ok (.iload_n 1, 1) := zD (q := (4, .iload_n 1, 1)) tx_wi_isOfFixed_0 2 rfl
theorem d_wi_isOfFixed_5 : decode prog_8_method_17_code 5 = .ok (.iaload, 1) := zD (q := (5, .iaload, 1)) tx_wi_isOfFixed_0 3 rfl
theorem d_wi_isOfFixed_6 : decode prog_8_method_17_code 6 = .ok (.iload_n 2, 1) := zD (q := (6, .iload_n 2, 1)) tx_wi_isOfFixed_0 4 rfl
theorem d_wi_isOfFixed_7 : decode prog_8_method_17_code 7 = .ok (.if_icmp .eq 13, 3) := zD (q := (7, .if_icmp .eq 13, 3)) tx_wi_isOfFixed_0 5 rfl
theorem d_wi_isOfFixed_10 : decode prog_8_method_17_code 10 = .ok (.aload_n 0, 1) := zD (q := (10, .aload_n 0, 1)) tx_wi_isOfFixed_0 6 rfl
theorem d_wi_isOfFixed_11 : decode prog_8_method_17_code 11 = .ok (.getfield 27, 3) := zD (q := (11, .getfield 27, 3)) tx_wi_isOfFixed_0 7 rfl
theorem d_wi_isOfFixed_14 : decode prog_8_method_17_code 14 = .ok (.iload_n 1, 1) := zD (q := (14, .iload_n 1, 1)) tx_wi_isOfFixed_0 8 rfl
theorem d_wi_isOfFixed_15 : decode prog_8_method_17_code 15 = .ok (.iaload, 1) := zD (q := (15, .iaload, 1)) tx_wi_isOfFixed_0 9 rfl
theorem d_wi_isOfFixed_16 : decode prog_8_method_17_code 16 = .ok (.iload_n 2, 1) := zD (q := (16, .iload_n 2, 1)) tx_wi_isOfFixed_0 10 rfl
theorem d_wi_isOfFixed_17 : decode prog_8_method_17_code 17 = .ok (.if_icmp .ne 7, 3) := zD (q := (17, .if_icmp .ne 7, 3)) tx_wi_isOfFixed_0 11 rfl
theorem d_wi_isOfFixed_20 : decode prog_8_method_17_code 20 = .ok (.iconst 1, 1) := zD (q := (20, .iconst 1, 1)) tx_wi_isOfFixed_0 12 rfl
theorem d_wi_isOfFixed_21 : decode prog_8_method_17_code 21 = .ok (.goto 4, 3) := zD (q := (21, .goto 4, 3)) tx_wi_isOfFixed_0 13 rfl
theorem d_wi_isOfFixed_24 : decode prog_8_method_17_code 24 = .ok (.iconst 0, 1) := zD (q := (24, .iconst 0, 1)) tx_wi_isOfFixed_0 14 rfl
theorem d_wi_isOfFixed_25 : decode prog_8_method_17_code 25 = .ok (.ireturn, 1) := zD (q := (25, .ireturn, 1)) tx_wi_isOfFixed_0 15 rfl
def T_wi_groundIsTaken_0 : List (Nat × Instr × Nat) := [(0, .iconst 0, 1), (1, .istore 4, 2), (3, .iload 4, 2), (5, .aload_n 0, 1), (6, .getfield 43, 3), (9, .if_icmp .ge 65, 3), (12, .aload_n 0, 1), (13, .getfield 18, 3), (16, .iload 4, 2), (18, .iaload, 1), (19, .iload_n 3, 1), (20, .if_icmp .ne 19, 3), (23, .aload_n 1, 1), (24, .iload_n 2, 1), (25, .aload_n 0, 1), (26, .getfield 21, 3), (29, .iload 4, 2), (31, .iaload, 1), (32, .invokevirtual 78, 3), (35, .iconst 1, 1), (36, .if_icmp .eq 30, 3), (39, .aload_n 0, 1), (40, .getfield 21, 3), (43, .iload 4, 2), (45, .iaload, 1), (46, .iload_n 3, 1), (47, .if_icmp .ne 21, 3), (50, .aload_n 1, 1), (51, .iload_n 2, 1), (52, .aload_n 0, 1), (53, .getfield 18, 3), (56, .iload 4, 2), (58, .iaload, 1), (59, .invokevirtual 78, 3), (62, .iconst 1, 1), (63, .if_icmp .ne 5, 3), (66, .iconst 1, 1), (67, .ireturn, 1), (68, .iinc 4 1, 3), (71, .goto (-68), 3), (74, .iconst 0, 1), (75, .ireturn, 1)]
theorem tx_wi_groundIsTaken_0 : zdec prog_8_method_18_code T_wi_groundIsTaken_0 = true := by decide +kernel
theorem d_wi_groundIsTaken_0 : decode prog_8_method_18_code 0 = .ok (.iconst 0, 1) := zD (q := (0, .iconst 0, 1)) tx_wi_groundIsTaken_0 0 rfl
theorem d_wi_groundIsTaken_1 : decode prog_8_method_18_code 1 = .ok (.istore 4, 2) := zD (q := (1, .istore 4, 2)) tx_wi_groundIsTaken_0 1 rfl
theorem d_wi_groundIsTaken_3 : decode prog_8_method_18_code 3 = .ok (.iload 4, 2) := zD (q := (3, .iload 4, 2)) tx_wi_groundIsTaken_0 2 rfl
theorem d_wi_groundIsTaken_5 : decode prog_8_method_18_code 5 = .ok (.aload_n 0, 1) := zD (q := (5, .aload_n 0, 1)) tx_wi_groundIsTaken_0 3 rfl
theorem d_wi_groundIsTaken_6 : decode prog_8_method_18_code 6 = .ok (.getfield 43, 3) := zD (q := (6, .getfield 43, 3)) tx_wi_groundIsTaken_0 4 rfl
theorem d_wi_groundIsTaken_9 : decode prog_8_method_18_code 9 = .ok (.if_icmp .ge 65, 3) := zD (q := (9, .if_icmp .ge 65, 3)) tx_wi_groundIsTaken_0 5 rfl
theorem d_wi_groundIsTaken_12 : decode prog_8_method_18_code 12 = .ok (.aload_n 0, 1) := zD (q := (12, .aload_n 0, 1)) tx_wi_groundIsTaken_0 6 rfl
theorem d_wi_groundIsTaken_13 : decode prog_8_method_18_code 13 = .ok (.getfield 18, 3) := zD (q := (13, .getfield 18, 3)) tx_wi_groundIsTaken_0 7 rfl
theorem d_wi_groundIsTaken_16 : decode prog_8_method_18_code 16 = .ok (.iload 4, 2) := zD (q := (16, .iload 4, 2)) tx_wi_groundIsTaken_0 8 rfl
theorem d_wi_groundIsTaken_18 : decode prog_8_method_18_code 18 = .ok (.iaload, 1) := zD (q := (18, .iaload, 1)) tx_wi_groundIsTaken_0 9 rfl
theorem d_wi_groundIsTaken_19 : decode prog_8_method_18_code 19 = .ok (.iload_n 3, 1) := zD (q := (19, .iload_n 3, 1)) tx_wi_groundIsTaken_0 10 rfl
theorem d_wi_groundIsTaken_20 : decode prog_8_method_18_code 20 = .ok (.if_icmp .ne 19, 3) := zD (q := (20, .if_icmp .ne 19, 3)) tx_wi_groundIsTaken_0 11 rfl
theorem d_wi_groundIsTaken_23 : decode prog_8_method_18_code 23 = .ok (.aload_n 1, 1) := zD (q := (23, .aload_n 1, 1)) tx_wi_groundIsTaken_0 12 rfl
theorem d_wi_groundIsTaken_24 : decode prog_8_method_18_code 24 = .ok (.iload_n 2, 1) := zD (q := (24, .iload_n 2, 1)) tx_wi_groundIsTaken_0 13 rfl
theorem d_wi_groundIsTaken_25 : decode prog_8_method_18_code 25 = .ok (.aload_n 0, 1) := zD (q := (25, .aload_n 0, 1)) tx_wi_groundIsTaken_0 14 rfl
theorem d_wi_groundIsTaken_26 : decode prog_8_method_18_code 26 = .ok (.getfield 21, 3) := zD (q := (26, .getfield 21, 3)) tx_wi_groundIsTaken_0 15 rfl
theorem d_wi_groundIsTaken_29 : decode prog_8_method_18_code 29 = .ok (.iload 4, 2) := zD (q := (29, .iload 4, 2)) tx_wi_groundIsTaken_0 16 rfl
theorem d_wi_groundIsTaken_31 : decode prog_8_method_18_code 31 = .ok (.iaload, 1) := zD (q := (31, .iaload, 1)) tx_wi_groundIsTaken_0 17 rfl
theorem d_wi_groundIsTaken_32 : decode prog_8_method_18_code 32 = .ok (.invokevirtual 78, 3) := zD (q := (32, .invokevirtual 78, 3)) tx_wi_groundIsTaken_0 18 rfl
theorem d_wi_groundIsTaken_35 : decode prog_8_method_18_code 35 = .ok (.iconst 1, 1) := zD (q := (35, .iconst 1, 1)) tx_wi_groundIsTaken_0 19 rfl
theorem d_wi_groundIsTaken_36 : decode prog_8_method_18_code 36 = .ok (.if_icmp .eq 30, 3) := zD (q := (36, .if_icmp .eq 30, 3)) tx_wi_groundIsTaken_0 20 rfl
theorem d_wi_groundIsTaken_39 : decode prog_8_method_18_code 39 = .ok (.aload_n 0, 1) := zD (q := (39, .aload_n 0, 1)) tx_wi_groundIsTaken_0 21 rfl
theorem d_wi_groundIsTaken_40 : decode prog_8_method_18_code 40 = .ok (.getfield 21, 3) := zD (q := (40, .getfield 21, 3)) tx_wi_groundIsTaken_0 22 rfl
theorem d_wi_groundIsTaken_43 : decode prog_8_method_18_code 43 = .ok (.iload 4, 2) := zD (q := (43, .iload 4, 2)) tx_wi_groundIsTaken_0 23 rfl
theorem d_wi_groundIsTaken_45 : decode prog_8_method_18_code 45 = .ok (.iaload, 1) := zD (q := (45, .iaload, 1)) tx_wi_groundIsTaken_0 24 rfl
theorem d_wi_groundIsTaken_46 : decode prog_8_method_18_code 46 = .ok (.iload_n 3, 1) := zD (q := (46, .iload_n 3, 1)) tx_wi_groundIsTaken_0 25 rfl
theorem d_wi_groundIsTaken_47 : decode prog_8_method_18_code 47 = .ok (.if_icmp .ne 21, 3) := zD (q := (47, .if_icmp .ne 21, 3)) tx_wi_groundIsTaken_0 26 rfl
theorem d_wi_groundIsTaken_50 : decode prog_8_method_18_code 50 = .ok (.aload_n 1, 1) := zD (q := (50, .aload_n 1, 1)) tx_wi_groundIsTaken_0 27 rfl
theorem d_wi_groundIsTaken_51 : decode prog_8_method_18_code 51 = .ok (.iload_n 2, 1) := zD (q := (51, .iload_n 2, 1)) tx_wi_groundIsTaken_0 28 rfl
theorem d_wi_groundIsTaken_52 : decode prog_8_method_18_code 52 = .ok (.aload_n 0, 1) := zD (q := (52, .aload_n 0, 1)) tx_wi_groundIsTaken_0 29 rfl
theorem d_wi_groundIsTaken_53 : decode prog_8_method_18_code 53 = .ok (.getfield 18, 3) := zD (q := (53, .getfield 18, 3)) tx_wi_groundIsTaken_0 30 rfl
theorem d_wi_groundIsTaken_56 : decode prog_8_method_18_code 56 = .ok (.iload 4, 2) := zD (q := (56, .iload 4, 2)) tx_wi_groundIsTaken_0 31 rfl
theorem d_wi_groundIsTaken_58 : decode prog_8_method_18_code 58 = .ok (.iaload, 1) := zD (q := (58, .iaload, 1)) tx_wi_groundIsTaken_0 32 rfl
theorem d_wi_groundIsTaken_59 : decode prog_8_method_18_code 59 = .ok (.invokevirtual 78, 3) := zD (q := (59, .invokevirtual 78, 3)) tx_wi_groundIsTaken_0 33 rfl
theorem d_wi_groundIsTaken_62 : decode prog_8_method_18_code 62 = .ok (.iconst 1, 1) := zD (q := (62, .iconst 1, 1)) tx_wi_groundIsTaken_0 34 rfl
theorem d_wi_groundIsTaken_63 : decode prog_8_method_18_code 63 = .ok (.if_icmp .ne 5, 3) := zD (q := (63, .if_icmp .ne 5, 3)) tx_wi_groundIsTaken_0 35 rfl
theorem d_wi_groundIsTaken_66 : decode prog_8_method_18_code 66 = .ok (.iconst 1, 1) := zD (q := (66, .iconst 1, 1)) tx_wi_groundIsTaken_0 36 rfl
theorem d_wi_groundIsTaken_67 : decode prog_8_method_18_code 67 = .ok (.ireturn, 1) := zD (q := (67, .ireturn, 1)) tx_wi_groundIsTaken_0 37 rfl
theorem d_wi_groundIsTaken_68 : decode prog_8_method_18_code 68 = .ok (.iinc 4 1, 3) := zD (q := (68, .iinc 4 1, 3)) tx_wi_groundIsTaken_0 38 rfl
theorem d_wi_groundIsTaken_71 : decode prog_8_method_18_code 71 = .ok (.goto (-68), 3) := zD (q := (71, .goto (-68), 3)) tx_wi_groundIsTaken_0 39 rfl
theorem d_wi_groundIsTaken_74 : decode prog_8_method_18_code 74 = .ok (.iconst 0, 1) := zD (q := (74, .iconst 0, 1)) tx_wi_groundIsTaken_0 40 rfl
theorem d_wi_groundIsTaken_75 : decode prog_8_method_18_code 75 = .ok (.ireturn, 1) := zD (q := (75, .ireturn, 1)) tx_wi_groundIsTaken_0 41 rfl
def T_wi_allowBye_0 : List (Nat × Instr × Nat) := [(0, .iconst 0, 1), (1, .istore_n 3, 1), (2, .iload_n 3, 1), (3, .aload_n 0, 1), (4, .getfield 46, 3), (7, .if_icmp .ge 30, 3), (10, .aload_n 0, 1), (11, .getfield 30, 3), (14, .iload_n 3, 1), (15, .iaload, 1), (16, .iload_n 1, 1), (17, .if_icmp .ne 14, 3), (20, .aload_n 0, 1), (21, .iload_n 3, 1), (22, .iload_n 2, 1), (23, .invokevirtual 100, 3), (26, .ifCond .eq 5, 3), (29, .iconst 0, 1), (30, .ireturn, 1), (31, .iinc 3 1, 3), (34, .goto (-32), 3), (37, .iconst 1, 1), (38, .ireturn, 1)]
theorem tx_wi_allowBye_0 : zdec prog_8_method_15_code T_wi_allowBye_0 = true := by decide +kernel
theorem d_wi_allowBye_0 : decode prog_8_method_15_code 0 = .ok (.iconst 0, 1) := zD (q := (0, .iconst 0, 1)) tx_wi_allowBye_0 0 rfl
theorem d_wi_allowBye_1 : decode prog_8_method_15_code 1 = .ok (.istore_n 3, 1) := zD (q := (1, .istore_n 3, 1)) tx_wi_allowBye_0 1 rfl
theorem d_wi_allowBye_2 : decode prog_8_method_15_code 2 = .ok (.iload_n 3, 1) := zD (q := (2, .iload_n 3, 1)) tx_wi_allowBye_0 2 rfl
theorem d_wi_allowBye_3 : decode prog_8_method_15_code 3 = .ok (.aload_n 0, 1) := zD (q := (3, .aload_n 0, 1)) tx_wi_allowBye_0 3 rfl
theorem d_wi_allowBye_4 : decode prog_8_method_15_code 4 = .ok (.getfield 46, 3) := zD (q := (4, .getfield 46, 3)) tx_wi_allowBye_0 4 rfl
theorem d_wi_allowBye_7 : decode prog_8_method_15_code 7 = .ok (.if_icmp .ge 30, 3) := zD (q := (7, .if_icmp .ge 30, 3)) tx_wi_allowBye_0 5 rfl
theorem d_wi_allowBye_10 : decode prog_8_method_15_code 10 = .ok (.aload_n 0, 1) := zD (q := (10, .aload_n 0, 1)) tx_wi_allowBye_0 6 rfl
theorem d_wi_allowBye_11 : decode prog_8_method_15_code 11 = .ok (.getfield 30, 3) := zD (q := (11, .getfield 30, 3)) tx_wi_allowBye_0 7 rfl
theorem d_wi_allowBye_14 : decode prog_8_method_15_code 14 = .ok (.iload_n 3, 1) := zD (q := (14, .iload_n 3, 1)) tx_wi_allowBye_0 8 rfl
theorem d_wi_allowBye_15 : decode prog_8_method_15_code 15 = .ok (.iaload, 1) := zD (q := (15, .iaload, 1)) tx_wi_allowBye_0 9 rfl
theorem d_wi_allowBye_16 : decode prog_8_method_15_code 16 = .ok (.iload_n 1, 1) := zD (q := (16, .iload_n 1, 1)) tx_wi_allowBye_0 10 rfl
theorem d_wi_allowBye_17 : decode prog_8_method_15_code 17 = .ok (.if_icmp .ne 14, 3) := zD (q := (17, .if_icmp .ne 14, 3)) tx_wi_allowBye_0 11 rfl
theorem d_wi_allowBye_20 : decode prog_8_method_15_code 20 = .ok (.aload_n 0, 1) := zD (q := (20, .aload_n 0, 1)) tx_wi_allowBye_0 12 rfl
theorem d_wi_allowBye_21 : decode prog_8_method_15_code 21 = .ok (.iload_n 3, 1) := zD (q := (21, .iload_n 3, 1)) tx_wi_allowBye_0 13 rfl
theorem d_wi_allowBye_22 : decode prog_8_method_15_code 22 = .ok (.iload_n 2, 1) := zD (q := (22, .iload_n 2, 1)) tx_wi_allowBye_0 14 rfl
theorem d_wi_allowBye_23 : decode prog_8_method_15_code 23 = .ok (.invokevirtual 100, 3) := zD (q := (23, .invokevirtual 100, 3)) tx_wi_allowBye_0 15 rfl
theorem d_wi_allowBye_26 : decode prog_8_method_15_code 26 = .ok (.ifCond .eq 5, 3) := zD (q := (26, .ifCond .eq 5, 3)) tx_wi_allowBye_0 16 rfl
theorem d_wi_allowBye_29 : decode prog_8_method_15_code 29 = .ok (.iconst 0, 1) := zD (q := (29, .iconst 0, 1)) tx_wi_allowBye_0 17 rfl
theorem d_wi_allowBye_30 : decode prog_8_method_15_code 30 = .ok (.ireturn, 1) := zD (q := (30, .ireturn, 1)) tx_wi_allowBye_0 18 rfl
theorem d_wi_allowBye_31 : decode prog_8_method_15_code 31 = .ok (.iinc 3 1, 3) := zD (q := (31, .iinc 3 1, 3)) tx_wi_allowBye_0 19 rfl
theorem d_wi_allowBye_34 : decode prog_8_method_15_code 34 = .ok (.goto (-32), 3) := zD (q := (34, .goto (-32), 3)) tx_wi_allowBye_0 20 rfl
theorem d_wi_allowBye_37 : decode prog_8_method_15_code 37 = .ok (.iconst 1, 1) := zD (q := (37, .iconst 1, 1)) tx_wi_allowBye_0 21 rfl
theorem d_wi_allowBye_38 : decode prog_8_method_15_code 38 = .ok (.ireturn, 1) := zD (q := (38, .ireturn, 1)) tx_wi_allowBye_0 22 rfl
def T_lr_init_0 : List (Nat × Instr × Nat) := [(0, .aload_n 0, 1), (1, .invokespecial 3, 3), (4, .aload_n 0, 1), (5, .new 9, 3), (8, .dup, 1), (9, .bipush 20, 2), (11, .bipush 38, 2), (13, .invokespecial 11, 3), (16, .putfield 14, 3), (19, .aload_n 0, 1), (20, .new 18, 3), (23, .dup, 1), (24, .invokespecial 20, 3), (27, .putfield 21, 3), (30, .aload_n 0, 1), (31, .new 25, 3), (34, .dup, 1), (35, .aload_n 0, 1), (36, .getfield 21, 3), (39, .invokespecial 27, 3), (42, .putfield 30, 3), (45, .aload_n 0, 1), (46, .new 34, 3), (49, .dup, 1), (50, .invokespecial 36, 3), (53, .putfield 37, 3), (56, .aload_n 0, 1), (57, .new 41, 3), (60, .dup, 1), (61, .aload_n 0, 1), (62, .getfield 14, 3), (65, .aload_n 0, 1), (66, .getfield 37, 3), (69, .invokespecial 43, 3), (72, .putfield 46, 3), (75, .aload_n 0, 1), (76, .new 50, 3), (79, .dup, 1), (80, .aload_n 0, 1), (81, .getfield 14, 3), (84, .aload_n 0, 1), (85, .getfield 46, 3), (88, .invokespecial 52, 3), (91, .putfield 55, 3), (94, .return_, 1)]
theorem tx_lr_init_0 : zdec prog_1_method_1_code T_lr_init_0 = true := by decide +kernel
theorem d_lr_init_0 : decode prog_1_method_1_code 0 = .ok (.aload_n 0, 1) := zD (q := (0, .aload_n 0, 1)) tx_lr_init_0 0 rfl
theorem d_lr_init_1 : decode prog_1_method_1_code 1 = .ok (.invokespecial 3, 3) := zD (q := (1, .invokespecial 3, 3)) tx_lr_init_0 1 rfl
theorem d_lr_init_4 : decode prog_1_method_1_code 4 = .ok (.aload_n 0, 1) := zD (q := (4, .aload_n 0, 1)) tx_lr_init_0 2 rfl
theorem d_lr_init_5 : decode prog_1_method_1_code 5 = .ok (.new 9, 3) := zD (q := (5, .new 9, 3)) tx_lr_init_0 3 rfl
theorem d_lr_init_8 : decode prog_1_method_1_code 8 = .ok (.dup, 1) := zD (q := (8, .dup, 1)) tx_lr_init_0 4 rfl
theorem d_lr_init_9 : decode prog_1_method_1_code 9 = .ok (.bipush 20, 2) := zD (q := (9, .bipush 20, 2)) tx_lr_init_0 5 rfl
theorem d_lr_init_11 : decode prog_1_method_1_code 11 = .ok (.bipush 38, 2) := zD (q := (11, .bipush 38, 2)) tx_lr_init_0 6 rfl
theorem d_lr_init_13 : decode prog_1_method_1_code 13 = .ok (.invokespecial 11, 3) := zD (q := (13, .invokespecial 11, 3)) tx_lr_init_0 7 rfl
theorem d_lr_init_16 : decode prog_1_method_1_code 16 = .ok (.putfield 14, 3) := zD (q := (16, .putfield 14, 3)) tx_lr_init_0 8 rfl
theorem d_lr_init_19 : decode prog_1_method_1_code 19 = .ok (.aload_n 0, 1) := zD (q := (19, .aload_n 0, 1)) tx_lr_init_0 9 rfl
theorem d_lr_init_20 : decode prog_1_method_1_code 20 = .ok (.new 18, 3) := zD (q := (20, .new 18, 3)) tx_lr_init_0 10 rfl
theorem d_lr_init_23 : decode prog_1_method_1_code 23 = .ok (.dup, 1) := zD (q := (23, .dup, 1)) tx_lr_init_0 11 rfl
theorem d_lr_init_24 : decode prog_1_method_1_code 24 = .ok (.invokespecial 20, 3) := zD (q := (24, .invokespecial 20, 3)) tx_lr_init_0 12 rfl
theorem d_lr_init_27 : decode prog_1_method_1_code 27 = .ok (.putfield 21, 3) := zD (q := (27, .putfield 21, 3)) tx_lr_init_0 13 rfl
theorem d_lr_init_30 : decode prog_1_method_1_code 30 = .ok (.aload_n 0, 1) := zD (q := (30, .aload_n 0, 1)) tx_lr_init_0 14 rfl
theorem d_lr_init_31 : decode prog_1_method_1_code 31 = .ok (.new 25, 3) := zD (q := (31, .new 25, 3)) tx_lr_init_0 15 rfl
theorem d_lr_init_34 : decode prog_1_method_1_code 34 = .ok (.dup, 1) := zD (q := (34, .dup, 1)) tx_lr_init_0 16 rfl
theorem d_lr_init_35 : decode prog_1_method_1_code 35 = .ok (.aload_n 0, 1) := zD (q := (35, .aload_n 0, 1)) tx_lr_init_0 17 rfl
theorem d_lr_init_36 : decode prog_1_method_1_code 36 = .ok (.getfield 21, 3) := zD (q := (36, .getfield 21, 3)) tx_lr_init_0 18 rfl
theorem d_lr_init_39 : decode prog_1_method_1_code 39 = .ok (.invokespecial 27, 3) := zD (q := (39, .invokespecial 27, 3)) tx_lr_init_0 19 rfl
theorem d_lr_init_42 : decode prog_1_method_1_code 42 = .ok (.putfield 30, 3) := zD (q := (42, .putfield 30, 3)) tx_lr_init_0 20 rfl
theorem d_lr_init_45 : decode prog_1_method_1_code 45 = .ok (.aload_n 0, 1) := zD (q := (45, .aload_n 0, 1)) tx_lr_init_0 21 rfl
theorem d_lr_init_46 : decode prog_1_method_1_code 46 = .ok (.new 34, 3) := zD (q := (46, .new 34, 3)) tx_lr_init_0 22 rfl
theorem d_lr_init_49 : decode prog_1_method_1_code 49 = .ok (.dup, 1) := zD (q := (49, .dup, 1)) tx_lr_init_0 23 rfl
theorem d_lr_init_50 : decode prog_1_method_1_code 50 = .ok (.invokespecial 36, 3) := zD (q := (50, .invokespecial 36, 3)) tx_lr_init_0 24 rfl
theorem d_lr_init_53 : decode prog_1_method_1_code 53 = .ok (.putfield 37, 3) := zD (q := (53, .putfield 37, 3)) tx_lr_init_0 25 rfl
theorem d_lr_init_56 : decode prog_1_method_1_code 56 = .ok (.aload_n 0, 1) := zD (q := (56, .aload_n 0, 1)) tx_lr_init_0 26 rfl
theorem d_lr_init_57 : decode prog_1_method_1_code 57 = .ok (.new 41, 3) := zD (q := (57, .new 41, 3)) tx_lr_init_0 27 rfl
theorem d_lr_init_60 : decode prog_1_method_1_code 60 = .ok (.dup, 1) := zD (q := (60, .dup, 1)) tx_lr_init_0 28 rfl
theorem d_lr_init_61 : decode prog_1_method_1_code 61 = .ok (.aload_n 0, 1) := zD (q := (61, .aload_n 0, 1)) tx_lr_init_0 29 rfl
theorem d_lr_init_62 : decode prog_1_method_1_code 62 = .ok (.getfield 14, 3) := zD (q := (62, .getfield 14, 3)) tx_lr_init_0 30 rfl
theorem d_lr_init_65 : decode prog_1_method_1_code 65 = .ok (.aload_n 0, 1) := zD (q := (65, .aload_n 0, 1)) tx_lr_init_0 31 rfl
theorem d_lr_init_66 : decode prog_1_method_1_code 66 = .ok (.getfield 37, 3) := zD (q := (66, .getfield 37, 3)) tx_lr_init_0 32 rfl
theorem d_lr_init_69 : decode prog_1_method_1_code 69 = .ok (.invokespecial 43, 3) := zD (q := (69, .invokespecial 43, 3)) tx_lr_init_0 33 rfl
theorem d_lr_init_72 : decode prog_1_method_1_code 72 = .ok (.putfield 46, 3) := zD (q := (72, .putfield 46, 3)) tx_lr_init_0 34 rfl
theorem d_lr_init_75 : decode prog_1_method_1_code 75 = .ok (.aload_n 0, 1) := zD (q := (75, .aload_n 0, 1)) tx_lr_init_0 35 rfl
theorem d_lr_init_76 : decode prog_1_method_1_code 76 = .ok (.new 50, 3) := zD (q := (76, .new 50, 3)) tx_lr_init_0 36 rfl
theorem d_lr_init_79 : decode prog_1_method_1_code 79 = .ok (.dup, 1) := zD (q := (79, .dup, 1)) tx_lr_init_0 37 rfl
theorem d_lr_init_80 : decode prog_1_method_1_code 80 = .ok (.aload_n 0, 1) := zD (q := (80, .aload_n 0, 1)) tx_lr_init_0 38 rfl
theorem d_lr_init_81 : decode prog_1_method_1_code 81 = .ok (.getfield 14, 3) := zD (q := (81, .getfield 14, 3)) tx_lr_init_0 39 rfl
theorem d_lr_init_84 : decode prog_1_method_1_code 84 = .ok (.aload_n 0, 1) := zD (q := (84, .aload_n 0, 1)) tx_lr_init_0 40 rfl
theorem d_lr_init_85 : decode prog_1_method_1_code 85 = .ok (.getfield 46, 3) := zD (q := (85, .getfield 46, 3)) tx_lr_init_0 41 rfl
theorem d_lr_init_88 : decode prog_1_method_1_code 88 = .ok (.invokespecial 52, 3) := zD (q := (88, .invokespecial 52, 3)) tx_lr_init_0 42 rfl
theorem d_lr_init_91 : decode prog_1_method_1_code 91 = .ok (.putfield 55, 3) := zD (q := (91, .putfield 55, 3)) tx_lr_init_0 43 rfl
theorem d_lr_init_94 : decode prog_1_method_1_code 94 = .ok (.return_, 1) := zD (q := (94, .return_, 1)) tx_lr_init_0 44 rfl
def T_lr_makePlain_0 : List (Nat × Instr × Nat) := [(0, .aload_n 0, 1), (1, .getfield 14, 3), (4, .iload_n 1, 1), (5, .invokevirtual 125, 3), (8, .aload_n 0, 1), (9, .invokevirtual 72, 3), (12, .aload_n 0, 1), (13, .getfield 14, 3), (16, .invokevirtual 129, 3), (19, .ireturn, 1)]
theorem tx_lr_makePlain_0 : zdec prog_1_method_7_code T_lr_makePlain_0 = true := by decide +kernel
theorem d_lr_makePlain_0 : decode prog_1_method_7_code 0 = .ok (.aload_n 0, 1) := zD (q := (0, .aload_n 0, 1)) tx_lr_makePlain_0 0 rfl
theorem d_lr_makePlain_1 : decode prog_1_method_7_code 1 = .ok (.getfield 14, 3) := zD (q := (1, .getfield 14, 3)) tx_lr_makePlain_0 1 rfl
theorem d_lr_makePlain_4 : decode prog_1_method_7_code 4 = .ok (.iload_n 1, 1) := zD (q := (4, .iload_n 1, 1)) tx_lr_makePlain_0 2 rfl
theorem d_lr_makePlain_5 : decode prog_1_method_7_code 5 = .ok (.invokevirtual 125, 3) := zD (q := (5, .invokevirtual 125, 3)) tx_lr_makePlain_0 3 rfl
theorem d_lr_makePlain_8 : decode prog_1_method_7_code 8 = .ok (.aload_n 0, 1) := zD (q := (8, .aload_n 0, 1)) tx_lr_makePlain_0 4 rfl
theorem d_lr_makePlain_9 : decode prog_1_method_7_code 9 = .ok (.invokevirtual 72, 3) := zD (q := (9, .invokevirtual 72, 3)) tx_lr_makePlain_0 5 rfl
theorem d_lr_makePlain_12 : decode prog_1_method_7_code 12 = .ok (.aload_n 0, 1) := zD (q := (12, .aload_n 0, 1)) tx_lr_makePlain_0 6 rfl
theorem d_lr_makePlain_13 : decode prog_1_method_7_code 13 = .ok (.getfield 14, 3) := zD (q := (13, .getfield 14, 3)) tx_lr_makePlain_0 7 rfl
theorem d_lr_makePlain_16 : decode prog_1_method_7_code 16 = .ok (.invokevirtual 129, 3) := zD (q := (16, .invokevirtual 129, 3)) tx_lr_makePlain_0 8 rfl
theorem d_lr_makePlain_19 : decode prog_1_method_7_code 19 = .ok (.ireturn, 1) := zD (q := (19, .ireturn, 1)) tx_lr_makePlain_0 9 rfl
def T_lr_singleRounds_0 : List (Nat × Instr × Nat) := [(0, .iload_n 0, 1), (1, .iconst 2, 1), (2, .irem, 1), (3, .ifCond .ne 9, 3), (6, .iload_n 0, 1), (7, .iconst 1, 1), (8, .isub, 1), (9, .goto 4, 3), (12, .iload_n 0, 1), (13, .ireturn, 1)]
theorem tx_lr_singleRounds_0 : zdec prog_1_method_29_code T_lr_singleRounds_0 = true := by decide +kernel
theorem d_lr_singleRounds_0 : decode prog_1_method_29_code 0 = .ok (.iload_n 0, 1) := zD (q := (0, .iload_n 0, 1)) tx_lr_singleRounds_0 0 rfl
theorem d_lr_singleRounds_1 : decode prog_1_method_29_code 1 = .ok (.iconst 2, 1) := zD (q := (1, .iconst 2, 1)) tx_lr_singleRounds_0 1 rfl
theorem d_lr_singleRounds_2 : decode prog_1_method_29_code 2 = .ok (.irem, 1) := zD (q := (2, .irem, 1)) tx_lr_singleRounds_0 2 rfl
theorem d_lr_singleRounds_3 : decode prog_1_method_29_code 3 = .ok (.ifCond .ne 9, 3) := zD (q := (3, .ifCond .ne 9, 3)) tx_lr_singleRounds_0 3 rfl
theorem d_lr_singleRounds_6 : decode prog_1_method_29_code 6 = .ok (.iload_n 0, 1) := zD (q := (6, .iload_n 0, 1)) tx_lr_singleRounds_0 4 rfl
theorem d_lr_singleRounds_7 : decode prog_1_method_29_code 7 = .ok (.iconst 1, 1) := zD (q := (7, .iconst 1, 1)) tx_lr_singleRounds_0 5 rfl
theorem d_lr_singleRounds_8 : decode prog_1_method_29_code 8 = .ok (.isub, 1) := zD (q := (8, .isub, 1)) tx_lr_singleRounds_0 6 rfl
theorem d_lr_singleRounds_9 : decode prog_1_method_29_code 9 = .ok (.goto 4, 3) := zD (q := (9, .goto 4, 3)) tx_lr_singleRounds_0 7 rfl
theorem d_lr_singleRounds_12 : decode prog_1_method_29_code 12 = .ok (.iload_n 0, 1) := zD (q := (12, .iload_n 0, 1)) tx_lr_singleRounds_0 8 rfl
theorem d_lr_singleRounds_13 : decode prog_1_method_29_code 13 = .ok (.ireturn, 1) := zD (q := (13, .ireturn, 1)) tx_lr_singleRounds_0 9 rfl
def T_lr_forgetSeason_0 : List (Nat × Instr × Nat) := [(0, .aload_n 0, 1), (1, .getfield 37, 3), (4, .invokevirtual 258, 3), (7, .aload_n 0, 1), (8, .getfield 46, 3), (11, .invokevirtual 259, 3), (14, .aload_n 0, 1), (15, .getfield 55, 3), (18, .invokevirtual 260, 3), (21, .return_, 1)]
theorem tx_lr_forgetSeason_0 : zdec prog_1_method_22_code T_lr_forgetSeason_0 = true := by decide +kernel
theorem d_lr_forgetSeason_0 : decode prog_1_method_22_code 0 = .ok (.aload_n 0, 1) := zD (q := (0, .aload_n 0, 1)) tx_lr_forgetSeason_0 0 rfl
theorem d_lr_forgetSeason_1 : decode prog_1_method_22_code 1 = .ok (.getfield 37, 3) := zD (q := (1, .getfield 37, 3)) tx_lr_forgetSeason_0 1 rfl
theorem d_lr_forgetSeason_4 : decode prog_1_method_22_code 4 = .ok (.invokevirtual 258, 3) := zD (q := (4, .invokevirtual 258, 3)) tx_lr_forgetSeason_0 2 rfl
theorem d_lr_forgetSeason_7 : decode prog_1_method_22_code 7 = .ok (.aload_n 0, 1) := zD (q := (7, .aload_n 0, 1)) tx_lr_forgetSeason_0 3 rfl
theorem d_lr_forgetSeason_8 : decode prog_1_method_22_code 8 = .ok (.getfield 46, 3) := zD (q := (8, .getfield 46, 3)) tx_lr_forgetSeason_0 4 rfl
theorem d_lr_forgetSeason_11 : decode prog_1_method_22_code 11 = .ok (.invokevirtual 259, 3) := zD (q := (11, .invokevirtual 259, 3)) tx_lr_forgetSeason_0 5 rfl
theorem d_lr_forgetSeason_14 : decode prog_1_method_22_code 14 = .ok (.aload_n 0, 1) := zD (q := (14, .aload_n 0, 1)) tx_lr_forgetSeason_0 6 rfl
theorem d_lr_forgetSeason_15 : decode prog_1_method_22_code 15 = .ok (.getfield 55, 3) := zD (q := (15, .getfield 55, 3)) tx_lr_forgetSeason_0 7 rfl
theorem d_lr_forgetSeason_18 : decode prog_1_method_22_code 18 = .ok (.invokevirtual 260, 3) := zD (q := (18, .invokevirtual 260, 3)) tx_lr_forgetSeason_0 8 rfl
theorem d_lr_forgetSeason_21 : decode prog_1_method_22_code 21 = .ok (.return_, 1) := zD (q := (21, .return_, 1)) tx_lr_forgetSeason_0 9 rfl
def T_lr_rounds_0 : List (Nat × Instr × Nat) := [(0, .aload_n 0, 1), (1, .getfield 14, 3), (4, .invokevirtual 129, 3), (7, .ireturn, 1)]
theorem tx_lr_rounds_0 : zdec prog_1_method_9_code T_lr_rounds_0 = true := by decide +kernel
theorem d_lr_rounds_0 : decode prog_1_method_9_code 0 = .ok (.aload_n 0, 1) := zD (q := (0, .aload_n 0, 1)) tx_lr_rounds_0 0 rfl
theorem d_lr_rounds_1 : decode prog_1_method_9_code 1 = .ok (.getfield 14, 3) := zD (q := (1, .getfield 14, 3)) tx_lr_rounds_0 1 rfl
theorem d_lr_rounds_4 : decode prog_1_method_9_code 4 = .ok (.invokevirtual 129, 3) := zD (q := (4, .invokevirtual 129, 3)) tx_lr_rounds_0 2 rfl
theorem d_lr_rounds_7 : decode prog_1_method_9_code 7 = .ok (.ireturn, 1) := zD (q := (7, .ireturn, 1)) tx_lr_rounds_0 3 rfl
def T_lr_verify_0 : List (Nat × Instr × Nat) := [(0, .aload_n 0, 1), (1, .getfield 21, 3), (4, .aload_n 0, 1), (5, .getfield 14, 3), (8, .invokevirtual 172, 3), (11, .ireturn, 1)]
theorem tx_lr_verify_0 : zdec prog_1_method_13_code T_lr_verify_0 = true := by decide +kernel
theorem d_lr_verify_0 : decode prog_1_method_13_code 0 = .ok (.aload_n 0, 1) := zD (q := (0, .aload_n 0, 1)) tx_lr_verify_0 0 rfl
theorem d_lr_verify_1 : decode prog_1_method_13_code 1 = .ok (.getfield 21, 3) := zD (q := (1, .getfield 21, 3)) tx_lr_verify_0 1 rfl
theorem d_lr_verify_4 : decode prog_1_method_13_code 4 = .ok (.aload_n 0, 1) := zD (q := (4, .aload_n 0, 1)) tx_lr_verify_0 2 rfl
theorem d_lr_verify_5 : decode prog_1_method_13_code 5 = .ok (.getfield 14, 3) := zD (q := (5, .getfield 14, 3)) tx_lr_verify_0 3 rfl
theorem d_lr_verify_8 : decode prog_1_method_13_code 8 = .ok (.invokevirtual 172, 3) := zD (q := (8, .invokevirtual 172, 3)) tx_lr_verify_0 4 rfl
theorem d_lr_verify_11 : decode prog_1_method_13_code 11 = .ok (.ireturn, 1) := zD (q := (11, .ireturn, 1)) tx_lr_verify_0 5 rfl
def T_lr_hasBit_0 : List (Nat × Instr × Nat) := [(0, .iload_n 0, 1), (1, .iload_n 1, 1), (2, .ishr, 1), (3, .iconst 1, 1), (4, .iand, 1), (5, .ifCond .eq 7, 3), (8, .iconst 1, 1), (9, .goto 4, 3), (12, .iconst 0, 1), (13, .ireturn, 1)]
theorem tx_lr_hasBit_0 : zdec prog_1_method_28_code T_lr_hasBit_0 = true := by decide +kernel
theorem d_lr_hasBit_0 : decode prog_1_method_28_code 0 = .ok (.iload_n 0, 1) := zD (q := (0, .iload_n 0, 1)) tx_lr_hasBit_0 0 rfl
theorem d_lr_hasBit_1 : decode prog_1_method_28_code 1 = .ok (.iload_n 1, 1) := zD (q := (1, .iload_n 1, 1)) tx_lr_hasBit_0 1 rfl
theorem d_lr_hasBit_2 : decode prog_1_method_28_code 2 = .ok (.ishr, 1) := zD (q := (2, .ishr, 1)) tx_lr_hasBit_0 2 rfl
theorem d_lr_hasBit_3 : decode prog_1_method_28_code 3 = .ok (.iconst 1, 1) := zD (q := (3, .iconst 1, 1)) tx_lr_hasBit_0 3 rfl
theorem d_lr_hasBit_4 : decode prog_1_method_28_code 4 = .ok (.iand, 1) := zD (q := (4, .iand, 1)) tx_lr_hasBit_0 4 rfl
theorem d_lr_hasBit_5 : decode prog_1_method_28_code 5 = .ok (.ifCond .eq 7, 3) := zD (q := (5, .ifCond .eq 7, 3)) tx_lr_hasBit_0 5 rfl
theorem d_lr_hasBit_8 : decode prog_1_method_28_code 8 = .ok (.iconst 1, 1) := zD (q := (8, .iconst 1, 1)) tx_lr_hasBit_0 6 rfl
theorem d_lr_hasBit_9 : decode prog_1_method_28_code 9 = .ok (.goto 4, 3) := zD (q := (9, .goto 4, 3)) tx_lr_hasBit_0 7 rfl
theorem d_lr_hasBit_12 : decode prog_1_method_28_code 12 = .ok (.iconst 0, 1) := zD (q := (12, .iconst 0, 1)) tx_lr_hasBit_0 8 rfl
theorem d_lr_hasBit_13 : decode prog_1_method_28_code 13 = .ok (.ireturn, 1) := zD (q := (13, .ireturn, 1)) tx_lr_hasBit_0 9 rfl
def T_lr_missing_0 : List (Nat × Instr × Nat) := [(0, .aload_n 0, 1), (1, .getfield 46, 3), (4, .invokevirtual 248, 3), (7, .ireturn, 1)]
theorem tx_lr_missing_0 : zdec prog_1_method_19_code T_lr_missing_0 = true := by decide +kernel
theorem d_lr_missing_0 : decode prog_1_method_19_code 0 = .ok (.aload_n 0, 1) := zD (q := (0, .aload_n 0, 1)) tx_lr_missing_0 0 rfl
theorem d_lr_missing_1 : decode prog_1_method_19_code 1 = .ok (.getfield 46, 3) := zD (q := (1, .getfield 46, 3)) tx_lr_missing_0 1 rfl
theorem d_lr_missing_4 : decode prog_1_method_19_code 4 = .ok (.invokevirtual 248, 3) := zD (q := (4, .invokevirtual 248, 3)) tx_lr_missing_0 2 rfl
theorem d_lr_missing_7 : decode prog_1_method_19_code 7 = .ok (.ireturn, 1) := zD (q := (7, .ireturn, 1)) tx_lr_missing_0 3 rfl
def T_lr_spot_0 : List (Nat × Instr × Nat) := [(0, .iload_n 0, 1), (1, .bipush 20, 2), (3, .imul, 1), (4, .iload_n 1, 1), (5, .iadd, 1), (6, .ireturn, 1)]
theorem tx_lr_spot_0 : zdec prog_1_method_30_code T_lr_spot_0 = true := by decide +kernel
theorem d_lr_spot_0 : decode prog_1_method_30_code 0 = .ok (.iload_n 0, 1) := zD (q := (0, .iload_n 0, 1)) tx_lr_spot_0 0 rfl
theorem d_lr_spot_1 : decode prog_1_method_30_code 1 = .ok (.bipush 20, 2) := zD (q := (1, .bipush 20, 2)) tx_lr_spot_0 1 rfl
theorem d_lr_spot_3 : decode prog_1_method_30_code 3 = .ok (.imul, 1) := zD (q := (3, .imul, 1)) tx_lr_spot_0 2 rfl
theorem d_lr_spot_4 : decode prog_1_method_30_code 4 = .ok (.iload_n 1, 1) := zD (q := (4, .iload_n 1, 1)) tx_lr_spot_0 3 rfl
theorem d_lr_spot_5 : decode prog_1_method_30_code 5 = .ok (.iadd, 1) := zD (q := (5, .iadd, 1)) tx_lr_spot_0 4 rfl
theorem d_lr_spot_6 : decode prog_1_method_30_code 6 = .ok (.ireturn, 1) := zD (q := (6, .ireturn, 1)) tx_lr_spot_0 5 rfl
def T_lr_teams_0 : List (Nat × Instr × Nat) := [(0, .iload_n 1, 1), (1, .iconst 4, 1), (2, .if_icmp .lt 9, 3), (5, .iload_n 1, 1), (6, .bipush 20, 2), (8, .if_icmp .le 13, 3), (11, .new 59, 3), (14, .dup, 1), (15, .ldc 61, 2), (17, .invokespecial 63, 3), (20, .athrow, 1), (21, .aload_n 0, 1), (22, .getfield 14, 3), (25, .iload_n 1, 1), (26, .iconst 0, 1), (27, .invokevirtual 66, 3), (30, .aload_n 0, 1), (31, .getfield 21, 3), (34, .invokevirtual 69, 3), (37, .aload_n 0, 1), (38, .invokevirtual 72, 3), (41, .return_, 1)]
theorem tx_lr_teams_0 : zdec prog_1_method_2_code T_lr_teams_0 = true := by decide +kernel
theorem d_lr_teams_0 : decode prog_1_method_2_code 0 = .ok (.iload_n 1, 1) := zD (q := (0, .iload_n 1, 1)) tx_lr_teams_0 0 rfl
theorem d_lr_teams_1 : decode prog_1_method_2_code 1 = .ok (.iconst 4, 1) := zD (q := (1, .iconst 4, 1)) tx_lr_teams_0 1 rfl
theorem d_lr_teams_2 : decode prog_1_method_2_code 2 = .ok (.if_icmp .lt 9, 3) := zD (q := (2, .if_icmp .lt 9, 3)) tx_lr_teams_0 2 rfl
theorem d_lr_teams_5 : decode prog_1_method_2_code 5 = .ok (.iload_n 1, 1) := zD (q := (5, .iload_n 1, 1)) tx_lr_teams_0 3 rfl
theorem d_lr_teams_6 : decode prog_1_method_2_code 6 = .ok (.bipush 20, 2) := zD (q := (6, .bipush 20, 2)) tx_lr_teams_0 4 rfl
theorem d_lr_teams_8 : decode prog_1_method_2_code 8 = .ok (.if_icmp .le 13, 3) := zD (q := (8, .if_icmp .le 13, 3)) tx_lr_teams_0 5 rfl
theorem d_lr_teams_11 : decode prog_1_method_2_code 11 = .ok (.new 59, 3) := zD (q := (11, .new 59, 3)) tx_lr_teams_0 6 rfl
theorem d_lr_teams_14 : decode prog_1_method_2_code 14 = .ok (.dup, 1) := zD (q := (14, .dup, 1)) tx_lr_teams_0 7 rfl
theorem d_lr_teams_15 : decode prog_1_method_2_code 15 = .ok (.ldc 61, 2) := zD (q := (15, .ldc 61, 2)) tx_lr_teams_0 8 rfl
theorem d_lr_teams_17 : decode prog_1_method_2_code 17 = .ok (.invokespecial 63, 3) := zD (q := (17, .invokespecial 63, 3)) tx_lr_teams_0 9 rfl
theorem d_lr_teams_20 : decode prog_1_method_2_code 20 = .ok (.athrow, 1) := zD (q := (20, .athrow, 1)) tx_lr_teams_0 10 rfl
theorem d_lr_teams_21 : decode prog_1_method_2_code 21 = .ok (.aload_n 0, 1) := zD (q := (21, .aload_n 0, 1)) tx_lr_teams_0 11 rfl
theorem d_lr_teams_22 : decode prog_1_method_2_code 22 = .ok (.getfield 14, 3) := zD (q := (22, .getfield 14, 3)) tx_lr_teams_0 12 rfl
theorem d_lr_teams_25 : decode prog_1_method_2_code 25 = .ok (.iload_n 1, 1) := zD (q := (25, .iload_n 1, 1)) tx_lr_teams_0 13 rfl
theorem d_lr_teams_26 : decode prog_1_method_2_code 26 = .ok (.iconst 0, 1) := zD (q := (26, .iconst 0, 1)) tx_lr_teams_0 14 rfl
theorem d_lr_teams_27 : decode prog_1_method_2_code 27 = .ok (.invokevirtual 66, 3) := zD (q := (27, .invokevirtual 66, 3)) tx_lr_teams_0 15 rfl
theorem d_lr_teams_30 : decode prog_1_method_2_code 30 = .ok (.aload_n 0, 1) := zD (q := (30, .aload_n 0, 1)) tx_lr_teams_0 16 rfl
theorem d_lr_teams_31 : decode prog_1_method_2_code 31 = .ok (.getfield 21, 3) := zD (q := (31, .getfield 21, 3)) tx_lr_teams_0 17 rfl
theorem d_lr_teams_34 : decode prog_1_method_2_code 34 = .ok (.invokevirtual 69, 3) := zD (q := (34, .invokevirtual 69, 3)) tx_lr_teams_0 18 rfl
theorem d_lr_teams_37 : decode prog_1_method_2_code 37 = .ok (.aload_n 0, 1) := zD (q := (37, .aload_n 0, 1)) tx_lr_teams_0 19 rfl
theorem d_lr_teams_38 : decode prog_1_method_2_code 38 = .ok (.invokevirtual 72, 3) := zD (q := (38, .invokevirtual 72, 3)) tx_lr_teams_0 20 rfl
theorem d_lr_teams_41 : decode prog_1_method_2_code 41 = .ok (.return_, 1) := zD (q := (41, .return_, 1)) tx_lr_teams_0 21 rfl
def T_lr_ban_0 : List (Nat × Instr × Nat) := [(0, .aload_n 0, 1), (1, .getfield 14, 3), (4, .iload_n 1, 1), (5, .invokevirtual 75, 3), (8, .ifCond .eq 10, 3), (11, .iload_n 2, 1), (12, .invokestatic 79, 3), (15, .ifCond .ne 13, 3), (18, .new 59, 3), (21, .dup, 1), (22, .ldc 82, 2), (24, .invokespecial 63, 3), (27, .athrow, 1), (28, .iload_n 3, 1), (29, .ifCond .eq 18, 3), (32, .iload_n 3, 1), (33, .iconst 1, 1), (34, .if_icmp .eq 13, 3), (37, .new 59, 3), (40, .dup, 1), (41, .ldc 84, 2), (43, .invokespecial 63, 3), (46, .athrow, 1), (47, .aload_n 0, 1), (48, .getfield 21, 3), (51, .iload_n 1, 1), (52, .iload_n 2, 1), (53, .iload_n 3, 1), (54, .invokevirtual 86, 3), (57, .ireturn, 1)]
theorem tx_lr_ban_0 : zdec prog_1_method_3_code T_lr_ban_0 = true := by decide +kernel
theorem d_lr_ban_0 : decode prog_1_method_3_code 0 = .ok (.aload_n 0, 1) := zD (q := (0, .aload_n 0, 1)) tx_lr_ban_0 0 rfl
theorem d_lr_ban_1 : decode prog_1_method_3_code 1 = .ok (.getfield 14, 3) := zD (q := (1, .getfield 14, 3)) tx_lr_ban_0 1 rfl
theorem d_lr_ban_4 : decode prog_1_method_3_code 4 = .ok (.iload_n 1, 1) := zD (q := (4, .iload_n 1, 1)) tx_lr_ban_0 2 rfl
theorem d_lr_ban_5 : decode prog_1_method_3_code 5 = .ok (.invokevirtual 75, 3) := zD (q := (5, .invokevirtual 75, 3)) tx_lr_ban_0 3 rfl
theorem d_lr_ban_8 : decode prog_1_method_3_code 8 = .ok (.ifCond .eq 10, 3) := zD (q := (8, .ifCond .eq 10, 3)) tx_lr_ban_0 4 rfl
theorem d_lr_ban_11 : decode prog_1_method_3_code 11 = .ok (.iload_n 2, 1) := zD (q := (11, .iload_n 2, 1)) tx_lr_ban_0 5 rfl
theorem d_lr_ban_12 : decode prog_1_method_3_code 12 = .ok (.invokestatic 79, 3) := zD (q := (12, .invokestatic 79, 3)) tx_lr_ban_0 6 rfl
theorem d_lr_ban_15 : decode prog_1_method_3_code 15 = .ok (.ifCond .ne 13, 3) := zD (q := (15, .ifCond .ne 13, 3)) tx_lr_ban_0 7 rfl
theorem d_lr_ban_18 : decode prog_1_method_3_code 18 = .ok (.new 59, 3) := zD (q := (18, .new 59, 3)) tx_lr_ban_0 8 rfl
theorem d_lr_ban_21 : decode prog_1_method_3_code 21 = .ok (.dup, 1) := zD (q := (21, .dup, 1)) tx_lr_ban_0 9 rfl
theorem d_lr_ban_22 : decode prog_1_method_3_code 22 = .ok (.ldc 82, 2) := zD (q := (22, .ldc 82, 2)) tx_lr_ban_0 10 rfl
theorem d_lr_ban_24 : decode prog_1_method_3_code 24 = .ok (.invokespecial 63, 3) := zD (q := (24, .invokespecial 63, 3)) tx_lr_ban_0 11 rfl
theorem d_lr_ban_27 : decode prog_1_method_3_code 27 = .ok (.athrow, 1) := zD (q := (27, .athrow, 1)) tx_lr_ban_0 12 rfl
theorem d_lr_ban_28 : decode prog_1_method_3_code 28 = .ok (.iload_n 3, 1) := zD (q := (28, .iload_n 3, 1)) tx_lr_ban_0 13 rfl
theorem d_lr_ban_29 : decode prog_1_method_3_code 29 = .ok (.ifCond .eq 18, 3) := zD (q := (29, .ifCond .eq 18, 3)) tx_lr_ban_0 14 rfl
theorem d_lr_ban_32 : decode prog_1_method_3_code 32 = .ok (.iload_n 3, 1) := zD (q := (32, .iload_n 3, 1)) tx_lr_ban_0 15 rfl
theorem d_lr_ban_33 : decode prog_1_method_3_code 33 = .ok (.iconst 1, 1) := zD (q := (33, .iconst 1, 1)) tx_lr_ban_0 16 rfl
theorem d_lr_ban_34 : decode prog_1_method_3_code 34 = .ok (.if_icmp .eq 13, 3) := zD (q := (34, .if_icmp .eq 13, 3)) tx_lr_ban_0 17 rfl
theorem d_lr_ban_37 : decode prog_1_method_3_code 37 = .ok (.new 59, 3) := zD (q := (37, .new 59, 3)) tx_lr_ban_0 18 rfl
theorem d_lr_ban_40 : decode prog_1_method_3_code 40 = .ok (.dup, 1) := zD (q := (40, .dup, 1)) tx_lr_ban_0 19 rfl
theorem d_lr_ban_41 : decode prog_1_method_3_code 41 = .ok (.ldc 84, 2) := zD (q := (41, .ldc 84, 2)) tx_lr_ban_0 20 rfl
theorem d_lr_ban_43 : decode prog_1_method_3_code 43 = .ok (.invokespecial 63, 3) := zD (q := (43, .invokespecial 63, 3)) tx_lr_ban_0 21 rfl
theorem d_lr_ban_46 : decode prog_1_method_3_code 46 = .ok (.athrow, 1) := zD (q := (46, .athrow, 1)) tx_lr_ban_0 22 rfl
theorem d_lr_ban_47 : decode prog_1_method_3_code 47 = .ok (.aload_n 0, 1) := zD (q := (47, .aload_n 0, 1)) tx_lr_ban_0 23 rfl
theorem d_lr_ban_48 : decode prog_1_method_3_code 48 = .ok (.getfield 21, 3) := zD (q := (48, .getfield 21, 3)) tx_lr_ban_0 24 rfl
theorem d_lr_ban_51 : decode prog_1_method_3_code 51 = .ok (.iload_n 1, 1) := zD (q := (51, .iload_n 1, 1)) tx_lr_ban_0 25 rfl
theorem d_lr_ban_52 : decode prog_1_method_3_code 52 = .ok (.iload_n 2, 1) := zD (q := (52, .iload_n 2, 1)) tx_lr_ban_0 26 rfl
theorem d_lr_ban_53 : decode prog_1_method_3_code 53 = .ok (.iload_n 3, 1) := zD (q := (53, .iload_n 3, 1)) tx_lr_ban_0 27 rfl
theorem d_lr_ban_54 : decode prog_1_method_3_code 54 = .ok (.invokevirtual 86, 3) := zD (q := (54, .invokevirtual 86, 3)) tx_lr_ban_0 28 rfl
theorem d_lr_ban_57 : decode prog_1_method_3_code 57 = .ok (.ireturn, 1) := zD (q := (57, .ireturn, 1)) tx_lr_ban_0 29 rfl
def T_lr_isWishRound_0 : List (Nat × Instr × Nat) := [(0, .iload_n 0, 1), (1, .ifCond .lt 13, 3), (4, .iload_n 0, 1), (5, .bipush 38, 2), (7, .if_icmp .gt 7, 3), (10, .iconst 1, 1), (11, .goto 4, 3), (14, .iconst 0, 1), (15, .ireturn, 1)]
theorem tx_lr_isWishRound_0 : zdec prog_1_method_26_code T_lr_isWishRound_0 = true := by decide +kernel
theorem d_lr_isWishRound_0 : decode prog_1_method_26_code 0 = .ok (.iload_n 0, 1) := zD (q := (0, .iload_n 0, 1)) tx_lr_isWishRound_0 0 rfl
theorem d_lr_isWishRound_1 : decode prog_1_method_26_code 1 = .ok (.ifCond .lt 13, 3) := zD (q := (1, .ifCond .lt 13, 3)) tx_lr_isWishRound_0 1 rfl
theorem d_lr_isWishRound_4 : decode prog_1_method_26_code 4 = .ok (.iload_n 0, 1) := zD (q := (4, .iload_n 0, 1)) tx_lr_isWishRound_0 2 rfl
theorem d_lr_isWishRound_5 : decode prog_1_method_26_code 5 = .ok (.bipush 38, 2) := zD (q := (5, .bipush 38, 2)) tx_lr_isWishRound_0 3 rfl
theorem d_lr_isWishRound_7 : decode prog_1_method_26_code 7 = .ok (.if_icmp .gt 7, 3) := zD (q := (7, .if_icmp .gt 7, 3)) tx_lr_isWishRound_0 4 rfl
theorem d_lr_isWishRound_10 : decode prog_1_method_26_code 10 = .ok (.iconst 1, 1) := zD (q := (10, .iconst 1, 1)) tx_lr_isWishRound_0 5 rfl
theorem d_lr_isWishRound_11 : decode prog_1_method_26_code 11 = .ok (.goto 4, 3) := zD (q := (11, .goto 4, 3)) tx_lr_isWishRound_0 6 rfl
theorem d_lr_isWishRound_14 : decode prog_1_method_26_code 14 = .ok (.iconst 0, 1) := zD (q := (14, .iconst 0, 1)) tx_lr_isWishRound_0 7 rfl
theorem d_lr_isWishRound_15 : decode prog_1_method_26_code 15 = .ok (.ireturn, 1) := zD (q := (15, .ireturn, 1)) tx_lr_isWishRound_0 8 rfl
def T_lr_shareGround_0 : List (Nat × Instr × Nat) := [(0, .aload_n 0, 1), (1, .iload_n 1, 1), (2, .iload_n 2, 1), (3, .invokevirtual 90, 3), (6, .ifCond .ne 13, 3), (9, .new 59, 3), (12, .dup, 1), (13, .ldc 94, 2), (15, .invokespecial 63, 3), (18, .athrow, 1), (19, .aload_n 0, 1), (20, .getfield 21, 3), (23, .invokevirtual 96, 3), (26, .ifCond .eq 13, 3), (29, .new 100, 3), (32, .dup, 1), (33, .ldc 102, 2), (35, .invokespecial 104, 3), (38, .athrow, 1), (39, .aload_n 0, 1), (40, .getfield 21, 3), (43, .iload_n 1, 1), (44, .iload_n 2, 1), (45, .invokevirtual 105, 3), (48, .ireturn, 1)]
theorem tx_lr_shareGround_0 : zdec prog_1_method_4_code T_lr_shareGround_0 = true := by decide +kernel
theorem d_lr_shareGround_0 : decode prog_1_method_4_code 0 = .ok (.aload_n 0, 1) := zD (q := (0, .aload_n 0, 1)) tx_lr_shareGround_0 0 rfl
theorem d_lr_shareGround_1 : decode prog_1_method_4_code 1 = .ok (.iload_n 1, 1) := zD (q := (1, .iload_n 1, 1)) tx_lr_shareGround_0 1 rfl
theorem d_lr_shareGround_2 : decode prog_1_method_4_code 2 = .ok (.iload_n 2, 1) := zD (q := (2, .iload_n 2, 1)) tx_lr_shareGround_0 2 rfl
theorem d_lr_shareGround_3 : decode prog_1_method_4_code 3 = .ok (.invokevirtual 90, 3) := zD (q := (3, .invokevirtual 90, 3)) tx_lr_shareGround_0 3 rfl
theorem d_lr_shareGround_6 : decode prog_1_method_4_code 6 = .ok (.ifCond .ne 13, 3) := zD (q := (6, .ifCond .ne 13, 3)) tx_lr_shareGround_0 4 rfl
theorem d_lr_shareGround_9 : decode prog_1_method_4_code 9 = .ok (.new 59, 3) := zD (q := (9, .new 59, 3)) tx_lr_shareGround_0 5 rfl
theorem d_lr_shareGround_12 : decode prog_1_method_4_code 12 = .ok (.dup, 1) := zD (q := (12, .dup, 1)) tx_lr_shareGround_0 6 rfl
theorem d_lr_shareGround_13 : decode prog_1_method_4_code 13 = .ok (.ldc 94, 2) := zD (q := (13, .ldc 94, 2)) tx_lr_shareGround_0 7 rfl
theorem d_lr_shareGround_15 : decode prog_1_method_4_code 15 = .ok (.invokespecial 63, 3) := zD (q := (15, .invokespecial 63, 3)) tx_lr_shareGround_0 8 rfl
theorem d_lr_shareGround_18 : decode prog_1_method_4_code 18 = .ok (.athrow, 1) := zD (q := (18, .athrow, 1)) tx_lr_shareGround_0 9 rfl
theorem d_lr_shareGround_19 : decode prog_1_method_4_code 19 = .ok (.aload_n 0, 1) := zD (q := (19, .aload_n 0, 1)) tx_lr_shareGround_0 10 rfl
theorem d_lr_shareGround_20 : decode prog_1_method_4_code 20 = .ok (.getfield 21, 3) := zD (q := (20, .getfield 21, 3)) tx_lr_shareGround_0 11 rfl
theorem d_lr_shareGround_23 : decode prog_1_method_4_code 23 = .ok (.invokevirtual 96, 3) := zD (q := (23, .invokevirtual 96, 3)) tx_lr_shareGround_0 12 rfl
theorem d_lr_shareGround_26 : decode prog_1_method_4_code 26 = .ok (.ifCond .eq 13, 3) := zD (q := (26, .ifCond .eq 13, 3)) tx_lr_shareGround_0 13 rfl
theorem d_lr_shareGround_29 : decode prog_1_method_4_code 29 = .ok (.new 100, 3) := zD (q := (29, .new 100, 3)) tx_lr_shareGround_0 14 rfl
theorem d_lr_shareGround_32 : decode prog_1_method_4_code 32 = .ok (.dup, 1) := zD (q := (32, .dup, 1)) tx_lr_shareGround_0 15 rfl
theorem d_lr_shareGround_33 : decode prog_1_method_4_code 33 = .ok (.ldc 102, 2) := zD (q := (33, .ldc 102, 2)) tx_lr_shareGround_0 16 rfl
theorem d_lr_shareGround_35 : decode prog_1_method_4_code 35 = .ok (.invokespecial 104, 3) := zD (q := (35, .invokespecial 104, 3)) tx_lr_shareGround_0 17 rfl
theorem d_lr_shareGround_38 : decode prog_1_method_4_code 38 = .ok (.athrow, 1) := zD (q := (38, .athrow, 1)) tx_lr_shareGround_0 18 rfl
theorem d_lr_shareGround_39 : decode prog_1_method_4_code 39 = .ok (.aload_n 0, 1) := zD (q := (39, .aload_n 0, 1)) tx_lr_shareGround_0 19 rfl
theorem d_lr_shareGround_40 : decode prog_1_method_4_code 40 = .ok (.getfield 21, 3) := zD (q := (40, .getfield 21, 3)) tx_lr_shareGround_0 20 rfl
theorem d_lr_shareGround_43 : decode prog_1_method_4_code 43 = .ok (.iload_n 1, 1) := zD (q := (43, .iload_n 1, 1)) tx_lr_shareGround_0 21 rfl
theorem d_lr_shareGround_44 : decode prog_1_method_4_code 44 = .ok (.iload_n 2, 1) := zD (q := (44, .iload_n 2, 1)) tx_lr_shareGround_0 22 rfl
theorem d_lr_shareGround_45 : decode prog_1_method_4_code 45 = .ok (.invokevirtual 105, 3) := zD (q := (45, .invokevirtual 105, 3)) tx_lr_shareGround_0 23 rfl
theorem d_lr_shareGround_48 : decode prog_1_method_4_code 48 = .ok (.ireturn, 1) := zD (q := (48, .ireturn, 1)) tx_lr_shareGround_0 24 rfl
def T_lr_areTwoTeams_0 : List (Nat × Instr × Nat) := [(0, .aload_n 0, 1), (1, .getfield 14, 3), (4, .iload_n 1, 1), (5, .invokevirtual 75, 3), (8, .ifCond .eq 23, 3), (11, .aload_n 0, 1), (12, .getfield 14, 3), (15, .iload_n 2, 1), (16, .invokevirtual 75, 3), (19, .ifCond .eq 12, 3), (22, .iload_n 1, 1), (23, .iload_n 2, 1), (24, .if_icmp .eq 7, 3), (27, .iconst 1, 1), (28, .goto 4, 3), (31, .iconst 0, 1), (32, .ireturn, 1)]
theorem tx_lr_areTwoTeams_0 : zdec prog_1_method_23_code T_lr_areTwoTeams_0 = true := by decide +kernel
theorem d_lr_areTwoTeams_0 : decode prog_1_method_23_code 0 = .ok (.aload_n 0, 1) := zD (q := (0, .aload_n 0, 1)) tx_lr_areTwoTeams_0 0 rfl
theorem d_lr_areTwoTeams_1 : decode prog_1_method_23_code 1 = .ok (.getfield 14, 3) := zD (q := (1, .getfield 14, 3)) tx_lr_areTwoTeams_0 1 rfl
theorem d_lr_areTwoTeams_4 : decode prog_1_method_23_code 4 = .ok (.iload_n 1, 1) := zD (q := (4, .iload_n 1, 1)) tx_lr_areTwoTeams_0 2 rfl
theorem d_lr_areTwoTeams_5 : decode prog_1_method_23_code 5 = .ok (.invokevirtual 75, 3) := zD (q := (5, .invokevirtual 75, 3)) tx_lr_areTwoTeams_0 3 rfl
theorem d_lr_areTwoTeams_8 : decode prog_1_method_23_code 8 = .ok (.ifCond .eq 23, 3) := zD (q := (8, .ifCond .eq 23, 3)) tx_lr_areTwoTeams_0 4 rfl
theorem d_lr_areTwoTeams_11 : decode prog_1_method_23_code 11 = .ok (.aload_n 0, 1) := zD (q := (11, .aload_n 0, 1)) tx_lr_areTwoTeams_0 5 rfl
theorem d_lr_areTwoTeams_12 : decode prog_1_method_23_code 12 = .ok (.getfield 14, 3) := zD (q := (12, .getfield 14, 3)) tx_lr_areTwoTeams_0 6 rfl
theorem d_lr_areTwoTeams_15 : decode prog_1_method_23_code 15 = .ok (.iload_n 2, 1) := zD (q := (15, .iload_n 2, 1)) tx_lr_areTwoTeams_0 7 rfl
theorem d_lr_areTwoTeams_16 : decode prog_1_method_23_code 16 = .ok (.invokevirtual 75, 3) := zD (q := (16, .invokevirtual 75, 3)) tx_lr_areTwoTeams_0 8 rfl
theorem d_lr_areTwoTeams_19 : decode prog_1_method_23_code 19 = .ok (.ifCond .eq 12, 3) := zD (q := (19, .ifCond .eq 12, 3)) tx_lr_areTwoTeams_0 9 rfl
theorem d_lr_areTwoTeams_22 : decode prog_1_method_23_code 22 = .ok (.iload_n 1, 1) := zD (q := (22, .iload_n 1, 1)) tx_lr_areTwoTeams_0 10 rfl
theorem d_lr_areTwoTeams_23 : decode prog_1_method_23_code 23 = .ok (.iload_n 2, 1) := zD (q := (23, .iload_n 2, 1)) tx_lr_areTwoTeams_0 11 rfl
theorem d_lr_areTwoTeams_24 : decode prog_1_method_23_code 24 = .ok (.if_icmp .eq 7, 3) := zD (q := (24, .if_icmp .eq 7, 3)) tx_lr_areTwoTeams_0 12 rfl
theorem d_lr_areTwoTeams_27 : decode prog_1_method_23_code 27 = .ok (.iconst 1, 1) := zD (q := (27, .iconst 1, 1)) tx_lr_areTwoTeams_0 13 rfl
theorem d_lr_areTwoTeams_28 : decode prog_1_method_23_code 28 = .ok (.goto 4, 3) := zD (q := (28, .goto 4, 3)) tx_lr_areTwoTeams_0 14 rfl
theorem d_lr_areTwoTeams_31 : decode prog_1_method_23_code 31 = .ok (.iconst 0, 1) := zD (q := (31, .iconst 0, 1)) tx_lr_areTwoTeams_0 15 rfl
theorem d_lr_areTwoTeams_32 : decode prog_1_method_23_code 32 = .ok (.ireturn, 1) := zD (q := (32, .ireturn, 1)) tx_lr_areTwoTeams_0 16 rfl
def T_lr_fixGame_0 : List (Nat × Instr × Nat) := [(0, .aload_n 0, 1), (1, .iload_n 1, 1), (2, .iload_n 2, 1), (3, .invokevirtual 90, 3), (6, .ifCond .eq 10, 3), (9, .iload_n 3, 1), (10, .invokestatic 79, 3), (13, .ifCond .ne 13, 3), (16, .new 59, 3), (19, .dup, 1), (20, .ldc 109, 2), (22, .invokespecial 63, 3), (25, .athrow, 1), (26, .aload_n 0, 1), (27, .getfield 21, 3), (30, .invokevirtual 111, 3), (33, .ifCond .eq 13, 3), (36, .new 100, 3), (39, .dup, 1), (40, .ldc 114, 2), (42, .invokespecial 104, 3), (45, .athrow, 1), (46, .aload_n 0, 1), (47, .getfield 21, 3), (50, .iload_n 1, 1), (51, .iload_n 2, 1), (52, .iload_n 3, 1), (53, .invokevirtual 116, 3), (56, .ireturn, 1)]
theorem tx_lr_fixGame_0 : zdec prog_1_method_5_code T_lr_fixGame_0 = true := by decide +kernel
theorem d_lr_fixGame_0 : decode prog_1_method_5_code 0 = .ok (.aload_n 0, 1) := zD (q := (0, .aload_n 0, 1)) tx_lr_fixGame_0 0 rfl
theorem d_lr_fixGame_1 : decode prog_1_method_5_code 1 = .ok (.iload_n 1, 1) := zD (q := (1, .iload_n 1, 1)) tx_lr_fixGame_0 1 rfl
theorem d_lr_fixGame_2 : decode prog_1_method_5_code 2 = .ok (.iload_n 2, 1) := zD (q := (2, .iload_n 2, 1)) tx_lr_fixGame_0 2 rfl
theorem d_lr_fixGame_3 : decode prog_1_method_5_code 3 = .ok (.invokevirtual 90, 3) := zD (q := (3, .invokevirtual 90, 3)) tx_lr_fixGame_0 3 rfl
theorem d_lr_fixGame_6 : decode prog_1_method_5_code 6 = .ok (.ifCond .eq 10, 3) := zD (q := (6, .ifCond .eq 10, 3)) tx_lr_fixGame_0 4 rfl
theorem d_lr_fixGame_9 : decode prog_1_method_5_code 9 = .ok (.iload_n 3, 1) := zD (q := (9, .iload_n 3, 1)) tx_lr_fixGame_0 5 rfl
theorem d_lr_fixGame_10 : decode prog_1_method_5_code 10 = .ok (.invokestatic 79, 3) := zD (q := (10, .invokestatic 79, 3)) tx_lr_fixGame_0 6 rfl
theorem d_lr_fixGame_13 : decode prog_1_method_5_code 13 = .ok (.ifCond .ne 13, 3) := zD (q := (13, .ifCond .ne 13, 3)) tx_lr_fixGame_0 7 rfl
theorem d_lr_fixGame_16 : decode prog_1_method_5_code 16 = .ok (.new 59, 3) := zD (q := (16, .new 59, 3)) tx_lr_fixGame_0 8 rfl
theorem d_lr_fixGame_19 : decode prog_1_method_5_code 19 = .ok (.dup, 1) := zD (q := (19, .dup, 1)) tx_lr_fixGame_0 9 rfl
theorem d_lr_fixGame_20 : decode prog_1_method_5_code 20 = .ok (.ldc 109, 2) := zD (q := (20, .ldc 109, 2)) tx_lr_fixGame_0 10 rfl
theorem d_lr_fixGame_22 : decode prog_1_method_5_code 22 = .ok (.invokespecial 63, 3) := zD (q := (22, .invokespecial 63, 3)) tx_lr_fixGame_0 11 rfl
theorem d_lr_fixGame_25 : decode prog_1_method_5_code 25 = .ok (.athrow, 1) := zD (q := (25, .athrow, 1)) tx_lr_fixGame_0 12 rfl
theorem d_lr_fixGame_26 : decode prog_1_method_5_code 26 = .ok (.aload_n 0, 1) := zD (q := (26, .aload_n 0, 1)) tx_lr_fixGame_0 13 rfl
theorem d_lr_fixGame_27 : decode prog_1_method_5_code 27 = .ok (.getfield 21, 3) := zD (q := (27, .getfield 21, 3)) tx_lr_fixGame_0 14 rfl
theorem d_lr_fixGame_30 : decode prog_1_method_5_code 30 = .ok (.invokevirtual 111, 3) := zD (q := (30, .invokevirtual 111, 3)) tx_lr_fixGame_0 15 rfl
theorem d_lr_fixGame_33 : decode prog_1_method_5_code 33 = .ok (.ifCond .eq 13, 3) := zD (q := (33, .ifCond .eq 13, 3)) tx_lr_fixGame_0 16 rfl
theorem d_lr_fixGame_36 : decode prog_1_method_5_code 36 = .ok (.new 100, 3) := zD (q := (36, .new 100, 3)) tx_lr_fixGame_0 17 rfl
theorem d_lr_fixGame_39 : decode prog_1_method_5_code 39 = .ok (.dup, 1) := zD (q := (39, .dup, 1)) tx_lr_fixGame_0 18 rfl
theorem d_lr_fixGame_40 : decode prog_1_method_5_code 40 = .ok (.ldc 114, 2) := zD (q := (40, .ldc 114, 2)) tx_lr_fixGame_0 19 rfl
theorem d_lr_fixGame_42 : decode prog_1_method_5_code 42 = .ok (.invokespecial 104, 3) := zD (q := (42, .invokespecial 104, 3)) tx_lr_fixGame_0 20 rfl
theorem d_lr_fixGame_45 : decode prog_1_method_5_code 45 = .ok (.athrow, 1) := zD (q := (45, .athrow, 1)) tx_lr_fixGame_0 21 rfl
theorem d_lr_fixGame_46 : decode prog_1_method_5_code 46 = .ok (.aload_n 0, 1) := zD (q := (46, .aload_n 0, 1)) tx_lr_fixGame_0 22 rfl
theorem d_lr_fixGame_47 : decode prog_1_method_5_code 47 = .ok (.getfield 21, 3) := zD (q := (47, .getfield 21, 3)) tx_lr_fixGame_0 23 rfl
theorem d_lr_fixGame_50 : decode prog_1_method_5_code 50 = .ok (.iload_n 1, 1) := zD (q := (50, .iload_n 1, 1)) tx_lr_fixGame_0 24 rfl
theorem d_lr_fixGame_51 : decode prog_1_method_5_code 51 = .ok (.iload_n 2, 1) := zD (q := (51, .iload_n 2, 1)) tx_lr_fixGame_0 25 rfl
theorem d_lr_fixGame_52 : decode prog_1_method_5_code 52 = .ok (.iload_n 3, 1) := zD (q := (52, .iload_n 3, 1)) tx_lr_fixGame_0 26 rfl
theorem d_lr_fixGame_53 : decode prog_1_method_5_code 53 = .ok (.invokevirtual 116, 3) := zD (q := (53, .invokevirtual 116, 3)) tx_lr_fixGame_0 27 rfl
theorem d_lr_fixGame_56 : decode prog_1_method_5_code 56 = .ok (.ireturn, 1) := zD (q := (56, .ireturn, 1)) tx_lr_fixGame_0 28 rfl
def T_lr_awayCap_0 : List (Nat × Instr × Nat) := [(0, .iload_n 1, 1), (1, .ifCond .lt 9, 3), (4, .iload_n 1, 1), (5, .bipush 19, 2), (7, .if_icmp .le 13, 3), (10, .new 59, 3), (13, .dup, 1), (14, .ldc 119, 2), (16, .invokespecial 63, 3), (19, .athrow, 1), (20, .aload_n 0, 1), (21, .getfield 21, 3), (24, .iload_n 1, 1), (25, .invokevirtual 121, 3), (28, .return_, 1)]
theorem tx_lr_awayCap_0 : zdec prog_1_method_6_code T_lr_awayCap_0 = true := by decide +kernel
theorem d_lr_awayCap_0 : decode prog_1_method_6_code 0 = .ok (.iload_n 1, 1) := zD (q := (0, .iload_n 1, 1)) tx_lr_awayCap_0 0 rfl
theorem d_lr_awayCap_1 : decode prog_1_method_6_code 1 = .ok (.ifCond .lt 9, 3) := zD (q := (1, .ifCond .lt 9, 3)) tx_lr_awayCap_0 1 rfl
theorem d_lr_awayCap_4 : decode prog_1_method_6_code 4 = .ok (.iload_n 1, 1) := zD (q := (4, .iload_n 1, 1)) tx_lr_awayCap_0 2 rfl
theorem d_lr_awayCap_5 : decode prog_1_method_6_code 5 = .ok (.bipush 19, 2) := zD (q := (5, .bipush 19, 2)) tx_lr_awayCap_0 3 rfl
theorem d_lr_awayCap_7 : decode prog_1_method_6_code 7 = .ok (.if_icmp .le 13, 3) := zD (q := (7, .if_icmp .le 13, 3)) tx_lr_awayCap_0 4 rfl
theorem d_lr_awayCap_10 : decode prog_1_method_6_code 10 = .ok (.new 59, 3) := zD (q := (10, .new 59, 3)) tx_lr_awayCap_0 5 rfl
theorem d_lr_awayCap_13 : decode prog_1_method_6_code 13 = .ok (.dup, 1) := zD (q := (13, .dup, 1)) tx_lr_awayCap_0 6 rfl
theorem d_lr_awayCap_14 : decode prog_1_method_6_code 14 = .ok (.ldc 119, 2) := zD (q := (14, .ldc 119, 2)) tx_lr_awayCap_0 7 rfl
theorem d_lr_awayCap_16 : decode prog_1_method_6_code 16 = .ok (.invokespecial 63, 3) := zD (q := (16, .invokespecial 63, 3)) tx_lr_awayCap_0 8 rfl
theorem d_lr_awayCap_19 : decode prog_1_method_6_code 19 = .ok (.athrow, 1) := zD (q := (19, .athrow, 1)) tx_lr_awayCap_0 9 rfl
theorem d_lr_awayCap_20 : decode prog_1_method_6_code 20 = .ok (.aload_n 0, 1) := zD (q := (20, .aload_n 0, 1)) tx_lr_awayCap_0 10 rfl
theorem d_lr_awayCap_21 : decode prog_1_method_6_code 21 = .ok (.getfield 21, 3) := zD (q := (21, .getfield 21, 3)) tx_lr_awayCap_0 11 rfl
theorem d_lr_awayCap_24 : decode prog_1_method_6_code 24 = .ok (.iload_n 1, 1) := zD (q := (24, .iload_n 1, 1)) tx_lr_awayCap_0 12 rfl
theorem d_lr_awayCap_25 : decode prog_1_method_6_code 25 = .ok (.invokevirtual 121, 3) := zD (q := (25, .invokevirtual 121, 3)) tx_lr_awayCap_0 13 rfl
theorem d_lr_awayCap_28 : decode prog_1_method_6_code 28 = .ok (.return_, 1) := zD (q := (28, .return_, 1)) tx_lr_awayCap_0 14 rfl
def T_lr_make_0 : List (Nat × Instr × Nat) := [(0, .iload_n 1, 1), (1, .iconst 1, 1), (2, .if_icmp .lt 10, 3), (5, .iload_n 1, 1), (6, .sipush 4000, 3), (9, .if_icmp .le 13, 3), (12, .new 59, 3), (15, .dup, 1), (16, .ldc 133, 2), (18, .invokespecial 63, 3), (21, .athrow, 1), (22, .aload_n 0, 1), (23, .getfield 14, 3), (26, .invokevirtual 135, 3), (29, .bipush 8, 2), (31, .if_icmp .le 13, 3), (34, .new 100, 3), (37, .dup, 1), (38, .ldc 138, 2), (40, .invokespecial 104, 3), (43, .athrow, 1), (44, .aload_n 0, 1), (45, .getfield 30, 3), (48, .aload_n 0, 1), (49, .getfield 14, 3), (52, .invokevirtual 135, 3), (55, .iload_n 1, 1), (56, .invokevirtual 140, 3), (59, .istore_n 2, 1), (60, .iload_n 2, 1), (61, .iconst 1, 1), (62, .if_icmp .ne 21, 3), (65, .aload_n 0, 1), (66, .getfield 14, 3), (69, .aload_n 0, 1), (70, .getfield 30, 3), (73, .invokevirtual 143, 3), (76, .invokevirtual 147, 3), (79, .aload_n 0, 1), (80, .invokevirtual 72, 3), (83, .iload_n 2, 1), (84, .ireturn, 1)]
theorem tx_lr_make_0 : zdec prog_1_method_8_code T_lr_make_0 = true := by decide +kernel
theorem d_lr_make_0 : decode prog_1_method_8_code 0 = .ok (.iload_n 1, 1) := zD (q := (0, .iload_n 1, 1)) tx_lr_make_0 0 rfl
theorem d_lr_make_1 : decode prog_1_method_8_code 1 = .ok (.iconst 1, 1) := zD (q := (1, .iconst 1, 1)) tx_lr_make_0 1 rfl
theorem d_lr_make_2 : decode prog_1_method_8_code 2 = .ok (.if_icmp .lt 10, 3) := zD (q := (2, .if_icmp .lt 10, 3)) tx_lr_make_0 2 rfl
theorem d_lr_make_5 : decode prog_1_method_8_code 5 = .ok (.iload_n 1, 1) := zD (q := (5, .iload_n 1, 1)) tx_lr_make_0 3 rfl
theorem d_lr_make_6 : decode prog_1_method_8_code 6 = .ok (.sipush 4000, 3) := zD (q := (6, .sipush 4000, 3)) tx_lr_make_0 4 rfl
theorem d_lr_make_9 : decode prog_1_method_8_code 9 = .ok (.if_icmp .le 13, 3) := zD (q := (9, .if_icmp .le 13, 3)) tx_lr_make_0 5 rfl
theorem d_lr_make_12 : decode prog_1_method_8_code 12 = .ok (.new 59, 3) := zD (q := (12, .new 59, 3)) tx_lr_make_0 6 rfl
theorem d_lr_make_15 : decode prog_1_method_8_code 15 = .ok (.dup, 1) := zD (q := (15, .dup, 1)) tx_lr_make_0 7 rfl
theorem d_lr_make_16 : decode prog_1_method_8_code 16 = .ok (.ldc 133, 2) := zD (q := (16, .ldc 133, 2)) tx_lr_make_0 8 rfl
theorem d_lr_make_18 : decode prog_1_method_8_code 18 = .ok (.invokespecial 63, 3) := zD (q := (18, .invokespecial 63, 3)) tx_lr_make_0 9 rfl
theorem d_lr_make_21 : decode prog_1_method_8_code 21 = .ok (.athrow, 1) := zD (q := (21, .athrow, 1)) tx_lr_make_0 10 rfl
theorem d_lr_make_22 : decode prog_1_method_8_code 22 = .ok (.aload_n 0, 1) := zD (q := (22, .aload_n 0, 1)) tx_lr_make_0 11 rfl
theorem d_lr_make_23 : decode prog_1_method_8_code 23 = .ok (.getfield 14, 3) := zD (q := (23, .getfield 14, 3)) tx_lr_make_0 12 rfl
theorem d_lr_make_26 : decode prog_1_method_8_code 26 = .ok (.invokevirtual 135, 3) := zD (q := (26, .invokevirtual 135, 3)) tx_lr_make_0 13 rfl
theorem d_lr_make_29 : decode prog_1_method_8_code 29 = .ok (.bipush 8, 2) := zD (q := (29, .bipush 8, 2)) tx_lr_make_0 14 rfl
theorem d_lr_make_31 : decode prog_1_method_8_code 31 = .ok (.if_icmp .le 13, 3) := zD (q := (31, .if_icmp .le 13, 3)) tx_lr_make_0 15 rfl
theorem d_lr_make_34 : decode prog_1_method_8_code 34 = .ok (.new 100, 3) := zD (q := (34, .new 100, 3)) tx_lr_make_0 16 rfl
theorem d_lr_make_37 : decode prog_1_method_8_code 37 = .ok (.dup, 1) := zD (q := (37, .dup, 1)) tx_lr_make_0 17 rfl
theorem d_lr_make_38 : decode prog_1_method_8_code 38 = .ok (.ldc 138, 2) := zD (q := (38, .ldc 138, 2)) tx_lr_make_0 18 rfl
theorem d_lr_make_40 : decode prog_1_method_8_code 40 = .ok (.invokespecial 104, 3) := zD (q := (40, .invokespecial 104, 3)) tx_lr_make_0 19 rfl
theorem d_lr_make_43 : decode prog_1_method_8_code 43 = .ok (.athrow, 1) := zD (q := (43, .athrow, 1)) tx_lr_make_0 20 rfl
theorem d_lr_make_44 : decode prog_1_method_8_code 44 = .ok (.aload_n 0, 1) := zD (q := (44, .aload_n 0, 1)) tx_lr_make_0 21 rfl
theorem d_lr_make_45 : decode prog_1_method_8_code 45 = .ok (.getfield 30, 3) := zD (q := (45, .getfield 30, 3)) tx_lr_make_0 22 rfl
theorem d_lr_make_48 : decode prog_1_method_8_code 48 = .ok (.aload_n 0, 1) := zD (q := (48, .aload_n 0, 1)) tx_lr_make_0 23 rfl
theorem d_lr_make_49 : decode prog_1_method_8_code 49 = .ok (.getfield 14, 3) := zD (q := (49, .getfield 14, 3)) tx_lr_make_0 24 rfl
theorem d_lr_make_52 : decode prog_1_method_8_code 52 = .ok (.invokevirtual 135, 3) := zD (q := (52, .invokevirtual 135, 3)) tx_lr_make_0 25 rfl
theorem d_lr_make_55 : decode prog_1_method_8_code 55 = .ok (.iload_n 1, 1) := zD (q := (55, .iload_n 1, 1)) tx_lr_make_0 26 rfl
theorem d_lr_make_56 : decode prog_1_method_8_code 56 = .ok (.invokevirtual 140, 3) := zD (q := (56, .invokevirtual 140, 3)) tx_lr_make_0 27 rfl
theorem d_lr_make_59 : decode prog_1_method_8_code 59 = .ok (.istore_n 2, 1) := zD (q := (59, .istore_n 2, 1)) tx_lr_make_0 28 rfl
theorem d_lr_make_60 : decode prog_1_method_8_code 60 = .ok (.iload_n 2, 1) := zD (q := (60, .iload_n 2, 1)) tx_lr_make_0 29 rfl
theorem d_lr_make_61 : decode prog_1_method_8_code 61 = .ok (.iconst 1, 1) := zD (q := (61, .iconst 1, 1)) tx_lr_make_0 30 rfl
theorem d_lr_make_62 : decode prog_1_method_8_code 62 = .ok (.if_icmp .ne 21, 3) := zD (q := (62, .if_icmp .ne 21, 3)) tx_lr_make_0 31 rfl
theorem d_lr_make_65 : decode prog_1_method_8_code 65 = .ok (.aload_n 0, 1) := zD (q := (65, .aload_n 0, 1)) tx_lr_make_0 32 rfl
theorem d_lr_make_66 : decode prog_1_method_8_code 66 = .ok (.getfield 14, 3) := zD (q := (66, .getfield 14, 3)) tx_lr_make_0 33 rfl
theorem d_lr_make_69 : decode prog_1_method_8_code 69 = .ok (.aload_n 0, 1) := zD (q := (69, .aload_n 0, 1)) tx_lr_make_0 34 rfl
theorem d_lr_make_70 : decode prog_1_method_8_code 70 = .ok (.getfield 30, 3) := zD (q := (70, .getfield 30, 3)) tx_lr_make_0 35 rfl
theorem d_lr_make_73 : decode prog_1_method_8_code 73 = .ok (.invokevirtual 143, 3) := zD (q := (73, .invokevirtual 143, 3)) tx_lr_make_0 36 rfl
theorem d_lr_make_76 : decode prog_1_method_8_code 76 = .ok (.invokevirtual 147, 3) := zD (q := (76, .invokevirtual 147, 3)) tx_lr_make_0 37 rfl
theorem d_lr_make_79 : decode prog_1_method_8_code 79 = .ok (.aload_n 0, 1) := zD (q := (79, .aload_n 0, 1)) tx_lr_make_0 38 rfl
theorem d_lr_make_80 : decode prog_1_method_8_code 80 = .ok (.invokevirtual 72, 3) := zD (q := (80, .invokevirtual 72, 3)) tx_lr_make_0 39 rfl
theorem d_lr_make_83 : decode prog_1_method_8_code 83 = .ok (.iload_n 2, 1) := zD (q := (83, .iload_n 2, 1)) tx_lr_make_0 40 rfl
theorem d_lr_make_84 : decode prog_1_method_8_code 84 = .ok (.ireturn, 1) := zD (q := (84, .ireturn, 1)) tx_lr_make_0 41 rfl
def T_lr_opponent_0 : List (Nat × Instr × Nat) := [(0, .aload_n 0, 1), (1, .iload_n 2, 1), (2, .iload_n 1, 1), (3, .invokevirtual 151, 3), (6, .aload_n 0, 1), (7, .getfield 14, 3), (10, .iload_n 2, 1), (11, .iload_n 1, 1), (12, .invokevirtual 154, 3), (15, .ireturn, 1)]
theorem tx_lr_opponent_0 : zdec prog_1_method_10_code T_lr_opponent_0 = true := by decide +kernel
theorem d_lr_opponent_0 : decode prog_1_method_10_code 0 = .ok (.aload_n 0, 1) := zD (q := (0, .aload_n 0, 1)) tx_lr_opponent_0 0 rfl
theorem d_lr_opponent_1 : decode prog_1_method_10_code 1 = .ok (.iload_n 2, 1) := zD (q := (1, .iload_n 2, 1)) tx_lr_opponent_0 1 rfl
theorem d_lr_opponent_2 : decode prog_1_method_10_code 2 = .ok (.iload_n 1, 1) := zD (q := (2, .iload_n 1, 1)) tx_lr_opponent_0 2 rfl
theorem d_lr_opponent_3 : decode prog_1_method_10_code 3 = .ok (.invokevirtual 151, 3) := zD (q := (3, .invokevirtual 151, 3)) tx_lr_opponent_0 3 rfl
theorem d_lr_opponent_6 : decode prog_1_method_10_code 6 = .ok (.aload_n 0, 1) := zD (q := (6, .aload_n 0, 1)) tx_lr_opponent_0 4 rfl
theorem d_lr_opponent_7 : decode prog_1_method_10_code 7 = .ok (.getfield 14, 3) := zD (q := (7, .getfield 14, 3)) tx_lr_opponent_0 5 rfl
theorem d_lr_opponent_10 : decode prog_1_method_10_code 10 = .ok (.iload_n 2, 1) := zD (q := (10, .iload_n 2, 1)) tx_lr_opponent_0 6 rfl
theorem d_lr_opponent_11 : decode prog_1_method_10_code 11 = .ok (.iload_n 1, 1) := zD (q := (11, .iload_n 1, 1)) tx_lr_opponent_0 7 rfl
theorem d_lr_opponent_12 : decode prog_1_method_10_code 12 = .ok (.invokevirtual 154, 3) := zD (q := (12, .invokevirtual 154, 3)) tx_lr_opponent_0 8 rfl
theorem d_lr_opponent_15 : decode prog_1_method_10_code 15 = .ok (.ireturn, 1) := zD (q := (15, .ireturn, 1)) tx_lr_opponent_0 9 rfl
def T_lr_requireRoundAndTeam_0 : List (Nat × Instr × Nat) := [(0, .aload_n 0, 1), (1, .getfield 14, 3), (4, .iload_n 1, 1), (5, .invokevirtual 176, 3), (8, .ifCond .eq 14, 3), (11, .aload_n 0, 1), (12, .getfield 14, 3), (15, .iload_n 2, 1), (16, .invokevirtual 75, 3), (19, .ifCond .ne 14, 3), (22, .new 163, 3), (25, .dup, 1), (26, .ldc_w 261, 3), (29, .invokespecial 167, 3), (32, .athrow, 1), (33, .return_, 1)]
theorem tx_lr_requireRoundAndTeam_0 : zdec prog_1_method_24_code T_lr_requireRoundAndTeam_0 = true := by decide +kernel
theorem d_lr_requireRoundAndTeam_0 : decode prog_1_method_24_code 0 = .ok (.aload_n 0, 1) := zD (q := (0, .aload_n 0, 1)) tx_lr_requireRoundAndTeam_0 0 rfl
theorem d_lr_requireRoundAndTeam_1 : decode prog_1_method_24_code 1 = .ok (.getfield 14, 3) := zD (q := (1, .getfield 14, 3)) tx_lr_requireRoundAndTeam_0 1 rfl
theorem d_lr_requireRoundAndTeam_4 : decode prog_1_method_24_code 4 = .ok (.iload_n 1, 1) := zD (q := (4, .iload_n 1, 1)) tx_lr_requireRoundAndTeam_0 2 rfl
theorem d_lr_requireRoundAndTeam_5 : decode prog_1_method_24_code 5 = .ok (.invokevirtual 176, 3) := zD (q := (5, .invokevirtual 176, 3)) tx_lr_requireRoundAndTeam_0 3 rfl
theorem d_lr_requireRoundAndTeam_8 : decode prog_1_method_24_code 8 = .ok (.ifCond .eq 14, 3) := zD (q := (8, .ifCond .eq 14, 3)) tx_lr_requireRoundAndTeam_0 4 rfl
theorem d_lr_requireRoundAndTeam_11 : decode prog_1_method_24_code 11 = .ok (.aload_n 0, 1) := zD (q := (11, .aload_n 0, 1)) tx_lr_requireRoundAndTeam_0 5 rfl
theorem d_lr_requireRoundAndTeam_12 : decode prog_1_method_24_code 12 = .ok (.getfield 14, 3) := zD (q := (12, .getfield 14, 3)) tx_lr_requireRoundAndTeam_0 6 rfl
theorem d_lr_requireRoundAndTeam_15 : decode prog_1_method_24_code 15 = .ok (.iload_n 2, 1) := zD (q := (15, .iload_n 2, 1)) tx_lr_requireRoundAndTeam_0 7 rfl
theorem d_lr_requireRoundAndTeam_16 : decode prog_1_method_24_code 16 = .ok (.invokevirtual 75, 3) := zD (q := (16, .invokevirtual 75, 3)) tx_lr_requireRoundAndTeam_0 8 rfl
theorem d_lr_requireRoundAndTeam_19 : decode prog_1_method_24_code 19 = .ok (.ifCond .ne 14, 3) := zD (q := (19, .ifCond .ne 14, 3)) tx_lr_requireRoundAndTeam_0 9 rfl
theorem d_lr_requireRoundAndTeam_22 : decode prog_1_method_24_code 22 = .ok (.new 163, 3) := zD (q := (22, .new 163, 3)) tx_lr_requireRoundAndTeam_0 10 rfl
theorem d_lr_requireRoundAndTeam_25 : decode prog_1_method_24_code 25 = .ok (.dup, 1) := zD (q := (25, .dup, 1)) tx_lr_requireRoundAndTeam_0 11 rfl
theorem d_lr_requireRoundAndTeam_26 : decode prog_1_method_24_code 26 = .ok (.ldc_w 261, 3) := zD (q := (26, .ldc_w 261, 3)) tx_lr_requireRoundAndTeam_0 12 rfl
theorem d_lr_requireRoundAndTeam_29 : decode prog_1_method_24_code 29 = .ok (.invokespecial 167, 3) := zD (q := (29, .invokespecial 167, 3)) tx_lr_requireRoundAndTeam_0 13 rfl
theorem d_lr_requireRoundAndTeam_32 : decode prog_1_method_24_code 32 = .ok (.athrow, 1) := zD (q := (32, .athrow, 1)) tx_lr_requireRoundAndTeam_0 14 rfl
theorem d_lr_requireRoundAndTeam_33 : decode prog_1_method_24_code 33 = .ok (.return_, 1) := zD (q := (33, .return_, 1)) tx_lr_requireRoundAndTeam_0 15 rfl
def T_lr_venue_0 : List (Nat × Instr × Nat) := [(0, .aload_n 0, 1), (1, .iload_n 2, 1), (2, .iload_n 1, 1), (3, .invokevirtual 151, 3), (6, .aload_n 0, 1), (7, .getfield 14, 3), (10, .iload_n 2, 1), (11, .iload_n 1, 1), (12, .invokevirtual 157, 3), (15, .ireturn, 1)]
theorem tx_lr_venue_0 : zdec prog_1_method_11_code T_lr_venue_0 = true := by decide +kernel
theorem d_lr_venue_0 : decode prog_1_method_11_code 0 = .ok (.aload_n 0, 1) := zD (q := (0, .aload_n 0, 1)) tx_lr_venue_0 0 rfl
theorem d_lr_venue_1 : decode prog_1_method_11_code 1 = .ok (.iload_n 2, 1) := zD (q := (1, .iload_n 2, 1)) tx_lr_venue_0 1 rfl
theorem d_lr_venue_2 : decode prog_1_method_11_code 2 = .ok (.iload_n 1, 1) := zD (q := (2, .iload_n 1, 1)) tx_lr_venue_0 2 rfl
theorem d_lr_venue_3 : decode prog_1_method_11_code 3 = .ok (.invokevirtual 151, 3) := zD (q := (3, .invokevirtual 151, 3)) tx_lr_venue_0 3 rfl
theorem d_lr_venue_6 : decode prog_1_method_11_code 6 = .ok (.aload_n 0, 1) := zD (q := (6, .aload_n 0, 1)) tx_lr_venue_0 4 rfl
theorem d_lr_venue_7 : decode prog_1_method_11_code 7 = .ok (.getfield 14, 3) := zD (q := (7, .getfield 14, 3)) tx_lr_venue_0 5 rfl
theorem d_lr_venue_10 : decode prog_1_method_11_code 10 = .ok (.iload_n 2, 1) := zD (q := (10, .iload_n 2, 1)) tx_lr_venue_0 6 rfl
theorem d_lr_venue_11 : decode prog_1_method_11_code 11 = .ok (.iload_n 1, 1) := zD (q := (11, .iload_n 1, 1)) tx_lr_venue_0 7 rfl
theorem d_lr_venue_12 : decode prog_1_method_11_code 12 = .ok (.invokevirtual 157, 3) := zD (q := (12, .invokevirtual 157, 3)) tx_lr_venue_0 8 rfl
theorem d_lr_venue_15 : decode prog_1_method_11_code 15 = .ok (.ireturn, 1) := zD (q := (15, .ireturn, 1)) tx_lr_venue_0 9 rfl
def T_lr_breaks_0 : List (Nat × Instr × Nat) := [(0, .iload_n 1, 1), (1, .iconst (-1), 1), (2, .if_icmp .ne 11, 3), (5, .aload_n 0, 1), (6, .getfield 14, 3), (9, .invokevirtual 160, 3), (12, .ireturn, 1), (13, .aload_n 0, 1), (14, .getfield 14, 3), (17, .iload_n 1, 1), (18, .invokevirtual 75, 3), (21, .ifCond .ne 13, 3), (24, .new 163, 3), (27, .dup, 1), (28, .ldc 165, 2), (30, .invokespecial 167, 3), (33, .athrow, 1), (34, .aload_n 0, 1), (35, .getfield 14, 3), (38, .iload_n 1, 1), (39, .invokevirtual 168, 3), (42, .ireturn, 1)]
theorem tx_lr_breaks_0 : zdec prog_1_method_12_code T_lr_breaks_0 = true := by decide +kernel
theorem d_lr_breaks_0 : decode prog_1_method_12_code 0 = .ok (.iload_n 1, 1) := zD (q := (0, .iload_n 1, 1)) tx_lr_breaks_0 0 rfl
theorem d_lr_breaks_1 : decode prog_1_method_12_code 1 = .ok (.iconst (-1), 1) := zD (q := (1, .iconst (-1), 1)) tx_lr_breaks_0 1 rfl
theorem d_lr_breaks_2 : decode prog_1_method_12_code 2 = .ok (.if_icmp .ne 11, 3) := zD (q := (2, .if_icmp .ne 11, 3)) tx_lr_breaks_0 2 rfl
theorem d_lr_breaks_5 : decode prog_1_method_12_code 5 = .ok (.aload_n 0, 1) := zD (q := (5, .aload_n 0, 1)) tx_lr_breaks_0 3 rfl
theorem d_lr_breaks_6 : decode prog_1_method_12_code 6 = .ok (.getfield 14, 3) := zD (q := (6, .getfield 14, 3)) tx_lr_breaks_0 4 rfl
theorem d_lr_breaks_9 : decode prog_1_method_12_code 9 = .ok (.invokevirtual 160, 3) := zD (q := (9, .invokevirtual 160, 3)) tx_lr_breaks_0 5 rfl
theorem d_lr_breaks_12 : decode prog_1_method_12_code 12 = .ok (.ireturn, 1) := zD (q := (12, .ireturn, 1)) tx_lr_breaks_0 6 rfl
theorem d_lr_breaks_13 : decode prog_1_method_12_code 13 = .ok (.aload_n 0, 1) := zD (q := (13, .aload_n 0, 1)) tx_lr_breaks_0 7 rfl
theorem d_lr_breaks_14 : decode prog_1_method_12_code 14 = .ok (.getfield 14, 3) := zD (q := (14, .getfield 14, 3)) tx_lr_breaks_0 8 rfl
theorem d_lr_breaks_17 : decode prog_1_method_12_code 17 = .ok (.iload_n 1, 1) := zD (q := (17, .iload_n 1, 1)) tx_lr_breaks_0 9 rfl
theorem d_lr_breaks_18 : decode prog_1_method_12_code 18 = .ok (.invokevirtual 75, 3) := zD (q := (18, .invokevirtual 75, 3)) tx_lr_breaks_0 10 rfl
theorem d_lr_breaks_21 : decode prog_1_method_12_code 21 = .ok (.ifCond .ne 13, 3) := zD (q := (21, .ifCond .ne 13, 3)) tx_lr_breaks_0 11 rfl
theorem d_lr_breaks_24 : decode prog_1_method_12_code 24 = .ok (.new 163, 3) := zD (q := (24, .new 163, 3)) tx_lr_breaks_0 12 rfl
theorem d_lr_breaks_27 : decode prog_1_method_12_code 27 = .ok (.dup, 1) := zD (q := (27, .dup, 1)) tx_lr_breaks_0 13 rfl
theorem d_lr_breaks_28 : decode prog_1_method_12_code 28 = .ok (.ldc 165, 2) := zD (q := (28, .ldc 165, 2)) tx_lr_breaks_0 14 rfl
theorem d_lr_breaks_30 : decode prog_1_method_12_code 30 = .ok (.invokespecial 167, 3) := zD (q := (30, .invokespecial 167, 3)) tx_lr_breaks_0 15 rfl
theorem d_lr_breaks_33 : decode prog_1_method_12_code 33 = .ok (.athrow, 1) := zD (q := (33, .athrow, 1)) tx_lr_breaks_0 16 rfl
theorem d_lr_breaks_34 : decode prog_1_method_12_code 34 = .ok (.aload_n 0, 1) := zD (q := (34, .aload_n 0, 1)) tx_lr_breaks_0 17 rfl
theorem d_lr_breaks_35 : decode prog_1_method_12_code 35 = .ok (.getfield 14, 3) := zD (q := (35, .getfield 14, 3)) tx_lr_breaks_0 18 rfl
theorem d_lr_breaks_38 : decode prog_1_method_12_code 38 = .ok (.iload_n 1, 1) := zD (q := (38, .iload_n 1, 1)) tx_lr_breaks_0 19 rfl
theorem d_lr_breaks_39 : decode prog_1_method_12_code 39 = .ok (.invokevirtual 168, 3) := zD (q := (39, .invokevirtual 168, 3)) tx_lr_breaks_0 20 rfl
theorem d_lr_breaks_42 : decode prog_1_method_12_code 42 = .ok (.ireturn, 1) := zD (q := (42, .ireturn, 1)) tx_lr_breaks_0 21 rfl
def T_lr_swapRounds_0 : List (Nat × Instr × Nat) := [(0, .aload_n 0, 1), (1, .getfield 14, 3), (4, .iload_n 1, 1), (5, .invokevirtual 176, 3), (8, .ifCond .eq 14, 3), (11, .aload_n 0, 1), (12, .getfield 14, 3), (15, .iload_n 2, 1), (16, .invokevirtual 176, 3), (19, .ifCond .ne 13, 3), (22, .new 163, 3), (25, .dup, 1), (26, .ldc 179, 2), (28, .invokespecial 167, 3), (31, .athrow, 1), (32, .aload_n 0, 1), (33, .getfield 37, 3), (36, .invokevirtual 181, 3), (39, .ifCond .gt 13, 3), (42, .aload_n 0, 1), (43, .getfield 46, 3), (46, .invokevirtual 184, 3), (49, .ifCond .le 13, 3), (52, .new 100, 3), (55, .dup, 1), (56, .ldc 185, 2), (58, .invokespecial 104, 3), (61, .athrow, 1), (62, .aload_n 0, 1), (63, .getfield 14, 3), (66, .iload_n 1, 1), (67, .iload_n 2, 1), (68, .invokevirtual 187, 3), (71, .aload_n 0, 1), (72, .getfield 21, 3), (75, .aload_n 0, 1), (76, .getfield 14, 3), (79, .invokevirtual 172, 3), (82, .ifCond .ne 5, 3), (85, .iconst 1, 1), (86, .ireturn, 1), (87, .aload_n 0, 1), (88, .getfield 14, 3), (91, .iload_n 1, 1), (92, .iload_n 2, 1), (93, .invokevirtual 187, 3), (96, .iconst 0, 1), (97, .ireturn, 1)]
theorem tx_lr_swapRounds_0 : zdec prog_1_method_14_code T_lr_swapRounds_0 = true := by decide +kernel
theorem d_lr_swapRounds_0 : decode prog_1_method_14_code 0 = .ok (.aload_n 0, 1) := zD (q := (0, .aload_n 0, 1)) tx_lr_swapRounds_0 0 rfl
theorem d_lr_swapRounds_1 : decode prog_1_method_14_code 1 = .ok (.getfield 14, 3) := zD (q := (1, .getfield 14, 3)) tx_lr_swapRounds_0 1 rfl
theorem d_lr_swapRounds_4 : decode prog_1_method_14_code 4 = .ok (.iload_n 1, 1) := zD (q := (4, .iload_n 1, 1)) tx_lr_swapRounds_0 2 rfl
theorem d_lr_swapRounds_5 : decode prog_1_method_14_code 5 = .ok (.invokevirtual 176, 3) := zD (q := (5, .invokevirtual 176, 3)) tx_lr_swapRounds_0 3 rfl
theorem d_lr_swapRounds_8 : decode prog_1_method_14_code 8 = .ok (.ifCond .eq 14, 3) := zD (q := (8, .ifCond .eq 14, 3)) tx_lr_swapRounds_0 4 rfl
theorem d_lr_swapRounds_11 : decode prog_1_method_14_code 11 = .ok (.aload_n 0, 1) := zD (q := (11, .aload_n 0, 1)) tx_lr_swapRounds_0 5 rfl
theorem d_lr_swapRounds_12 : decode prog_1_method_14_code 12 = .ok (.getfield 14, 3) := zD (q := (12, .getfield 14, 3)) tx_lr_swapRounds_0 6 rfl
theorem d_lr_swapRounds_15 : decode prog_1_method_14_code 15 = .ok (.iload_n 2, 1) := zD (q := (15, .iload_n 2, 1)) tx_lr_swapRounds_0 7 rfl
theorem d_lr_swapRounds_16 : decode prog_1_method_14_code 16 = .ok (.invokevirtual 176, 3) := zD (q := (16, .invokevirtual 176, 3)) tx_lr_swapRounds_0 8 rfl
theorem d_lr_swapRounds_19 : decode prog_1_method_14_code 19 = .ok (.ifCond .ne 13, 3) := zD (q := (19, .ifCond .ne 13, 3)) tx_lr_swapRounds_0 9 rfl
theorem d_lr_swapRounds_22 : decode prog_1_method_14_code 22 = .ok (.new 163, 3) := zD (q := (22, .new 163, 3)) tx_lr_swapRounds_0 10 rfl
theorem d_lr_swapRounds_25 : decode prog_1_method_14_code 25 = .ok (.dup, 1) := zD (q := (25, .dup, 1)) tx_lr_swapRounds_0 11 rfl
theorem d_lr_swapRounds_26 : decode prog_1_method_14_code 26 = .ok (.ldc 179, 2) := zD (q := (26, .ldc 179, 2)) tx_lr_swapRounds_0 12 rfl
theorem d_lr_swapRounds_28 : decode prog_1_method_14_code 28 = .ok (.invokespecial 167, 3) := zD (q := (28, .invokespecial 167, 3)) tx_lr_swapRounds_0 13 rfl
theorem d_lr_swapRounds_31 : decode prog_1_method_14_code 31 = .ok (.athrow, 1) := zD (q := (31, .athrow, 1)) tx_lr_swapRounds_0 14 rfl
theorem d_lr_swapRounds_32 : decode prog_1_method_14_code 32 = .ok (.aload_n 0, 1) := zD (q := (32, .aload_n 0, 1)) tx_lr_swapRounds_0 15 rfl
theorem d_lr_swapRounds_33 : decode prog_1_method_14_code 33 = .ok (.getfield 37, 3) := zD (q := (33, .getfield 37, 3)) tx_lr_swapRounds_0 16 rfl
theorem d_lr_swapRounds_36 : decode prog_1_method_14_code 36 = .ok (.invokevirtual 181, 3) := zD (q := (36, .invokevirtual 181, 3)) tx_lr_swapRounds_0 17 rfl
theorem d_lr_swapRounds_39 : decode prog_1_method_14_code 39 = .ok (.ifCond .gt 13, 3) := zD (q := (39, .ifCond .gt 13, 3)) tx_lr_swapRounds_0 18 rfl
theorem d_lr_swapRounds_42 : decode prog_1_method_14_code 42 = .ok (.aload_n 0, 1) := zD (q := (42, .aload_n 0, 1)) tx_lr_swapRounds_0 19 rfl
theorem d_lr_swapRounds_43 : decode prog_1_method_14_code 43 = .ok (.getfield 46, 3) := zD (q := (43, .getfield 46, 3)) tx_lr_swapRounds_0 20 rfl
theorem d_lr_swapRounds_46 : decode prog_1_method_14_code 46 = .ok (.invokevirtual 184, 3) := zD (q := (46, .invokevirtual 184, 3)) tx_lr_swapRounds_0 21 rfl
theorem d_lr_swapRounds_49 : decode prog_1_method_14_code 49 = .ok (.ifCond .le 13, 3) := zD (q := (49, .ifCond .le 13, 3)) tx_lr_swapRounds_0 22 rfl
theorem d_lr_swapRounds_52 : decode prog_1_method_14_code 52 = .ok (.new 100, 3) := zD (q := (52, .new 100, 3)) tx_lr_swapRounds_0 23 rfl
theorem d_lr_swapRounds_55 : decode prog_1_method_14_code 55 = .ok (.dup, 1) := zD (q := (55, .dup, 1)) tx_lr_swapRounds_0 24 rfl
theorem d_lr_swapRounds_56 : decode prog_1_method_14_code 56 = .ok (.ldc 185, 2) := zD (q := (56, .ldc 185, 2)) tx_lr_swapRounds_0 25 rfl
theorem d_lr_swapRounds_58 : decode prog_1_method_14_code 58 = .ok (.invokespecial 104, 3) := zD (q := (58, .invokespecial 104, 3)) tx_lr_swapRounds_0 26 rfl
theorem d_lr_swapRounds_61 : decode prog_1_method_14_code 61 = .ok (.athrow, 1) := zD (q := (61, .athrow, 1)) tx_lr_swapRounds_0 27 rfl
theorem d_lr_swapRounds_62 : decode prog_1_method_14_code 62 = .ok (.aload_n 0, 1) := zD (q := (62, .aload_n 0, 1)) tx_lr_swapRounds_0 28 rfl
theorem d_lr_swapRounds_63 : decode prog_1_method_14_code 63 = .ok (.getfield 14, 3) := zD (q := (63, .getfield 14, 3)) tx_lr_swapRounds_0 29 rfl
theorem d_lr_swapRounds_66 : decode prog_1_method_14_code 66 = .ok (.iload_n 1, 1) := zD (q := (66, .iload_n 1, 1)) tx_lr_swapRounds_0 30 rfl
theorem d_lr_swapRounds_67 : decode prog_1_method_14_code 67 = .ok (.iload_n 2, 1) := zD (q := (67, .iload_n 2, 1)) tx_lr_swapRounds_0 31 rfl
theorem d_lr_swapRounds_68 : decode prog_1_method_14_code 68 = .ok (.invokevirtual 187, 3) := zD (q := (68, .invokevirtual 187, 3)) tx_lr_swapRounds_0 32 rfl
theorem d_lr_swapRounds_71 : decode prog_1_method_14_code 71 = .ok (.aload_n 0, 1) := zD (q := (71, .aload_n 0, 1)) tx_lr_swapRounds_0 33 rfl
theorem d_lr_swapRounds_72 : decode prog_1_method_14_code 72 = .ok (.getfield 21, 3) := zD (q := (72, .getfield 21, 3)) tx_lr_swapRounds_0 34 rfl
theorem d_lr_swapRounds_75 : decode prog_1_method_14_code 75 = .ok (.aload_n 0, 1) := zD (q := (75, .aload_n 0, 1)) tx_lr_swapRounds_0 35 rfl
theorem d_lr_swapRounds_76 : decode prog_1_method_14_code 76 = .ok (.getfield 14, 3) := zD (q := (76, .getfield 14, 3)) tx_lr_swapRounds_0 36 rfl
theorem d_lr_swapRounds_79 : decode prog_1_method_14_code 79 = .ok (.invokevirtual 172, 3) := zD (q := (79, .invokevirtual 172, 3)) tx_lr_swapRounds_0 37 rfl
theorem d_lr_swapRounds_82 : decode prog_1_method_14_code 82 = .ok (.ifCond .ne 5, 3) := zD (q := (82, .ifCond .ne 5, 3)) tx_lr_swapRounds_0 38 rfl
theorem d_lr_swapRounds_85 : decode prog_1_method_14_code 85 = .ok (.iconst 1, 1) := zD (q := (85, .iconst 1, 1)) tx_lr_swapRounds_0 39 rfl
theorem d_lr_swapRounds_86 : decode prog_1_method_14_code 86 = .ok (.ireturn, 1) := zD (q := (86, .ireturn, 1)) tx_lr_swapRounds_0 40 rfl
theorem d_lr_swapRounds_87 : decode prog_1_method_14_code 87 = .ok (.aload_n 0, 1) := zD (q := (87, .aload_n 0, 1)) tx_lr_swapRounds_0 41 rfl
theorem d_lr_swapRounds_88 : decode prog_1_method_14_code 88 = .ok (.getfield 14, 3) := zD (q := (88, .getfield 14, 3)) tx_lr_swapRounds_0 42 rfl
theorem d_lr_swapRounds_91 : decode prog_1_method_14_code 91 = .ok (.iload_n 1, 1) := zD (q := (91, .iload_n 1, 1)) tx_lr_swapRounds_0 43 rfl
theorem d_lr_swapRounds_92 : decode prog_1_method_14_code 92 = .ok (.iload_n 2, 1) := zD (q := (92, .iload_n 2, 1)) tx_lr_swapRounds_0 44 rfl
theorem d_lr_swapRounds_93 : decode prog_1_method_14_code 93 = .ok (.invokevirtual 187, 3) := zD (q := (93, .invokevirtual 187, 3)) tx_lr_swapRounds_0 45 rfl
theorem d_lr_swapRounds_96 : decode prog_1_method_14_code 96 = .ok (.iconst 0, 1) := zD (q := (96, .iconst 0, 1)) tx_lr_swapRounds_0 46 rfl
theorem d_lr_swapRounds_97 : decode prog_1_method_14_code 97 = .ok (.ireturn, 1) := zD (q := (97, .ireturn, 1)) tx_lr_swapRounds_0 47 rfl
def T_lr_result_0 : List (Nat × Instr × Nat) := [(0, .aload_n 0, 1), (1, .iload_n 1, 1), (2, .iload_n 2, 1), (3, .invokevirtual 151, 3), (6, .iload_n 3, 1), (7, .invokestatic 190, 3), (10, .ifCond .eq 11, 3), (13, .iload 4, 2), (15, .invokestatic 190, 3), (18, .ifCond .ne 13, 3), (21, .new 59, 3), (24, .dup, 1), (25, .ldc 193, 2), (27, .invokespecial 63, 3), (30, .athrow, 1), (31, .aload_n 0, 1), (32, .iload_n 1, 1), (33, .iload_n 2, 1), (34, .invokevirtual 195, 3), (37, .aload_n 0, 1), (38, .getfield 46, 3), (41, .iload_n 1, 1), (42, .iload_n 2, 1), (43, .invokevirtual 198, 3), (46, .ifCond .eq 26, 3), (49, .aload_n 0, 1), (50, .getfield 55, 3), (53, .iload_n 1, 1), (54, .iload_n 2, 1), (55, .invokevirtual 201, 3), (58, .iconst (-1), 1), (59, .if_icmp .ne 13, 3), (62, .new 100, 3), (65, .dup, 1), (66, .ldc 204, 2), (68, .invokespecial 104, 3), (71, .athrow, 1), (72, .aload_n 0, 1), (73, .getfield 37, 3), (76, .iload_n 1, 1), (77, .iload_n 2, 1), (78, .aload_n 0, 1), (79, .getfield 14, 3), (82, .iload_n 1, 1), (83, .iload_n 2, 1), (84, .invokevirtual 154, 3), (87, .iload_n 3, 1), (88, .iload 4, 2), (90, .invokevirtual 206, 3), (93, .aload_n 0, 1), (94, .getfield 37, 3), (97, .invokevirtual 181, 3), (100, .ireturn, 1)]
theorem tx_lr_result_0 : zdec prog_1_method_15_code T_lr_result_0 = true := by decide +kernel
theorem d_lr_result_0 : decode prog_1_method_15_code 0 = .ok (.aload_n 0, 1) := zD (q := (0, .aload_n 0, 1)) tx_lr_result_0 0 rfl
theorem d_lr_result_1 : decode prog_1_method_15_code 1 = .ok (.iload_n 1, 1) := zD (q := (1, .iload_n 1, 1)) tx_lr_result_0 1 rfl
theorem d_lr_result_2 : decode prog_1_method_15_code 2 = .ok (.iload_n 2, 1) := zD (q := (2, .iload_n 2, 1)) tx_lr_result_0 2 rfl
theorem d_lr_result_3 : decode prog_1_method_15_code 3 = .ok (.invokevirtual 151, 3) := zD (q := (3, .invokevirtual 151, 3)) tx_lr_result_0 3 rfl
theorem d_lr_result_6 : decode prog_1_method_15_code 6 = .ok (.iload_n 3, 1) := zD (q := (6, .iload_n 3, 1)) tx_lr_result_0 4 rfl
theorem d_lr_result_7 : decode prog_1_method_15_code 7 = .ok (.invokestatic 190, 3) := zD (q := (7, .invokestatic 190, 3)) tx_lr_result_0 5 rfl
theorem d_lr_result_10 : decode prog_1_method_15_code 10 = .ok (.ifCond .eq 11, 3) := zD (q := (10, .ifCond .eq 11, 3)) tx_lr_result_0 6 rfl
theorem d_lr_result_13 : decode prog_1_method_15_code 13 = .ok (.iload 4, 2) := zD (q := (13, .iload 4, 2)) tx_lr_result_0 7 rfl
theorem d_lr_result_15 : decode prog_1_method_15_code 15 = .ok (.invokestatic 190, 3) := zD (q := (15, .invokestatic 190, 3)) tx_lr_result_0 8 rfl
theorem d_lr_result_18 : decode prog_1_method_15_code 18 = .ok (.ifCond .ne 13, 3) := zD (q := (18, .ifCond .ne 13, 3)) tx_lr_result_0 9 rfl
theorem d_lr_result_21 : decode prog_1_method_15_code 21 = .ok (.new 59, 3) := zD (q := (21, .new 59, 3)) tx_lr_result_0 10 rfl
theorem d_lr_result_24 : decode prog_1_method_15_code 24 = .ok (.dup, 1) := zD (q := (24, .dup, 1)) tx_lr_result_0 11 rfl
theorem d_lr_result_25 : decode prog_1_method_15_code 25 = .ok (.ldc 193, 2) := zD (q := (25, .ldc 193, 2)) tx_lr_result_0 12 rfl
theorem d_lr_result_27 : decode prog_1_method_15_code 27 = .ok (.invokespecial 63, 3) := zD (q := (27, .invokespecial 63, 3)) tx_lr_result_0 13 rfl
theorem d_lr_result_30 : decode prog_1_method_15_code 30 = .ok (.athrow, 1) := zD (q := (30, .athrow, 1)) tx_lr_result_0 14 rfl
theorem d_lr_result_31 : decode prog_1_method_15_code 31 = .ok (.aload_n 0, 1) := zD (q := (31, .aload_n 0, 1)) tx_lr_result_0 15 rfl
theorem d_lr_result_32 : decode prog_1_method_15_code 32 = .ok (.iload_n 1, 1) := zD (q := (32, .iload_n 1, 1)) tx_lr_result_0 16 rfl
theorem d_lr_result_33 : decode prog_1_method_15_code 33 = .ok (.iload_n 2, 1) := zD (q := (33, .iload_n 2, 1)) tx_lr_result_0 17 rfl
theorem d_lr_result_34 : decode prog_1_method_15_code 34 = .ok (.invokevirtual 195, 3) := zD (q := (34, .invokevirtual 195, 3)) tx_lr_result_0 18 rfl
theorem d_lr_result_37 : decode prog_1_method_15_code 37 = .ok (.aload_n 0, 1) := zD (q := (37, .aload_n 0, 1)) tx_lr_result_0 19 rfl
theorem d_lr_result_38 : decode prog_1_method_15_code 38 = .ok (.getfield 46, 3) := zD (q := (38, .getfield 46, 3)) tx_lr_result_0 20 rfl
theorem d_lr_result_41 : decode prog_1_method_15_code 41 = .ok (.iload_n 1, 1) := zD (q := (41, .iload_n 1, 1)) tx_lr_result_0 21 rfl
theorem d_lr_result_42 : decode prog_1_method_15_code 42 = .ok (.iload_n 2, 1) := zD (q := (42, .iload_n 2, 1)) tx_lr_result_0 22 rfl
theorem d_lr_result_43 : decode prog_1_method_15_code 43 = .ok (.invokevirtual 198, 3) := zD (q := (43, .invokevirtual 198, 3)) tx_lr_result_0 23 rfl
theorem d_lr_result_46 : decode prog_1_method_15_code 46 = .ok (.ifCond .eq 26, 3) := zD (q := (46, .ifCond .eq 26, 3)) tx_lr_result_0 24 rfl
theorem d_lr_result_49 : decode prog_1_method_15_code 49 = .ok (.aload_n 0, 1) := zD (q := (49, .aload_n 0, 1)) tx_lr_result_0 25 rfl
theorem d_lr_result_50 : decode prog_1_method_15_code 50 = .ok (.getfield 55, 3) := zD (q := (50, .getfield 55, 3)) tx_lr_result_0 26 rfl
theorem d_lr_result_53 : decode prog_1_method_15_code 53 = .ok (.iload_n 1, 1) := zD (q := (53, .iload_n 1, 1)) tx_lr_result_0 27 rfl
theorem d_lr_result_54 : decode prog_1_method_15_code 54 = .ok (.iload_n 2, 1) := zD (q := (54, .iload_n 2, 1)) tx_lr_result_0 28 rfl
theorem d_lr_result_55 : decode prog_1_method_15_code 55 = .ok (.invokevirtual 201, 3) := zD (q := (55, .invokevirtual 201, 3)) tx_lr_result_0 29 rfl
theorem d_lr_result_58 : decode prog_1_method_15_code 58 = .ok (.iconst (-1), 1) := zD (q := (58, .iconst (-1), 1)) tx_lr_result_0 30 rfl
theorem d_lr_result_59 : decode prog_1_method_15_code 59 = .ok (.if_icmp .ne 13, 3) := zD (q := (59, .if_icmp .ne 13, 3)) tx_lr_result_0 31 rfl
theorem d_lr_result_62 : decode prog_1_method_15_code 62 = .ok (.new 100, 3) := zD (q := (62, .new 100, 3)) tx_lr_result_0 32 rfl
theorem d_lr_result_65 : decode prog_1_method_15_code 65 = .ok (.dup, 1) := zD (q := (65, .dup, 1)) tx_lr_result_0 33 rfl
theorem d_lr_result_66 : decode prog_1_method_15_code 66 = .ok (.ldc 204, 2) := zD (q := (66, .ldc 204, 2)) tx_lr_result_0 34 rfl
theorem d_lr_result_68 : decode prog_1_method_15_code 68 = .ok (.invokespecial 104, 3) := zD (q := (68, .invokespecial 104, 3)) tx_lr_result_0 35 rfl
theorem d_lr_result_71 : decode prog_1_method_15_code 71 = .ok (.athrow, 1) := zD (q := (71, .athrow, 1)) tx_lr_result_0 36 rfl
theorem d_lr_result_72 : decode prog_1_method_15_code 72 = .ok (.aload_n 0, 1) := zD (q := (72, .aload_n 0, 1)) tx_lr_result_0 37 rfl
theorem d_lr_result_73 : decode prog_1_method_15_code 73 = .ok (.getfield 37, 3) := zD (q := (73, .getfield 37, 3)) tx_lr_result_0 38 rfl
theorem d_lr_result_76 : decode prog_1_method_15_code 76 = .ok (.iload_n 1, 1) := zD (q := (76, .iload_n 1, 1)) tx_lr_result_0 39 rfl
theorem d_lr_result_77 : decode prog_1_method_15_code 77 = .ok (.iload_n 2, 1) := zD (q := (77, .iload_n 2, 1)) tx_lr_result_0 40 rfl
theorem d_lr_result_78 : decode prog_1_method_15_code 78 = .ok (.aload_n 0, 1) := zD (q := (78, .aload_n 0, 1)) tx_lr_result_0 41 rfl
theorem d_lr_result_79 : decode prog_1_method_15_code 79 = .ok (.getfield 14, 3) := zD (q := (79, .getfield 14, 3)) tx_lr_result_0 42 rfl
theorem d_lr_result_82 : decode prog_1_method_15_code 82 = .ok (.iload_n 1, 1) := zD (q := (82, .iload_n 1, 1)) tx_lr_result_0 43 rfl
theorem d_lr_result_83 : decode prog_1_method_15_code 83 = .ok (.iload_n 2, 1) := zD (q := (83, .iload_n 2, 1)) tx_lr_result_0 44 rfl
theorem d_lr_result_84 : decode prog_1_method_15_code 84 = .ok (.invokevirtual 154, 3) := zD (q := (84, .invokevirtual 154, 3)) tx_lr_result_0 45 rfl
theorem d_lr_result_87 : decode prog_1_method_15_code 87 = .ok (.iload_n 3, 1) := zD (q := (87, .iload_n 3, 1)) tx_lr_result_0 46 rfl
theorem d_lr_result_88 : decode prog_1_method_15_code 88 = .ok (.iload 4, 2) := zD (q := (88, .iload 4, 2)) tx_lr_result_0 47 rfl
theorem d_lr_result_90 : decode prog_1_method_15_code 90 = .ok (.invokevirtual 206, 3) := zD (q := (90, .invokevirtual 206, 3)) tx_lr_result_0 48 rfl
theorem d_lr_result_93 : decode prog_1_method_15_code 93 = .ok (.aload_n 0, 1) := zD (q := (93, .aload_n 0, 1)) tx_lr_result_0 49 rfl
theorem d_lr_result_94 : decode prog_1_method_15_code 94 = .ok (.getfield 37, 3) := zD (q := (94, .getfield 37, 3)) tx_lr_result_0 50 rfl
theorem d_lr_result_97 : decode prog_1_method_15_code 97 = .ok (.invokevirtual 181, 3) := zD (q := (97, .invokevirtual 181, 3)) tx_lr_result_0 51 rfl
theorem d_lr_result_100 : decode prog_1_method_15_code 100 = .ok (.ireturn, 1) := zD (q := (100, .ireturn, 1)) tx_lr_result_0 52 rfl
def T_lr_areGoals_0 : List (Nat × Instr × Nat) := [(0, .iload_n 0, 1), (1, .ifCond .lt 13, 3), (4, .iload_n 0, 1), (5, .bipush 99, 2), (7, .if_icmp .gt 7, 3), (10, .iconst 1, 1), (11, .goto 4, 3), (14, .iconst 0, 1), (15, .ireturn, 1)]
theorem tx_lr_areGoals_0 : zdec prog_1_method_27_code T_lr_areGoals_0 = true := by decide +kernel
theorem d_lr_areGoals_0 : decode prog_1_method_27_code 0 = .ok (.iload_n 0, 1) := zD (q := (0, .iload_n 0, 1)) tx_lr_areGoals_0 0 rfl
theorem d_lr_areGoals_1 : decode prog_1_method_27_code 1 = .ok (.ifCond .lt 13, 3) := zD (q := (1, .ifCond .lt 13, 3)) tx_lr_areGoals_0 1 rfl
theorem d_lr_areGoals_4 : decode prog_1_method_27_code 4 = .ok (.iload_n 0, 1) := zD (q := (4, .iload_n 0, 1)) tx_lr_areGoals_0 2 rfl
theorem d_lr_areGoals_5 : decode prog_1_method_27_code 5 = .ok (.bipush 99, 2) := zD (q := (5, .bipush 99, 2)) tx_lr_areGoals_0 3 rfl
theorem d_lr_areGoals_7 : decode prog_1_method_27_code 7 = .ok (.if_icmp .gt 7, 3) := zD (q := (7, .if_icmp .gt 7, 3)) tx_lr_areGoals_0 4 rfl
theorem d_lr_areGoals_10 : decode prog_1_method_27_code 10 = .ok (.iconst 1, 1) := zD (q := (10, .iconst 1, 1)) tx_lr_areGoals_0 5 rfl
theorem d_lr_areGoals_11 : decode prog_1_method_27_code 11 = .ok (.goto 4, 3) := zD (q := (11, .goto 4, 3)) tx_lr_areGoals_0 6 rfl
theorem d_lr_areGoals_14 : decode prog_1_method_27_code 14 = .ok (.iconst 0, 1) := zD (q := (14, .iconst 0, 1)) tx_lr_areGoals_0 7 rfl
theorem d_lr_areGoals_15 : decode prog_1_method_27_code 15 = .ok (.ireturn, 1) := zD (q := (15, .ireturn, 1)) tx_lr_areGoals_0 8 rfl
def T_lr_requireHomeGame_0 : List (Nat × Instr × Nat) := [(0, .aload_n 0, 1), (1, .getfield 14, 3), (4, .iload_n 1, 1), (5, .iload_n 2, 1), (6, .invokevirtual 157, 3), (9, .iconst 1, 1), (10, .if_icmp .eq 14, 3), (13, .new 263, 3), (16, .dup, 1), (17, .ldc_w 265, 3), (20, .invokespecial 267, 3), (23, .athrow, 1), (24, .return_, 1)]
theorem tx_lr_requireHomeGame_0 : zdec prog_1_method_25_code T_lr_requireHomeGame_0 = true := by decide +kernel
theorem d_lr_requireHomeGame_0 : decode prog_1_method_25_code 0 = .ok (.aload_n 0, 1) := zD (q := (0, .aload_n 0, 1)) tx_lr_requireHomeGame_0 0 rfl
theorem d_lr_requireHomeGame_1 : decode prog_1_method_25_code 1 = .ok (.getfield 14, 3) := zD (q := (1, .getfield 14, 3)) tx_lr_requireHomeGame_0 1 rfl
theorem d_lr_requireHomeGame_4 : decode prog_1_method_25_code 4 = .ok (.iload_n 1, 1) := zD (q := (4, .iload_n 1, 1)) tx_lr_requireHomeGame_0 2 rfl
theorem d_lr_requireHomeGame_5 : decode prog_1_method_25_code 5 = .ok (.iload_n 2, 1) := zD (q := (5, .iload_n 2, 1)) tx_lr_requireHomeGame_0 3 rfl
theorem d_lr_requireHomeGame_6 : decode prog_1_method_25_code 6 = .ok (.invokevirtual 157, 3) := zD (q := (6, .invokevirtual 157, 3)) tx_lr_requireHomeGame_0 4 rfl
theorem d_lr_requireHomeGame_9 : decode prog_1_method_25_code 9 = .ok (.iconst 1, 1) := zD (q := (9, .iconst 1, 1)) tx_lr_requireHomeGame_0 5 rfl
theorem d_lr_requireHomeGame_10 : decode prog_1_method_25_code 10 = .ok (.if_icmp .eq 14, 3) := zD (q := (10, .if_icmp .eq 14, 3)) tx_lr_requireHomeGame_0 6 rfl
theorem d_lr_requireHomeGame_13 : decode prog_1_method_25_code 13 = .ok (.new 263, 3) := zD (q := (13, .new 263, 3)) tx_lr_requireHomeGame_0 7 rfl
theorem d_lr_requireHomeGame_16 : decode prog_1_method_25_code 16 = .ok (.dup, 1) := zD (q := (16, .dup, 1)) tx_lr_requireHomeGame_0 8 rfl
theorem d_lr_requireHomeGame_17 : decode prog_1_method_25_code 17 = .ok (.ldc_w 265, 3) := zD (q := (17, .ldc_w 265, 3)) tx_lr_requireHomeGame_0 9 rfl
theorem d_lr_requireHomeGame_20 : decode prog_1_method_25_code 20 = .ok (.invokespecial 267, 3) := zD (q := (20, .invokespecial 267, 3)) tx_lr_requireHomeGame_0 10 rfl
theorem d_lr_requireHomeGame_23 : decode prog_1_method_25_code 23 = .ok (.athrow, 1) := zD (q := (23, .athrow, 1)) tx_lr_requireHomeGame_0 11 rfl
theorem d_lr_requireHomeGame_24 : decode prog_1_method_25_code 24 = .ok (.return_, 1) := zD (q := (24, .return_, 1)) tx_lr_requireHomeGame_0 12 rfl
def T_lr_table_0 : List (Nat × Instr × Nat) := [(0, .aload_n 0, 1), (1, .getfield 14, 3), (4, .iload_n 1, 1), (5, .invokevirtual 75, 3), (8, .ifCond .eq 13, 3), (11, .iload_n 2, 1), (12, .ifCond .lt 9, 3), (15, .iload_n 2, 1), (16, .bipush 7, 2), (18, .if_icmp .le 13, 3), (21, .new 163, 3), (24, .dup, 1), (25, .ldc 210, 2), (27, .invokespecial 167, 3), (30, .athrow, 1), (31, .aload_n 0, 1), (32, .getfield 37, 3), (35, .invokevirtual 212, 3), (38, .astore_n 3, 1), (39, .aload_n 3, 1), (40, .aload_n 3, 1), (41, .iload_n 1, 1), (42, .aload_n 0, 1), (43, .getfield 14, 3), (46, .invokevirtual 135, 3), (49, .invokevirtual 216, 3), (52, .iload_n 2, 1), (53, .invokevirtual 221, 3), (56, .ireturn, 1)]
theorem tx_lr_table_0 : zdec prog_1_method_16_code T_lr_table_0 = true := by decide +kernel
theorem d_lr_table_0 : decode prog_1_method_16_code 0 = .ok (.aload_n 0, 1) := zD (q := (0, .aload_n 0, 1)) tx_lr_table_0 0 rfl
theorem d_lr_table_1 : decode prog_1_method_16_code 1 = .ok (.getfield 14, 3) := zD (q := (1, .getfield 14, 3)) tx_lr_table_0 1 rfl
theorem d_lr_table_4 : decode prog_1_method_16_code 4 = .ok (.iload_n 1, 1) := zD (q := (4, .iload_n 1, 1)) tx_lr_table_0 2 rfl
theorem d_lr_table_5 : decode prog_1_method_16_code 5 = .ok (.invokevirtual 75, 3) := zD (q := (5, .invokevirtual 75, 3)) tx_lr_table_0 3 rfl
theorem d_lr_table_8 : decode prog_1_method_16_code 8 = .ok (.ifCond .eq 13, 3) := zD (q := (8, .ifCond .eq 13, 3)) tx_lr_table_0 4 rfl
theorem d_lr_table_11 : decode prog_1_method_16_code 11 = .ok (.iload_n 2, 1) := zD (q := (11, .iload_n 2, 1)) tx_lr_table_0 5 rfl
theorem d_lr_table_12 : decode prog_1_method_16_code 12 = .ok (.ifCond .lt 9, 3) := zD (q := (12, .ifCond .lt 9, 3)) tx_lr_table_0 6 rfl
theorem d_lr_table_15 : decode prog_1_method_16_code 15 = .ok (.iload_n 2, 1) := zD (q := (15, .iload_n 2, 1)) tx_lr_table_0 7 rfl
theorem d_lr_table_16 : decode prog_1_method_16_code 16 = .ok (.bipush 7, 2) := zD (q := (16, .bipush 7, 2)) tx_lr_table_0 8 rfl
theorem d_lr_table_18 : decode prog_1_method_16_code 18 = .ok (.if_icmp .le 13, 3) := zD (q := (18, .if_icmp .le 13, 3)) tx_lr_table_0 9 rfl
theorem d_lr_table_21 : decode prog_1_method_16_code 21 = .ok (.new 163, 3) := zD (q := (21, .new 163, 3)) tx_lr_table_0 10 rfl
theorem d_lr_table_24 : decode prog_1_method_16_code 24 = .ok (.dup, 1) := zD (q := (24, .dup, 1)) tx_lr_table_0 11 rfl
theorem d_lr_table_25 : decode prog_1_method_16_code 25 = .ok (.ldc 210, 2) := zD (q := (25, .ldc 210, 2)) tx_lr_table_0 12 rfl
theorem d_lr_table_27 : decode prog_1_method_16_code 27 = .ok (.invokespecial 167, 3) := zD (q := (27, .invokespecial 167, 3)) tx_lr_table_0 13 rfl
theorem d_lr_table_30 : decode prog_1_method_16_code 30 = .ok (.athrow, 1) := zD (q := (30, .athrow, 1)) tx_lr_table_0 14 rfl
theorem d_lr_table_31 : decode prog_1_method_16_code 31 = .ok (.aload_n 0, 1) := zD (q := (31, .aload_n 0, 1)) tx_lr_table_0 15 rfl
theorem d_lr_table_32 : decode prog_1_method_16_code 32 = .ok (.getfield 37, 3) := zD (q := (32, .getfield 37, 3)) tx_lr_table_0 16 rfl
theorem d_lr_table_35 : decode prog_1_method_16_code 35 = .ok (.invokevirtual 212, 3) := zD (q := (35, .invokevirtual 212, 3)) tx_lr_table_0 17 rfl
theorem d_lr_table_38 : decode prog_1_method_16_code 38 = .ok (.astore_n 3, 1) := zD (q := (38, .astore_n 3, 1)) tx_lr_table_0 18 rfl
theorem d_lr_table_39 : decode prog_1_method_16_code 39 = .ok (.aload_n 3, 1) := zD (q := (39, .aload_n 3, 1)) tx_lr_table_0 19 rfl
theorem d_lr_table_40 : decode prog_1_method_16_code 40 = .ok (.aload_n 3, 1) := zD (q := (40, .aload_n 3, 1)) tx_lr_table_0 20 rfl
theorem d_lr_table_41 : decode prog_1_method_16_code 41 = .ok (.iload_n 1, 1) := zD (q := (41, .iload_n 1, 1)) tx_lr_table_0 21 rfl
theorem d_lr_table_42 : decode prog_1_method_16_code 42 = .ok (.aload_n 0, 1) := zD (q := (42, .aload_n 0, 1)) tx_lr_table_0 22 rfl
theorem d_lr_table_43 : decode prog_1_method_16_code 43 = .ok (.getfield 14, 3) := zD (q := (43, .getfield 14, 3)) tx_lr_table_0 23 rfl
theorem d_lr_table_46 : decode prog_1_method_16_code 46 = .ok (.invokevirtual 135, 3) := zD (q := (46, .invokevirtual 135, 3)) tx_lr_table_0 24 rfl
theorem d_lr_table_49 : decode prog_1_method_16_code 49 = .ok (.invokevirtual 216, 3) := zD (q := (49, .invokevirtual 216, 3)) tx_lr_table_0 25 rfl
theorem d_lr_table_52 : decode prog_1_method_16_code 52 = .ok (.iload_n 2, 1) := zD (q := (52, .iload_n 2, 1)) tx_lr_table_0 26 rfl
theorem d_lr_table_53 : decode prog_1_method_16_code 53 = .ok (.invokevirtual 221, 3) := zD (q := (53, .invokevirtual 221, 3)) tx_lr_table_0 27 rfl
theorem d_lr_table_56 : decode prog_1_method_16_code 56 = .ok (.ireturn, 1) := zD (q := (56, .ireturn, 1)) tx_lr_table_0 28 rfl
def T_lr_washOut_0 : List (Nat × Instr × Nat) := [(0, .aload_n 0, 1), (1, .getfield 14, 3), (4, .iload_n 1, 1), (5, .invokevirtual 176, 3), (8, .ifCond .ne 13, 3), (11, .new 163, 3), (14, .dup, 1), (15, .ldc 179, 2), (17, .invokespecial 167, 3), (20, .athrow, 1), (21, .aload_n 0, 1), (22, .getfield 46, 3), (25, .iload_n 1, 1), (26, .invokevirtual 224, 3), (29, .ifCond .ne 14, 3), (32, .aload_n 0, 1), (33, .getfield 46, 3), (36, .invokevirtual 184, 3), (39, .iconst 4, 1), (40, .if_icmp .lt 13, 3), (43, .new 100, 3), (46, .dup, 1), (47, .ldc 227, 2), (49, .invokespecial 104, 3), (52, .athrow, 1), (53, .aload_n 0, 1), (54, .getfield 46, 3), (57, .iload_n 1, 1), (58, .invokevirtual 229, 3), (61, .aload_n 0, 1), (62, .getfield 46, 3), (65, .iload_n 1, 1), (66, .invokevirtual 232, 3), (69, .ireturn, 1)]
theorem tx_lr_washOut_0 : zdec prog_1_method_17_code T_lr_washOut_0 = true := by decide +kernel
theorem d_lr_washOut_0 : decode prog_1_method_17_code 0 = .ok (.aload_n 0, 1) := zD (q := (0, .aload_n 0, 1)) tx_lr_washOut_0 0 rfl
theorem d_lr_washOut_1 : decode prog_1_method_17_code 1 = .ok (.getfield 14, 3) := zD (q := (1, .getfield 14, 3)) tx_lr_washOut_0 1 rfl
theorem d_lr_washOut_4 : decode prog_1_method_17_code 4 = .ok (.iload_n 1, 1) := zD (q := (4, .iload_n 1, 1)) tx_lr_washOut_0 2 rfl
theorem d_lr_washOut_5 : decode prog_1_method_17_code 5 = .ok (.invokevirtual 176, 3) := zD (q := (5, .invokevirtual 176, 3)) tx_lr_washOut_0 3 rfl
theorem d_lr_washOut_8 : decode prog_1_method_17_code 8 = .ok (.ifCond .ne 13, 3) := zD (q := (8, .ifCond .ne 13, 3)) tx_lr_washOut_0 4 rfl
theorem d_lr_washOut_11 : decode prog_1_method_17_code 11 = .ok (.new 163, 3) := zD (q := (11, .new 163, 3)) tx_lr_washOut_0 5 rfl
theorem d_lr_washOut_14 : decode prog_1_method_17_code 14 = .ok (.dup, 1) := zD (q := (14, .dup, 1)) tx_lr_washOut_0 6 rfl
theorem d_lr_washOut_15 : decode prog_1_method_17_code 15 = .ok (.ldc 179, 2) := zD (q := (15, .ldc 179, 2)) tx_lr_washOut_0 7 rfl
theorem d_lr_washOut_17 : decode prog_1_method_17_code 17 = .ok (.invokespecial 167, 3) := zD (q := (17, .invokespecial 167, 3)) tx_lr_washOut_0 8 rfl
theorem d_lr_washOut_20 : decode prog_1_method_17_code 20 = .ok (.athrow, 1) := zD (q := (20, .athrow, 1)) tx_lr_washOut_0 9 rfl
theorem d_lr_washOut_21 : decode prog_1_method_17_code 21 = .ok (.aload_n 0, 1) := zD (q := (21, .aload_n 0, 1)) tx_lr_washOut_0 10 rfl
theorem d_lr_washOut_22 : decode prog_1_method_17_code 22 = .ok (.getfield 46, 3) := zD (q := (22, .getfield 46, 3)) tx_lr_washOut_0 11 rfl
theorem d_lr_washOut_25 : decode prog_1_method_17_code 25 = .ok (.iload_n 1, 1) := zD (q := (25, .iload_n 1, 1)) tx_lr_washOut_0 12 rfl
theorem d_lr_washOut_26 : decode prog_1_method_17_code 26 = .ok (.invokevirtual 224, 3) := zD (q := (26, .invokevirtual 224, 3)) tx_lr_washOut_0 13 rfl
theorem d_lr_washOut_29 : decode prog_1_method_17_code 29 = .ok (.ifCond .ne 14, 3) := zD (q := (29, .ifCond .ne 14, 3)) tx_lr_washOut_0 14 rfl
theorem d_lr_washOut_32 : decode prog_1_method_17_code 32 = .ok (.aload_n 0, 1) := zD (q := (32, .aload_n 0, 1)) tx_lr_washOut_0 15 rfl
theorem d_lr_washOut_33 : decode prog_1_method_17_code 33 = .ok (.getfield 46, 3) := zD (q := (33, .getfield 46, 3)) tx_lr_washOut_0 16 rfl
theorem d_lr_washOut_36 : decode prog_1_method_17_code 36 = .ok (.invokevirtual 184, 3) := zD (q := (36, .invokevirtual 184, 3)) tx_lr_washOut_0 17 rfl
theorem d_lr_washOut_39 : decode prog_1_method_17_code 39 = .ok (.iconst 4, 1) := zD (q := (39, .iconst 4, 1)) tx_lr_washOut_0 18 rfl
theorem d_lr_washOut_40 : decode prog_1_method_17_code 40 = .ok (.if_icmp .lt 13, 3) := zD (q := (40, .if_icmp .lt 13, 3)) tx_lr_washOut_0 19 rfl
theorem d_lr_washOut_43 : decode prog_1_method_17_code 43 = .ok (.new 100, 3) := zD (q := (43, .new 100, 3)) tx_lr_washOut_0 20 rfl
theorem d_lr_washOut_46 : decode prog_1_method_17_code 46 = .ok (.dup, 1) := zD (q := (46, .dup, 1)) tx_lr_washOut_0 21 rfl
theorem d_lr_washOut_47 : decode prog_1_method_17_code 47 = .ok (.ldc 227, 2) := zD (q := (47, .ldc 227, 2)) tx_lr_washOut_0 22 rfl
theorem d_lr_washOut_49 : decode prog_1_method_17_code 49 = .ok (.invokespecial 104, 3) := zD (q := (49, .invokespecial 104, 3)) tx_lr_washOut_0 23 rfl
theorem d_lr_washOut_52 : decode prog_1_method_17_code 52 = .ok (.athrow, 1) := zD (q := (52, .athrow, 1)) tx_lr_washOut_0 24 rfl
theorem d_lr_washOut_53 : decode prog_1_method_17_code 53 = .ok (.aload_n 0, 1) := zD (q := (53, .aload_n 0, 1)) tx_lr_washOut_0 25 rfl
theorem d_lr_washOut_54 : decode prog_1_method_17_code 54 = .ok (.getfield 46, 3) := zD (q := (54, .getfield 46, 3)) tx_lr_washOut_0 26 rfl
theorem d_lr_washOut_57 : decode prog_1_method_17_code 57 = .ok (.iload_n 1, 1) := zD (q := (57, .iload_n 1, 1)) tx_lr_washOut_0 27 rfl
theorem d_lr_washOut_58 : decode prog_1_method_17_code 58 = .ok (.invokevirtual 229, 3) := zD (q := (58, .invokevirtual 229, 3)) tx_lr_washOut_0 28 rfl
theorem d_lr_washOut_61 : decode prog_1_method_17_code 61 = .ok (.aload_n 0, 1) := zD (q := (61, .aload_n 0, 1)) tx_lr_washOut_0 29 rfl
theorem d_lr_washOut_62 : decode prog_1_method_17_code 62 = .ok (.getfield 46, 3) := zD (q := (62, .getfield 46, 3)) tx_lr_washOut_0 30 rfl
theorem d_lr_washOut_65 : decode prog_1_method_17_code 65 = .ok (.iload_n 1, 1) := zD (q := (65, .iload_n 1, 1)) tx_lr_washOut_0 31 rfl
theorem d_lr_washOut_66 : decode prog_1_method_17_code 66 = .ok (.invokevirtual 232, 3) := zD (q := (66, .invokevirtual 232, 3)) tx_lr_washOut_0 32 rfl
theorem d_lr_washOut_69 : decode prog_1_method_17_code 69 = .ok (.ireturn, 1) := zD (q := (69, .ireturn, 1)) tx_lr_washOut_0 33 rfl
def T_lr_reserve_0 : List (Nat × Instr × Nat) := [(0, .iload_n 1, 1), (1, .ifCond .lt 9, 3), (4, .iload_n 1, 1), (5, .bipush 99, 2), (7, .if_icmp .le 13, 3), (10, .new 59, 3), (13, .dup, 1), (14, .ldc 235, 2), (16, .invokespecial 63, 3), (19, .athrow, 1), (20, .aload_n 0, 1), (21, .getfield 55, 3), (24, .iload_n 1, 1), (25, .invokevirtual 237, 3), (28, .ifCond .ne 13, 3), (31, .aload_n 0, 1), (32, .getfield 55, 3), (35, .invokevirtual 240, 3), (38, .ifCond .eq 13, 3), (41, .new 100, 3), (44, .dup, 1), (45, .ldc 243, 2), (47, .invokespecial 104, 3), (50, .athrow, 1), (51, .aload_n 0, 1), (52, .getfield 55, 3), (55, .iload_n 1, 1), (56, .invokevirtual 245, 3), (59, .ireturn, 1)]
theorem tx_lr_reserve_0 : zdec prog_1_method_18_code T_lr_reserve_0 = true := by decide +kernel
theorem d_lr_reserve_0 : decode prog_1_method_18_code 0 = .ok (.iload_n 1, 1) := zD (q := (0, .iload_n 1, 1)) tx_lr_reserve_0 0 rfl
theorem d_lr_reserve_1 : decode prog_1_method_18_code 1 = .ok (.ifCond .lt 9, 3) := zD (q := (1, .ifCond .lt 9, 3)) tx_lr_reserve_0 1 rfl
theorem d_lr_reserve_4 : decode prog_1_method_18_code 4 = .ok (.iload_n 1, 1) := zD (q := (4, .iload_n 1, 1)) tx_lr_reserve_0 2 rfl
theorem d_lr_reserve_5 : decode prog_1_method_18_code 5 = .ok (.bipush 99, 2) := zD (q := (5, .bipush 99, 2)) tx_lr_reserve_0 3 rfl
theorem d_lr_reserve_7 : decode prog_1_method_18_code 7 = .ok (.if_icmp .le 13, 3) := zD (q := (7, .if_icmp .le 13, 3)) tx_lr_reserve_0 4 rfl
theorem d_lr_reserve_10 : decode prog_1_method_18_code 10 = .ok (.new 59, 3) := zD (q := (10, .new 59, 3)) tx_lr_reserve_0 5 rfl
theorem d_lr_reserve_13 : decode prog_1_method_18_code 13 = .ok (.dup, 1) := zD (q := (13, .dup, 1)) tx_lr_reserve_0 6 rfl
theorem d_lr_reserve_14 : decode prog_1_method_18_code 14 = .ok (.ldc 235, 2) := zD (q := (14, .ldc 235, 2)) tx_lr_reserve_0 7 rfl
theorem d_lr_reserve_16 : decode prog_1_method_18_code 16 = .ok (.invokespecial 63, 3) := zD (q := (16, .invokespecial 63, 3)) tx_lr_reserve_0 8 rfl
theorem d_lr_reserve_19 : decode prog_1_method_18_code 19 = .ok (.athrow, 1) := zD (q := (19, .athrow, 1)) tx_lr_reserve_0 9 rfl
theorem d_lr_reserve_20 : decode prog_1_method_18_code 20 = .ok (.aload_n 0, 1) := zD (q := (20, .aload_n 0, 1)) tx_lr_reserve_0 10 rfl
theorem d_lr_reserve_21 : decode prog_1_method_18_code 21 = .ok (.getfield 55, 3) := zD (q := (21, .getfield 55, 3)) tx_lr_reserve_0 11 rfl
theorem d_lr_reserve_24 : decode prog_1_method_18_code 24 = .ok (.iload_n 1, 1) := zD (q := (24, .iload_n 1, 1)) tx_lr_reserve_0 12 rfl
theorem d_lr_reserve_25 : decode prog_1_method_18_code 25 = .ok (.invokevirtual 237, 3) := zD (q := (25, .invokevirtual 237, 3)) tx_lr_reserve_0 13 rfl
theorem d_lr_reserve_28 : decode prog_1_method_18_code 28 = .ok (.ifCond .ne 13, 3) := zD (q := (28, .ifCond .ne 13, 3)) tx_lr_reserve_0 14 rfl
theorem d_lr_reserve_31 : decode prog_1_method_18_code 31 = .ok (.aload_n 0, 1) := zD (q := (31, .aload_n 0, 1)) tx_lr_reserve_0 15 rfl
theorem d_lr_reserve_32 : decode prog_1_method_18_code 32 = .ok (.getfield 55, 3) := zD (q := (32, .getfield 55, 3)) tx_lr_reserve_0 16 rfl
theorem d_lr_reserve_35 : decode prog_1_method_18_code 35 = .ok (.invokevirtual 240, 3) := zD (q := (35, .invokevirtual 240, 3)) tx_lr_reserve_0 17 rfl
theorem d_lr_reserve_38 : decode prog_1_method_18_code 38 = .ok (.ifCond .eq 13, 3) := zD (q := (38, .ifCond .eq 13, 3)) tx_lr_reserve_0 18 rfl
theorem d_lr_reserve_41 : decode prog_1_method_18_code 41 = .ok (.new 100, 3) := zD (q := (41, .new 100, 3)) tx_lr_reserve_0 19 rfl
theorem d_lr_reserve_44 : decode prog_1_method_18_code 44 = .ok (.dup, 1) := zD (q := (44, .dup, 1)) tx_lr_reserve_0 20 rfl
theorem d_lr_reserve_45 : decode prog_1_method_18_code 45 = .ok (.ldc 243, 2) := zD (q := (45, .ldc 243, 2)) tx_lr_reserve_0 21 rfl
theorem d_lr_reserve_47 : decode prog_1_method_18_code 47 = .ok (.invokespecial 104, 3) := zD (q := (47, .invokespecial 104, 3)) tx_lr_reserve_0 22 rfl
theorem d_lr_reserve_50 : decode prog_1_method_18_code 50 = .ok (.athrow, 1) := zD (q := (50, .athrow, 1)) tx_lr_reserve_0 23 rfl
theorem d_lr_reserve_51 : decode prog_1_method_18_code 51 = .ok (.aload_n 0, 1) := zD (q := (51, .aload_n 0, 1)) tx_lr_reserve_0 24 rfl
theorem d_lr_reserve_52 : decode prog_1_method_18_code 52 = .ok (.getfield 55, 3) := zD (q := (52, .getfield 55, 3)) tx_lr_reserve_0 25 rfl
theorem d_lr_reserve_55 : decode prog_1_method_18_code 55 = .ok (.iload_n 1, 1) := zD (q := (55, .iload_n 1, 1)) tx_lr_reserve_0 26 rfl
theorem d_lr_reserve_56 : decode prog_1_method_18_code 56 = .ok (.invokevirtual 245, 3) := zD (q := (56, .invokevirtual 245, 3)) tx_lr_reserve_0 27 rfl
theorem d_lr_reserve_59 : decode prog_1_method_18_code 59 = .ok (.ireturn, 1) := zD (q := (59, .ireturn, 1)) tx_lr_reserve_0 28 rfl
def T_lr_catchUp_0 : List (Nat × Instr × Nat) := [(0, .aload_n 0, 1), (1, .getfield 46, 3), (4, .invokevirtual 248, 3), (7, .bipush 14, 2), (9, .if_icmp .le 13, 3), (12, .new 100, 3), (15, .dup, 1), (16, .ldc 251, 2), (18, .invokespecial 104, 3), (21, .athrow, 1), (22, .aload_n 0, 1), (23, .getfield 55, 3), (26, .invokevirtual 253, 3), (29, .ireturn, 1)]
theorem tx_lr_catchUp_0 : zdec prog_1_method_20_code T_lr_catchUp_0 = true := by decide +kernel
theorem d_lr_catchUp_0 : decode prog_1_method_20_code 0 = .ok (.aload_n 0, 1) := zD (q := (0, .aload_n 0, 1)) tx_lr_catchUp_0 0 rfl
theorem d_lr_catchUp_1 : decode prog_1_method_20_code 1 = .ok (.getfield 46, 3) := zD (q := (1, .getfield 46, 3)) tx_lr_catchUp_0 1 rfl
theorem d_lr_catchUp_4 : decode prog_1_method_20_code 4 = .ok (.invokevirtual 248, 3) := zD (q := (4, .invokevirtual 248, 3)) tx_lr_catchUp_0 2 rfl
theorem d_lr_catchUp_7 : decode prog_1_method_20_code 7 = .ok (.bipush 14, 2) := zD (q := (7, .bipush 14, 2)) tx_lr_catchUp_0 3 rfl
theorem d_lr_catchUp_9 : decode prog_1_method_20_code 9 = .ok (.if_icmp .le 13, 3) := zD (q := (9, .if_icmp .le 13, 3)) tx_lr_catchUp_0 4 rfl
theorem d_lr_catchUp_12 : decode prog_1_method_20_code 12 = .ok (.new 100, 3) := zD (q := (12, .new 100, 3)) tx_lr_catchUp_0 5 rfl
theorem d_lr_catchUp_15 : decode prog_1_method_20_code 15 = .ok (.dup, 1) := zD (q := (15, .dup, 1)) tx_lr_catchUp_0 6 rfl
theorem d_lr_catchUp_16 : decode prog_1_method_20_code 16 = .ok (.ldc 251, 2) := zD (q := (16, .ldc 251, 2)) tx_lr_catchUp_0 7 rfl
theorem d_lr_catchUp_18 : decode prog_1_method_20_code 18 = .ok (.invokespecial 104, 3) := zD (q := (18, .invokespecial 104, 3)) tx_lr_catchUp_0 8 rfl
theorem d_lr_catchUp_21 : decode prog_1_method_20_code 21 = .ok (.athrow, 1) := zD (q := (21, .athrow, 1)) tx_lr_catchUp_0 9 rfl
theorem d_lr_catchUp_22 : decode prog_1_method_20_code 22 = .ok (.aload_n 0, 1) := zD (q := (22, .aload_n 0, 1)) tx_lr_catchUp_0 10 rfl
theorem d_lr_catchUp_23 : decode prog_1_method_20_code 23 = .ok (.getfield 55, 3) := zD (q := (23, .getfield 55, 3)) tx_lr_catchUp_0 11 rfl
theorem d_lr_catchUp_26 : decode prog_1_method_20_code 26 = .ok (.invokevirtual 253, 3) := zD (q := (26, .invokevirtual 253, 3)) tx_lr_catchUp_0 12 rfl
theorem d_lr_catchUp_29 : decode prog_1_method_20_code 29 = .ok (.ireturn, 1) := zD (q := (29, .ireturn, 1)) tx_lr_catchUp_0 13 rfl
def T_lr_catchDate_0 : List (Nat × Instr × Nat) := [(0, .aload_n 0, 1), (1, .iload_n 1, 1), (2, .iload_n 2, 1), (3, .invokevirtual 151, 3), (6, .aload_n 0, 1), (7, .iload_n 1, 1), (8, .iload_n 2, 1), (9, .invokevirtual 195, 3), (12, .aload_n 0, 1), (13, .getfield 37, 3), (16, .iload_n 1, 1), (17, .iload_n 2, 1), (18, .invokevirtual 255, 3), (21, .ifCond .eq 7, 3), (24, .iconst (-1), 1), (25, .goto 12, 3), (28, .aload_n 0, 1), (29, .getfield 55, 3), (32, .iload_n 1, 1), (33, .iload_n 2, 1), (34, .invokevirtual 201, 3), (37, .ireturn, 1)]
theorem tx_lr_catchDate_0 : zdec prog_1_method_21_code T_lr_catchDate_0 = true := by decide +kernel
theorem d_lr_catchDate_0 : decode prog_1_method_21_code 0 = .ok (.aload_n 0, 1) := zD (q := (0, .aload_n 0, 1)) tx_lr_catchDate_0 0 rfl
theorem d_lr_catchDate_1 : decode prog_1_method_21_code 1 = .ok (.iload_n 1, 1) := zD (q := (1, .iload_n 1, 1)) tx_lr_catchDate_0 1 rfl
theorem d_lr_catchDate_2 : decode prog_1_method_21_code 2 = .ok (.iload_n 2, 1) := zD (q := (2, .iload_n 2, 1)) tx_lr_catchDate_0 2 rfl
theorem d_lr_catchDate_3 : decode prog_1_method_21_code 3 = .ok (.invokevirtual 151, 3) := zD (q := (3, .invokevirtual 151, 3)) tx_lr_catchDate_0 3 rfl
theorem d_lr_catchDate_6 : decode prog_1_method_21_code 6 = .ok (.aload_n 0, 1) := zD (q := (6, .aload_n 0, 1)) tx_lr_catchDate_0 4 rfl
theorem d_lr_catchDate_7 : decode prog_1_method_21_code 7 = .ok (.iload_n 1, 1) := zD (q := (7, .iload_n 1, 1)) tx_lr_catchDate_0 5 rfl
theorem d_lr_catchDate_8 : decode prog_1_method_21_code 8 = .ok (.iload_n 2, 1) := zD (q := (8, .iload_n 2, 1)) tx_lr_catchDate_0 6 rfl
theorem d_lr_catchDate_9 : decode prog_1_method_21_code 9 = .ok (.invokevirtual 195, 3) := zD (q := (9, .invokevirtual 195, 3)) tx_lr_catchDate_0 7 rfl
theorem d_lr_catchDate_12 : decode prog_1_method_21_code 12 = .ok (.aload_n 0, 1) := zD (q := (12, .aload_n 0, 1)) tx_lr_catchDate_0 8 rfl
theorem d_lr_catchDate_13 : decode prog_1_method_21_code 13 = .ok (.getfield 37, 3) := zD (q := (13, .getfield 37, 3)) tx_lr_catchDate_0 9 rfl
theorem d_lr_catchDate_16 : decode prog_1_method_21_code 16 = .ok (.iload_n 1, 1) := zD (q := (16, .iload_n 1, 1)) tx_lr_catchDate_0 10 rfl
theorem d_lr_catchDate_17 : decode prog_1_method_21_code 17 = .ok (.iload_n 2, 1) := zD (q := (17, .iload_n 2, 1)) tx_lr_catchDate_0 11 rfl
theorem d_lr_catchDate_18 : decode prog_1_method_21_code 18 = .ok (.invokevirtual 255, 3) := zD (q := (18, .invokevirtual 255, 3)) tx_lr_catchDate_0 12 rfl
theorem d_lr_catchDate_21 : decode prog_1_method_21_code 21 = .ok (.ifCond .eq 7, 3) := zD (q := (21, .ifCond .eq 7, 3)) tx_lr_catchDate_0 13 rfl
theorem d_lr_catchDate_24 : decode prog_1_method_21_code 24 = .ok (.iconst (-1), 1) := zD (q := (24, .iconst (-1), 1)) tx_lr_catchDate_0 14 rfl
theorem d_lr_catchDate_25 : decode prog_1_method_21_code 25 = .ok (.goto 12, 3) := zD (q := (25, .goto 12, 3)) tx_lr_catchDate_0 15 rfl
theorem d_lr_catchDate_28 : decode prog_1_method_21_code 28 = .ok (.aload_n 0, 1) := zD (q := (28, .aload_n 0, 1)) tx_lr_catchDate_0 16 rfl
theorem d_lr_catchDate_29 : decode prog_1_method_21_code 29 = .ok (.getfield 55, 3) := zD (q := (29, .getfield 55, 3)) tx_lr_catchDate_0 17 rfl
theorem d_lr_catchDate_32 : decode prog_1_method_21_code 32 = .ok (.iload_n 1, 1) := zD (q := (32, .iload_n 1, 1)) tx_lr_catchDate_0 18 rfl
theorem d_lr_catchDate_33 : decode prog_1_method_21_code 33 = .ok (.iload_n 2, 1) := zD (q := (33, .iload_n 2, 1)) tx_lr_catchDate_0 19 rfl
theorem d_lr_catchDate_34 : decode prog_1_method_21_code 34 = .ok (.invokevirtual 201, 3) := zD (q := (34, .invokevirtual 201, 3)) tx_lr_catchDate_0 20 rfl
theorem d_lr_catchDate_37 : decode prog_1_method_21_code 37 = .ok (.ireturn, 1) := zD (q := (37, .ireturn, 1)) tx_lr_catchDate_0 21 rfl
