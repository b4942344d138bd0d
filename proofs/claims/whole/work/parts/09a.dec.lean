/-! decode rows (written by wip/gen/data.py) -/
def zdec (b : ByteArray) (t : List (Nat × Instr × Nat)) : Bool := t.all fun q => decide (decode b q.1 = .ok q.2)
theorem zD {b : ByteArray} {t : List (Nat × Instr × Nat)} (h : zdec b t = true) (i : Nat) {q : Nat × Instr × Nat} (hi : t[i]? = some q) : decode b q.1 = .ok q.2 := by
  have h1 := List.all_eq_true.mp h q (List.mem_of_getElem? hi)
  simpa using h1
def T_cu_init_0 : List (Nat × Instr × Nat) := [(0, .aload_n 0, 1), (1, .invokespecial 3, 3), (4, .aload_n 0, 1), (5, .bipush 6, 2), (7, .newarray .int, 2), (9, .putfield 9, 3), (12, .aload_n 0, 1), (13, .sipush 760, 3), (16, .newarray .int, 2), (18, .putfield 15, 3), (21, .aload_n 0, 1), (22, .bipush 14, 2), (24, .newarray .int, 2), (26, .putfield 18, 3), (29, .aload_n 0, 1), (30, .bipush 14, 2), (32, .newarray .int, 2), (34, .putfield 21, 3), (37, .aload_n 0, 1), (38, .bipush 14, 2), (40, .newarray .int, 2), (42, .putfield 24, 3), (45, .aload_n 0, 1), (46, .bipush 14, 2), (48, .newarray .int, 2), (50, .putfield 27, 3), (53, .aload_n 0, 1), (54, .bipush 20, 2), (56, .newarray .int, 2), (58, .putfield 30, 3), (61, .aload_n 0, 1), (62, .aload_n 1, 1), (63, .putfield 33, 3), (66, .aload_n 0, 1), (67, .aload_n 2, 1), (68, .putfield 37, 3), (71, .aload_n 0, 1), (72, .getfield 15, 3), (75, .iconst (-1), 1), (76, .invokestatic 41, 3), (79, .return_, 1)]
theorem tx_cu_init_0 : zdec prog_2_method_1_code T_cu_init_0 = true := by decide +kernel
theorem d_cu_init_0 : decode prog_2_method_1_code 0 = .ok (.aload_n 0, 1) := zD (q := (0, .aload_n 0, 1)) tx_cu_init_0 0 rfl
theorem d_cu_init_1 : decode prog_2_method_1_code 1 = .ok (.invokespecial 3, 3) := zD (q := (1, .invokespecial 3, 3)) tx_cu_init_0 1 rfl
theorem d_cu_init_4 : decode prog_2_method_1_code 4 = .ok (.aload_n 0, 1) := zD (q := (4, .aload_n 0, 1)) tx_cu_init_0 2 rfl
theorem d_cu_init_5 : decode prog_2_method_1_code 5 = .ok (.bipush 6, 2) := zD (q := (5, .bipush 6, 2)) tx_cu_init_0 3 rfl
theorem d_cu_init_7 : decode prog_2_method_1_code 7 = .ok (.newarray .int, 2) := zD (q := (7, .newarray .int, 2)) tx_cu_init_0 4 rfl
theorem d_cu_init_9 : decode prog_2_method_1_code 9 = .ok (.putfield 9, 3) := zD (q := (9, .putfield 9, 3)) tx_cu_init_0 5 rfl
theorem d_cu_init_12 : decode prog_2_method_1_code 12 = .ok (.aload_n 0, 1) := zD (q := (12, .aload_n 0, 1)) tx_cu_init_0 6 rfl
theorem d_cu_init_13 : decode prog_2_method_1_code 13 = .ok (.sipush 760, 3) := zD (q := (13, .sipush 760, 3)) tx_cu_init_0 7 rfl
theorem d_cu_init_16 : decode prog_2_method_1_code 16 = .ok (.newarray .int, 2) := zD (q := (16, .newarray .int, 2)) tx_cu_init_0 8 rfl
theorem d_cu_init_18 : decode prog_2_method_1_code 18 = .ok (.putfield 15, 3) := zD (q := (18, .putfield 15, 3)) tx_cu_init_0 9 rfl
theorem d_cu_init_21 : decode prog_2_method_1_code 21 = .ok (.aload_n 0, 1) := zD (q := (21, .aload_n 0, 1)) tx_cu_init_0 10 rfl
theorem d_cu_init_22 : decode prog_2_method_1_code 22 = .ok (.bipush 14, 2) := zD (q := (22, .bipush 14, 2)) tx_cu_init_0 11 rfl
theorem d_cu_init_24 : decode prog_2_method_1_code 24 = .ok (.newarray .int, 2) := zD (q := (24, .newarray .int, 2)) tx_cu_init_0 12 rfl
theorem d_cu_init_26 : decode prog_2_method_1_code 26 = .ok (.putfield 18, 3) := zD (q := (26, .putfield 18, 3)) tx_cu_init_0 13 rfl
theorem d_cu_init_29 : decode prog_2_method_1_code 29 = .ok (.aload_n 0, 1) := zD (q := (29, .aload_n 0, 1)) tx_cu_init_0 14 rfl
theorem d_cu_init_30 : decode prog_2_method_1_code 30 = .ok (.bipush 14, 2) := zD (q := (30, .bipush 14, 2)) tx_cu_init_0 15 rfl
theorem d_cu_init_32 : decode prog_2_method_1_code 32 = .ok (.newarray .int, 2) := zD (q := (32, .newarray .int, 2)) tx_cu_init_0 16 rfl
theorem d_cu_init_34 : decode prog_2_method_1_code 34 = .ok (.putfield 21, 3) := zD (q := (34, .putfield 21, 3)) tx_cu_init_0 17 rfl
theorem d_cu_init_37 : decode prog_2_method_1_code 37 = .ok (.aload_n 0, 1) := zD (q := (37, .aload_n 0, 1)) tx_cu_init_0 18 rfl
theorem d_cu_init_38 : decode prog_2_method_1_code 38 = .ok (.bipush 14, 2) := zD (q := (38, .bipush 14, 2)) tx_cu_init_0 19 rfl
theorem d_cu_init_40 : decode prog_2_method_1_code 40 = .ok (.newarray .int, 2) := zD (q := (40, .newarray .int, 2)) tx_cu_init_0 20 rfl
theorem d_cu_init_42 : decode prog_2_method_1_code 42 = .ok (.putfield 24, 3) := zD (q := (42, .putfield 24, 3)) tx_cu_init_0 21 rfl
theorem d_cu_init_45 : decode prog_2_method_1_code 45 = .ok (.aload_n 0, 1) := zD (q := (45, .aload_n 0, 1)) tx_cu_init_0 22 rfl
theorem d_cu_init_46 : decode prog_2_method_1_code 46 = .ok (.bipush 14, 2) := zD (q := (46, .bipush 14, 2)) tx_cu_init_0 23 rfl
theorem d_cu_init_48 : decode prog_2_method_1_code 48 = .ok (.newarray .int, 2) := zD (q := (48, .newarray .int, 2)) tx_cu_init_0 24 rfl
theorem d_cu_init_50 : decode prog_2_method_1_code 50 = .ok (.putfield 27, 3) := zD (q := (50, .putfield 27, 3)) tx_cu_init_0 25 rfl
theorem d_cu_init_53 : decode prog_2_method_1_code 53 = .ok (.aload_n 0, 1) := zD (q := (53, .aload_n 0, 1)) tx_cu_init_0 26 rfl
theorem d_cu_init_54 : decode prog_2_method_1_code 54 = .ok (.bipush 20, 2) := zD (q := (54, .bipush 20, 2)) tx_cu_init_0 27 rfl
theorem d_cu_init_56 : decode prog_2_method_1_code 56 = .ok (.newarray .int, 2) := zD (q := (56, .newarray .int, 2)) tx_cu_init_0 28 rfl
theorem d_cu_init_58 : decode prog_2_method_1_code 58 = .ok (.putfield 30, 3) := zD (q := (58, .putfield 30, 3)) tx_cu_init_0 29 rfl
theorem d_cu_init_61 : decode prog_2_method_1_code 61 = .ok (.aload_n 0, 1) := zD (q := (61, .aload_n 0, 1)) tx_cu_init_0 30 rfl
theorem d_cu_init_62 : decode prog_2_method_1_code 62 = .ok (.aload_n 1, 1) := zD (q := (62, .aload_n 1, 1)) tx_cu_init_0 31 rfl
theorem d_cu_init_63 : decode prog_2_method_1_code 63 = .ok (.putfield 33, 3) := zD (q := (63, .putfield 33, 3)) tx_cu_init_0 32 rfl
theorem d_cu_init_66 : decode prog_2_method_1_code 66 = .ok (.aload_n 0, 1) := zD (q := (66, .aload_n 0, 1)) tx_cu_init_0 33 rfl
theorem d_cu_init_67 : decode prog_2_method_1_code 67 = .ok (.aload_n 2, 1) := zD (q := (67, .aload_n 2, 1)) tx_cu_init_0 34 rfl
theorem d_cu_init_68 : decode prog_2_method_1_code 68 = .ok (.putfield 37, 3) := zD (q := (68, .putfield 37, 3)) tx_cu_init_0 35 rfl
theorem d_cu_init_71 : decode prog_2_method_1_code 71 = .ok (.aload_n 0, 1) := zD (q := (71, .aload_n 0, 1)) tx_cu_init_0 36 rfl
theorem d_cu_init_72 : decode prog_2_method_1_code 72 = .ok (.getfield 15, 3) := zD (q := (72, .getfield 15, 3)) tx_cu_init_0 37 rfl
theorem d_cu_init_75 : decode prog_2_method_1_code 75 = .ok (.iconst (-1), 1) := zD (q := (75, .iconst (-1), 1)) tx_cu_init_0 38 rfl
theorem d_cu_init_76 : decode prog_2_method_1_code 76 = .ok (.invokestatic 41, 3) := zD (q := (76, .invokestatic 41, 3)) tx_cu_init_0 39 rfl
theorem d_cu_init_79 : decode prog_2_method_1_code 79 = .ok (.return_, 1) := zD (q := (79, .return_, 1)) tx_cu_init_0 40 rfl
def T_cu_forget_0 : List (Nat × Instr × Nat) := [(0, .aload_n 0, 1), (1, .iconst 0, 1), (2, .putfield 47, 3), (5, .aload_n 0, 1), (6, .getfield 15, 3), (9, .iconst (-1), 1), (10, .invokestatic 41, 3), (13, .return_, 1)]
theorem tx_cu_forget_0 : zdec prog_2_method_2_code T_cu_forget_0 = true := by decide +kernel
theorem d_cu_forget_0 : decode prog_2_method_2_code 0 = .ok (.aload_n 0, 1) := zD (q := (0, .aload_n 0, 1)) tx_cu_forget_0 0 rfl
theorem d_cu_forget_1 : decode prog_2_method_2_code 1 = .ok (.iconst 0, 1) := zD (q := (1, .iconst 0, 1)) tx_cu_forget_0 1 rfl
theorem d_cu_forget_2 : decode prog_2_method_2_code 2 = .ok (.putfield 47, 3) := zD (q := (2, .putfield 47, 3)) tx_cu_forget_0 2 rfl
theorem d_cu_forget_5 : decode prog_2_method_2_code 5 = .ok (.aload_n 0, 1) := zD (q := (5, .aload_n 0, 1)) tx_cu_forget_0 3 rfl
theorem d_cu_forget_6 : decode prog_2_method_2_code 6 = .ok (.getfield 15, 3) := zD (q := (6, .getfield 15, 3)) tx_cu_forget_0 4 rfl
theorem d_cu_forget_9 : decode prog_2_method_2_code 9 = .ok (.iconst (-1), 1) := zD (q := (9, .iconst (-1), 1)) tx_cu_forget_0 5 rfl
theorem d_cu_forget_10 : decode prog_2_method_2_code 10 = .ok (.invokestatic 41, 3) := zD (q := (10, .invokestatic 41, 3)) tx_cu_forget_0 6 rfl
theorem d_cu_forget_13 : decode prog_2_method_2_code 13 = .ok (.return_, 1) := zD (q := (13, .return_, 1)) tx_cu_forget_0 7 rfl
def T_cu_dateAt_0 : List (Nat × Instr × Nat) := [(0, .aload_n 0, 1), (1, .getfield 15, 3), (4, .iload_n 1, 1), (5, .iload_n 2, 1), (6, .invokestatic 51, 3), (9, .iaload, 1), (10, .ireturn, 1)]
theorem tx_cu_dateAt_0 : zdec prog_2_method_6_code T_cu_dateAt_0 = true := by decide +kernel
theorem d_cu_dateAt_0 : decode prog_2_method_6_code 0 = .ok (.aload_n 0, 1) := zD (q := (0, .aload_n 0, 1)) tx_cu_dateAt_0 0 rfl
theorem d_cu_dateAt_1 : decode prog_2_method_6_code 1 = .ok (.getfield 15, 3) := zD (q := (1, .getfield 15, 3)) tx_cu_dateAt_0 1 rfl
theorem d_cu_dateAt_4 : decode prog_2_method_6_code 4 = .ok (.iload_n 1, 1) := zD (q := (4, .iload_n 1, 1)) tx_cu_dateAt_0 2 rfl
theorem d_cu_dateAt_5 : decode prog_2_method_6_code 5 = .ok (.iload_n 2, 1) := zD (q := (5, .iload_n 2, 1)) tx_cu_dateAt_0 3 rfl
theorem d_cu_dateAt_6 : decode prog_2_method_6_code 6 = .ok (.invokestatic 51, 3) := zD (q := (6, .invokestatic 51, 3)) tx_cu_dateAt_0 4 rfl
theorem d_cu_dateAt_9 : decode prog_2_method_6_code 9 = .ok (.iaload, 1) := zD (q := (9, .iaload, 1)) tx_cu_dateAt_0 5 rfl
theorem d_cu_dateAt_10 : decode prog_2_method_6_code 10 = .ok (.ireturn, 1) := zD (q := (10, .ireturn, 1)) tx_cu_dateAt_0 6 rfl
def T_cu_hasDate_0 : List (Nat × Instr × Nat) := [(0, .iconst 0, 1), (1, .istore_n 2, 1), (2, .iload_n 2, 1), (3, .aload_n 0, 1), (4, .getfield 47, 3), (7, .if_icmp .ge 21, 3), (10, .aload_n 0, 1), (11, .getfield 9, 3), (14, .iload_n 2, 1), (15, .iaload, 1), (16, .iload_n 1, 1), (17, .if_icmp .ne 5, 3), (20, .iconst 1, 1), (21, .ireturn, 1), (22, .iinc 2 1, 3), (25, .goto (-23), 3), (28, .iconst 0, 1), (29, .ireturn, 1)]
theorem tx_cu_hasDate_0 : zdec prog_2_method_4_code T_cu_hasDate_0 = true := by decide +kernel
theorem d_cu_hasDate_0 : decode prog_2_method_4_code 0 = .ok (.iconst 0, 1) := zD (q := (0, .iconst 0, 1)) tx_cu_hasDate_0 0 rfl
theorem d_cu_hasDate_1 : decode prog_2_method_4_code 1 = .ok (.istore_n 2, 1) := zD (q := (1, .istore_n 2, 1)) tx_cu_hasDate_0 1 rfl
theorem d_cu_hasDate_2 : decode prog_2_method_4_code 2 = .ok (.iload_n 2, 1) := zD (q := (2, .iload_n 2, 1)) tx_cu_hasDate_0 2 rfl
theorem d_cu_hasDate_3 : decode prog_2_method_4_code 3 = .ok (.aload_n 0, 1) := zD (q := (3, .aload_n 0, 1)) tx_cu_hasDate_0 3 rfl
theorem d_cu_hasDate_4 : decode prog_2_method_4_code 4 = .ok (.getfield 47, 3) := zD (q := (4, .getfield 47, 3)) tx_cu_hasDate_0 4 rfl
theorem d_cu_hasDate_7 : decode prog_2_method_4_code 7 = .ok (.if_icmp .ge 21, 3) := zD (q := (7, .if_icmp .ge 21, 3)) tx_cu_hasDate_0 5 rfl
theorem d_cu_hasDate_10 : decode prog_2_method_4_code 10 = .ok (.aload_n 0, 1) := zD (q := (10, .aload_n 0, 1)) tx_cu_hasDate_0 6 rfl
theorem d_cu_hasDate_11 : decode prog_2_method_4_code 11 = .ok (.getfield 9, 3) := zD (q := (11, .getfield 9, 3)) tx_cu_hasDate_0 7 rfl
theorem d_cu_hasDate_14 : decode prog_2_method_4_code 14 = .ok (.iload_n 2, 1) := zD (q := (14, .iload_n 2, 1)) tx_cu_hasDate_0 8 rfl
theorem d_cu_hasDate_15 : decode prog_2_method_4_code 15 = .ok (.iaload, 1) := zD (q := (15, .iaload, 1)) tx_cu_hasDate_0 9 rfl
theorem d_cu_hasDate_16 : decode prog_2_method_4_code 16 = .ok (.iload_n 1, 1) := zD (q := (16, .iload_n 1, 1)) tx_cu_hasDate_0 10 rfl
theorem d_cu_hasDate_17 : decode prog_2_method_4_code 17 = .ok (.if_icmp .ne 5, 3) := zD (q := (17, .if_icmp .ne 5, 3)) tx_cu_hasDate_0 11 rfl
theorem d_cu_hasDate_20 : decode prog_2_method_4_code 20 = .ok (.iconst 1, 1) := zD (q := (20, .iconst 1, 1)) tx_cu_hasDate_0 12 rfl
theorem d_cu_hasDate_21 : decode prog_2_method_4_code 21 = .ok (.ireturn, 1) := zD (q := (21, .ireturn, 1)) tx_cu_hasDate_0 13 rfl
theorem d_cu_hasDate_22 : decode prog_2_method_4_code 22 = .ok (.iinc 2 1, 3) := zD (q := (22, .iinc 2 1, 3)) tx_cu_hasDate_0 14 rfl
theorem d_cu_hasDate_25 : decode prog_2_method_4_code 25 = .ok (.goto (-23), 3) := zD (q := (25, .goto (-23), 3)) tx_cu_hasDate_0 15 rfl
theorem d_cu_hasDate_28 : decode prog_2_method_4_code 28 = .ok (.iconst 0, 1) := zD (q := (28, .iconst 0, 1)) tx_cu_hasDate_0 16 rfl
theorem d_cu_hasDate_29 : decode prog_2_method_4_code 29 = .ok (.ireturn, 1) := zD (q := (29, .ireturn, 1)) tx_cu_hasDate_0 17 rfl
def T_cu_datesAreFull_0 : List (Nat × Instr × Nat) := [(0, .aload_n 0, 1), (1, .getfield 47, 3), (4, .bipush 6, 2), (6, .if_icmp .lt 7, 3), (9, .iconst 1, 1), (10, .goto 4, 3), (13, .iconst 0, 1), (14, .ireturn, 1)]
theorem tx_cu_datesAreFull_0 : zdec prog_2_method_3_code T_cu_datesAreFull_0 = true := by decide +kernel
theorem d_cu_datesAreFull_0 : decode prog_2_method_3_code 0 = .ok (.aload_n 0, 1) := zD (q := (0, .aload_n 0, 1)) tx_cu_datesAreFull_0 0 rfl
theorem d_cu_datesAreFull_1 : decode prog_2_method_3_code 1 = .ok (.getfield 47, 3) := zD (q := (1, .getfield 47, 3)) tx_cu_datesAreFull_0 1 rfl
theorem d_cu_datesAreFull_4 : decode prog_2_method_3_code 4 = .ok (.bipush 6, 2) := zD (q := (4, .bipush 6, 2)) tx_cu_datesAreFull_0 2 rfl
theorem d_cu_datesAreFull_6 : decode prog_2_method_3_code 6 = .ok (.if_icmp .lt 7, 3) := zD (q := (6, .if_icmp .lt 7, 3)) tx_cu_datesAreFull_0 3 rfl
theorem d_cu_datesAreFull_9 : decode prog_2_method_3_code 9 = .ok (.iconst 1, 1) := zD (q := (9, .iconst 1, 1)) tx_cu_datesAreFull_0 4 rfl
theorem d_cu_datesAreFull_10 : decode prog_2_method_3_code 10 = .ok (.goto 4, 3) := zD (q := (10, .goto 4, 3)) tx_cu_datesAreFull_0 5 rfl
theorem d_cu_datesAreFull_13 : decode prog_2_method_3_code 13 = .ok (.iconst 0, 1) := zD (q := (13, .iconst 0, 1)) tx_cu_datesAreFull_0 6 rfl
theorem d_cu_datesAreFull_14 : decode prog_2_method_3_code 14 = .ok (.ireturn, 1) := zD (q := (14, .ireturn, 1)) tx_cu_datesAreFull_0 7 rfl
def T_cu_addDate_0 : List (Nat × Instr × Nat) := [(0, .aload_n 0, 1), (1, .getfield 47, 3), (4, .istore_n 2, 1), (5, .iload_n 2, 1), (6, .ifCond .le 35, 3), (9, .aload_n 0, 1), (10, .getfield 9, 3), (13, .iload_n 2, 1), (14, .iconst 1, 1), (15, .isub, 1), (16, .iaload, 1), (17, .iload_n 1, 1), (18, .if_icmp .le 23, 3), (21, .aload_n 0, 1), (22, .getfield 9, 3), (25, .iload_n 2, 1), (26, .aload_n 0, 1), (27, .getfield 9, 3), (30, .iload_n 2, 1), (31, .iconst 1, 1), (32, .isub, 1), (33, .iaload, 1), (34, .iastore, 1), (35, .iinc 2 (-1), 3), (38, .goto (-33), 3), (41, .aload_n 0, 1), (42, .getfield 9, 3), (45, .iload_n 2, 1), (46, .iload_n 1, 1), (47, .iastore, 1), (48, .aload_n 0, 1), (49, .dup, 1), (50, .getfield 47, 3), (53, .iconst 1, 1), (54, .iadd, 1), (55, .putfield 47, 3), (58, .aload_n 0, 1), (59, .getfield 47, 3), (62, .ireturn, 1)]
theorem tx_cu_addDate_0 : zdec prog_2_method_5_code T_cu_addDate_0 = true := by decide +kernel
theorem d_cu_addDate_0 : decode prog_2_method_5_code 0 = .ok (.aload_n 0, 1) := zD (q := (0, .aload_n 0, 1)) tx_cu_addDate_0 0 rfl
theorem d_cu_addDate_1 : decode prog_2_method_5_code 1 = .ok (.getfield 47, 3) := zD (q := (1, .getfield 47, 3)) tx_cu_addDate_0 1 rfl
theorem d_cu_addDate_4 : decode prog_2_method_5_code 4 = .ok (.istore_n 2, 1) := zD (q := (4, .istore_n 2, 1)) tx_cu_addDate_0 2 rfl
theorem d_cu_addDate_5 : decode prog_2_method_5_code 5 = .ok (.iload_n 2, 1) := zD (q := (5, .iload_n 2, 1)) tx_cu_addDate_0 3 rfl
theorem d_cu_addDate_6 : decode prog_2_method_5_code 6 = .ok (.ifCond .le 35, 3) := zD (q := (6, .ifCond .le 35, 3)) tx_cu_addDate_0 4 rfl
theorem d_cu_addDate_9 : decode prog_2_method_5_code 9 = .ok (.aload_n 0, 1) := zD (q := (9, .aload_n 0, 1)) tx_cu_addDate_0 5 rfl
theorem d_cu_addDate_10 : decode prog_2_method_5_code 10 = .ok (.getfield 9, 3) := zD (q := (10, .getfield 9, 3)) tx_cu_addDate_0 6 rfl
theorem d_cu_addDate_13 : decode prog_2_method_5_code 13 = .ok (.iload_n 2, 1) := zD (q := (13, .iload_n 2, 1)) tx_cu_addDate_0 7 rfl
theorem d_cu_addDate_14 : decode prog_2_method_5_code 14 = .ok (.iconst 1, 1) := zD (q := (14, .iconst 1, 1)) tx_cu_addDate_0 8 rfl
theorem d_cu_addDate_15 : decode prog_2_method_5_code 15 = .ok (.isub, 1) := zD (q := (15, .isub, 1)) tx_cu_addDate_0 9 rfl
theorem d_cu_addDate_16 : decode prog_2_method_5_code 16 = .ok (.iaload, 1) := zD (q := (16, .iaload, 1)) tx_cu_addDate_0 10 rfl
theorem d_cu_addDate_17 : decode prog_2_method_5_code 17 = .ok (.iload_n 1, 1) := zD (q := (17, .iload_n 1, 1)) tx_cu_addDate_0 11 rfl
theorem d_cu_addDate_18 : decode prog_2_method_5_code 18 = .ok (.if_icmp .le 23, 3) := zD (q := (18, .if_icmp .le 23, 3)) tx_cu_addDate_0 12 rfl
theorem d_cu_addDate_21 : decode prog_2_method_5_code 21 = .ok (.aload_n 0, 1) := zD (q := (21, .aload_n 0, 1)) tx_cu_addDate_0 13 rfl
theorem d_cu_addDate_22 : decode prog_2_method_5_code 22 = .ok (.getfield 9, 3) := zD (q := (22, .getfield 9, 3)) tx_cu_addDate_0 14 rfl
theorem d_cu_addDate_25 : decode prog_2_method_5_code 25 = .ok (.iload_n 2, 1) := zD (q := (25, .iload_n 2, 1)) tx_cu_addDate_0 15 rfl
theorem d_cu_addDate_26 : decode prog_2_method_5_code 26 = .ok (.aload_n 0, 1) := zD (q := (26, .aload_n 0, 1)) tx_cu_addDate_0 16 rfl
theorem d_cu_addDate_27 : decode prog_2_method_5_code 27 = .ok (.getfield 9, 3) := zD (q := (27, .getfield 9, 3)) tx_cu_addDate_0 17 rfl
theorem d_cu_addDate_30 : decode prog_2_method_5_code 30 = .ok (.iload_n 2, 1) := zD (q := (30, .iload_n 2, 1)) tx_cu_addDate_0 18 rfl
theorem d_cu_addDate_31 : decode prog_2_method_5_code 31 = .ok (.iconst 1, 1) := zD (q := (31, .iconst 1, 1)) tx_cu_addDate_0 19 rfl
theorem d_cu_addDate_32 : decode prog_2_method_5_code 32 = .ok (.isub, 1) := zD (q := (32, .isub, 1)) tx_cu_addDate_0 20 rfl
theorem d_cu_addDate_33 : decode prog_2_method_5_code 33 = .ok (.iaload, 1) := zD (q := (33, .iaload, 1)) tx_cu_addDate_0 21 rfl
theorem d_cu_addDate_34 : decode prog_2_method_5_code 34 = .ok (.iastore, 1) := zD (q := (34, .iastore, 1)) tx_cu_addDate_0 22 rfl
theorem d_cu_addDate_35 : decode prog_2_method_5_code 35 = .ok (.iinc 2 (-1), 3) := zD (q := (35, .iinc 2 (-1), 3)) tx_cu_addDate_0 23 rfl
theorem d_cu_addDate_38 : decode prog_2_method_5_code 38 = .ok (.goto (-33), 3) := zD (q := (38, .goto (-33), 3)) tx_cu_addDate_0 24 rfl
theorem d_cu_addDate_41 : decode prog_2_method_5_code 41 = .ok (.aload_n 0, 1) := zD (q := (41, .aload_n 0, 1)) tx_cu_addDate_0 25 rfl
theorem d_cu_addDate_42 : decode prog_2_method_5_code 42 = .ok (.getfield 9, 3) := zD (q := (42, .getfield 9, 3)) tx_cu_addDate_0 26 rfl
theorem d_cu_addDate_45 : decode prog_2_method_5_code 45 = .ok (.iload_n 2, 1) := zD (q := (45, .iload_n 2, 1)) tx_cu_addDate_0 27 rfl
theorem d_cu_addDate_46 : decode prog_2_method_5_code 46 = .ok (.iload_n 1, 1) := zD (q := (46, .iload_n 1, 1)) tx_cu_addDate_0 28 rfl
theorem d_cu_addDate_47 : decode prog_2_method_5_code 47 = .ok (.iastore, 1) := zD (q := (47, .iastore, 1)) tx_cu_addDate_0 29 rfl
theorem d_cu_addDate_48 : decode prog_2_method_5_code 48 = .ok (.aload_n 0, 1) := zD (q := (48, .aload_n 0, 1)) tx_cu_addDate_0 30 rfl
theorem d_cu_addDate_49 : decode prog_2_method_5_code 49 = .ok (.dup, 1) := zD (q := (49, .dup, 1)) tx_cu_addDate_0 31 rfl
theorem d_cu_addDate_50 : decode prog_2_method_5_code 50 = .ok (.getfield 47, 3) := zD (q := (50, .getfield 47, 3)) tx_cu_addDate_0 32 rfl
theorem d_cu_addDate_53 : decode prog_2_method_5_code 53 = .ok (.iconst 1, 1) := zD (q := (53, .iconst 1, 1)) tx_cu_addDate_0 33 rfl
theorem d_cu_addDate_54 : decode prog_2_method_5_code 54 = .ok (.iadd, 1) := zD (q := (54, .iadd, 1)) tx_cu_addDate_0 34 rfl
theorem d_cu_addDate_55 : decode prog_2_method_5_code 55 = .ok (.putfield 47, 3) := zD (q := (55, .putfield 47, 3)) tx_cu_addDate_0 35 rfl
theorem d_cu_addDate_58 : decode prog_2_method_5_code 58 = .ok (.aload_n 0, 1) := zD (q := (58, .aload_n 0, 1)) tx_cu_addDate_0 36 rfl
theorem d_cu_addDate_59 : decode prog_2_method_5_code 59 = .ok (.getfield 47, 3) := zD (q := (59, .getfield 47, 3)) tx_cu_addDate_0 37 rfl
theorem d_cu_addDate_62 : decode prog_2_method_5_code 62 = .ok (.ireturn, 1) := zD (q := (62, .ireturn, 1)) tx_cu_addDate_0 38 rfl
def T_cu_run_0 : List (Nat × Instr × Nat) := [(0, .aload_n 0, 1), (1, .invokevirtual 55, 3), (4, .aload_n 0, 1), (5, .invokevirtual 58, 3), (8, .istore_n 1, 1), (9, .iload_n 1, 1), (10, .aload_n 0, 1), (11, .getfield 47, 3), (14, .if_icmp .gt 33, 3), (17, .aload_n 0, 1), (18, .getfield 30, 3), (21, .iconst 0, 1), (22, .invokestatic 41, 3), (25, .aload_n 0, 1), (26, .iconst 0, 1), (27, .iload_n 1, 1), (28, .iconst 0, 1), (29, .invokevirtual 62, 3), (32, .ifCond .eq 9, 3), (35, .aload_n 0, 1), (36, .invokevirtual 66, 3), (39, .iload_n 1, 1), (40, .ireturn, 1), (41, .iinc 1 1, 3), (44, .goto (-35), 3), (47, .iconst (-1), 1), (48, .ireturn, 1)]
theorem tx_cu_run_0 : zdec prog_2_method_7_code T_cu_run_0 = true := by decide +kernel
theorem d_cu_run_0 : decode prog_2_method_7_code 0 = .ok (.aload_n 0, 1) := zD (q := (0, .aload_n 0, 1)) tx_cu_run_0 0 rfl
theorem d_cu_run_1 : decode prog_2_method_7_code 1 = .ok (.invokevirtual 55, 3) := zD (q := (1, .invokevirtual 55, 3)) tx_cu_run_0 1 rfl
theorem d_cu_run_4 : decode prog_2_method_7_code 4 = .ok (.aload_n 0, 1) := zD (q := (4, .aload_n 0, 1)) tx_cu_run_0 2 rfl
theorem d_cu_run_5 : decode prog_2_method_7_code 5 = .ok (.invokevirtual 58, 3) := zD (q := (5, .invokevirtual 58, 3)) tx_cu_run_0 3 rfl
theorem d_cu_run_8 : decode prog_2_method_7_code 8 = .ok (.istore_n 1, 1) := zD (q := (8, .istore_n 1, 1)) tx_cu_run_0 4 rfl
theorem d_cu_run_9 : decode prog_2_method_7_code 9 = .ok (.iload_n 1, 1) := zD (q := (9, .iload_n 1, 1)) tx_cu_run_0 5 rfl
theorem d_cu_run_10 : decode prog_2_method_7_code 10 = .ok (.aload_n 0, 1) := zD (q := (10, .aload_n 0, 1)) tx_cu_run_0 6 rfl
theorem d_cu_run_11 : decode prog_2_method_7_code 11 = .ok (.getfield 47, 3) := zD (q := (11, .getfield 47, 3)) tx_cu_run_0 7 rfl
theorem d_cu_run_14 : decode prog_2_method_7_code 14 = .ok (.if_icmp .gt 33, 3) := zD (q := (14, .if_icmp .gt 33, 3)) tx_cu_run_0 8 rfl
theorem d_cu_run_17 : decode prog_2_method_7_code 17 = .ok (.aload_n 0, 1) := zD (q := (17, .aload_n 0, 1)) tx_cu_run_0 9 rfl
theorem d_cu_run_18 : decode prog_2_method_7_code 18 = .ok (.getfield 30, 3) := zD (q := (18, .getfield 30, 3)) tx_cu_run_0 10 rfl
theorem d_cu_run_21 : decode prog_2_method_7_code 21 = .ok (.iconst 0, 1) := zD (q := (21, .iconst 0, 1)) tx_cu_run_0 11 rfl
theorem d_cu_run_22 : decode prog_2_method_7_code 22 = .ok (.invokestatic 41, 3) := zD (q := (22, .invokestatic 41, 3)) tx_cu_run_0 12 rfl
theorem d_cu_run_25 : decode prog_2_method_7_code 25 = .ok (.aload_n 0, 1) := zD (q := (25, .aload_n 0, 1)) tx_cu_run_0 13 rfl
theorem d_cu_run_26 : decode prog_2_method_7_code 26 = .ok (.iconst 0, 1) := zD (q := (26, .iconst 0, 1)) tx_cu_run_0 14 rfl
theorem d_cu_run_27 : decode prog_2_method_7_code 27 = .ok (.iload_n 1, 1) := zD (q := (27, .iload_n 1, 1)) tx_cu_run_0 15 rfl
theorem d_cu_run_28 : decode prog_2_method_7_code 28 = .ok (.iconst 0, 1) := zD (q := (28, .iconst 0, 1)) tx_cu_run_0 16 rfl
theorem d_cu_run_29 : decode prog_2_method_7_code 29 = .ok (.invokevirtual 62, 3) := zD (q := (29, .invokevirtual 62, 3)) tx_cu_run_0 17 rfl
theorem d_cu_run_32 : decode prog_2_method_7_code 32 = .ok (.ifCond .eq 9, 3) := zD (q := (32, .ifCond .eq 9, 3)) tx_cu_run_0 18 rfl
theorem d_cu_run_35 : decode prog_2_method_7_code 35 = .ok (.aload_n 0, 1) := zD (q := (35, .aload_n 0, 1)) tx_cu_run_0 19 rfl
theorem d_cu_run_36 : decode prog_2_method_7_code 36 = .ok (.invokevirtual 66, 3) := zD (q := (36, .invokevirtual 66, 3)) tx_cu_run_0 20 rfl
theorem d_cu_run_39 : decode prog_2_method_7_code 39 = .ok (.iload_n 1, 1) := zD (q := (39, .iload_n 1, 1)) tx_cu_run_0 21 rfl
theorem d_cu_run_40 : decode prog_2_method_7_code 40 = .ok (.ireturn, 1) := zD (q := (40, .ireturn, 1)) tx_cu_run_0 22 rfl
theorem d_cu_run_41 : decode prog_2_method_7_code 41 = .ok (.iinc 1 1, 3) := zD (q := (41, .iinc 1 1, 3)) tx_cu_run_0 23 rfl
theorem d_cu_run_44 : decode prog_2_method_7_code 44 = .ok (.goto (-35), 3) := zD (q := (44, .goto (-35), 3)) tx_cu_run_0 24 rfl
theorem d_cu_run_47 : decode prog_2_method_7_code 47 = .ok (.iconst (-1), 1) := zD (q := (47, .iconst (-1), 1)) tx_cu_run_0 25 rfl
theorem d_cu_run_48 : decode prog_2_method_7_code 48 = .ok (.ireturn, 1) := zD (q := (48, .ireturn, 1)) tx_cu_run_0 26 rfl
def T_cu_listGames_0 : List (Nat × Instr × Nat) := [(0, .aload_n 0, 1), (1, .iconst 0, 1), (2, .putfield 69, 3), (5, .iconst 0, 1), (6, .istore_n 1, 1), (7, .iload_n 1, 1), (8, .aload_n 0, 1), (9, .getfield 33, 3), (12, .invokevirtual 72, 3), (15, .if_icmp .ge 97, 3), (18, .iconst 0, 1), (19, .istore_n 2, 1), (20, .iload_n 2, 1), (21, .aload_n 0, 1), (22, .getfield 33, 3), (25, .invokevirtual 77, 3), (28, .if_icmp .ge 78, 3), (31, .aload_n 0, 1), (32, .getfield 37, 3), (35, .iload_n 1, 1), (36, .iload_n 2, 1), (37, .invokevirtual 80, 3), (40, .ifCond .eq 60, 3), (43, .aload_n 0, 1), (44, .getfield 69, 3), (47, .bipush 14, 2), (49, .if_icmp .ge 51, 3), (52, .aload_n 0, 1), (53, .getfield 18, 3), (56, .aload_n 0, 1), (57, .getfield 69, 3), (60, .iload_n 1, 1), (61, .iastore, 1), (62, .aload_n 0, 1), (63, .getfield 21, 3), (66, .aload_n 0, 1), (67, .getfield 69, 3), (70, .iload_n 2, 1), (71, .iastore, 1), (72, .aload_n 0, 1), (73, .getfield 24, 3), (76, .aload_n 0, 1), (77, .getfield 69, 3), (80, .aload_n 0, 1), (81, .getfield 33, 3), (84, .iload_n 1, 1), (85, .iload_n 2, 1), (86, .invokevirtual 86, 3), (89, .iastore, 1), (90, .aload_n 0, 1), (91, .dup, 1), (92, .getfield 69, 3), (95, .iconst 1, 1), (96, .iadd, 1), (97, .putfield 69, 3), (100, .iinc 2 1, 3), (103, .goto (-83), 3), (106, .iinc 1 1, 3), (109, .goto (-102), 3), (112, .return_, 1)]
theorem tx_cu_listGames_0 : zdec prog_2_method_8_code T_cu_listGames_0 = true := by decide +kernel
theorem d_cu_listGames_0 : decode prog_2_method_8_code 0 = .ok (.aload_n 0, 1) := zD (q := (0, .aload_n 0, 1)) tx_cu_listGames_0 0 rfl
theorem d_cu_listGames_1 : decode prog_2_method_8_code 1 = .ok (.iconst 0, 1) := zD (q := (1, .iconst 0, 1)) tx_cu_listGames_0 1 rfl
theorem d_cu_listGames_2 : decode prog_2_method_8_code 2 = .ok (.putfield 69, 3) := zD (q := (2, .putfield 69, 3)) tx_cu_listGames_0 2 rfl
theorem d_cu_listGames_5 : decode prog_2_method_8_code 5 = .ok (.iconst 0, 1) := zD (q := (5, .iconst 0, 1)) tx_cu_listGames_0 3 rfl
theorem d_cu_listGames_6 : decode prog_2_method_8_code 6 = .ok (.istore_n 1, 1) := zD (q := (6, .istore_n 1, 1)) tx_cu_listGames_0 4 rfl
theorem d_cu_listGames_7 : decode prog_2_method_8_code 7 = .ok (.iload_n 1, 1) := zD (q := (7, .iload_n 1, 1)) tx_cu_listGames_0 5 rfl
theorem d_cu_listGames_8 : decode prog_2_method_8_code 8 = .ok (.aload_n 0, 1) := zD (q := (8, .aload_n 0, 1)) tx_cu_listGames_0 6 rfl
theorem d_cu_listGames_9 : decode prog_2_method_8_code 9 = .ok (.getfield 33, 3) := zD (q := (9, .getfield 33, 3)) tx_cu_listGames_0 7 rfl
theorem d_cu_listGames_12 : decode prog_2_method_8_code 12 = .ok (.invokevirtual 72, 3) := zD (q := (12, .invokevirtual 72, 3)) tx_cu_listGames_0 8 rfl
theorem d_cu_listGames_15 : decode prog_2_method_8_code 15 = .ok (.if_icmp .ge 97, 3) := zD (q := (15, .if_icmp .ge 97, 3)) tx_cu_listGames_0 9 rfl
theorem d_cu_listGames_18 : decode prog_2_method_8_code 18 = .ok (.iconst 0, 1) := zD (q := (18, .iconst 0, 1)) tx_cu_listGames_0 10 rfl
theorem d_cu_listGames_19 : decode prog_2_method_8_code 19 = .ok (.istore_n 2, 1) := zD (q := (19, .istore_n 2, 1)) tx_cu_listGames_0 11 rfl
theorem d_cu_listGames_20 : decode prog_2_method_8_code 20 = .ok (.iload_n 2, 1) := zD (q := (20, .iload_n 2, 1)) tx_cu_listGames_0 12 rfl
theorem d_cu_listGames_21 : decode prog_2_method_8_code 21 = .ok (.aload_n 0, 1) := zD (q := (21, .aload_n 0, 1)) tx_cu_listGames_0 13 rfl
theorem d_cu_listGames_22 : decode prog_2_method_8_code 22 = .ok (.getfield 33, 3) := zD (q := (22, .getfield 33, 3)) tx_cu_listGames_0 14 rfl
theorem d_cu_listGames_25 : decode prog_2_method_8_code 25 = .ok (.invokevirtual 77, 3) := zD (q := (25, .invokevirtual 77, 3)) tx_cu_listGames_0 15 rfl
theorem d_cu_listGames_28 : decode prog_2_method_8_code 28 = .ok (.if_icmp .ge 78, 3) := zD (q := (28, .if_icmp .ge 78, 3)) tx_cu_listGames_0 16 rfl
theorem d_cu_listGames_31 : decode prog_2_method_8_code 31 = .ok (.aload_n 0, 1) := zD (q := (31, .aload_n 0, 1)) tx_cu_listGames_0 17 rfl
theorem d_cu_listGames_32 : decode prog_2_method_8_code 32 = .ok (.getfield 37, 3) := zD (q := (32, .getfield 37, 3)) tx_cu_listGames_0 18 rfl
theorem d_cu_listGames_35 : decode prog_2_method_8_code 35 = .ok (.iload_n 1, 1) := zD (q := (35, .iload_n 1, 1)) tx_cu_listGames_0 19 rfl
theorem d_cu_listGames_36 : decode prog_2_method_8_code 36 = .ok (.iload_n 2, 1) := zD (q := (36, .iload_n 2, 1)) tx_cu_listGames_0 20 rfl
theorem d_cu_listGames_37 : decode prog_2_method_8_code 37 = .ok (.invokevirtual 80, 3) := zD (q := (37, .invokevirtual 80, 3)) tx_cu_listGames_0 21 rfl
theorem d_cu_listGames_40 : decode prog_2_method_8_code 40 = .ok (.ifCond .eq 60, 3) := zD (q := (40, .ifCond .eq 60, 3)) tx_cu_listGames_0 22 rfl
theorem d_cu_listGames_43 : decode prog_2_method_8_code 43 = .ok (.aload_n 0, 1) := zD (q := (43, .aload_n 0, 1)) tx_cu_listGames_0 23 rfl
theorem d_cu_listGames_44 : decode prog_2_method_8_code 44 = .ok (.getfield 69, 3) := zD (q := (44, .getfield 69, 3)) tx_cu_listGames_0 24 rfl
theorem d_cu_listGames_47 : decode prog_2_method_8_code 47 = .ok (.bipush 14, 2) := zD (q := (47, .bipush 14, 2)) tx_cu_listGames_0 25 rfl
theorem d_cu_listGames_49 : decode prog_2_method_8_code 49 = .ok (.if_icmp .ge 51, 3) := zD (q := (49, .if_icmp .ge 51, 3)) tx_cu_listGames_0 26 rfl
theorem d_cu_listGames_52 : decode prog_2_method_8_code 52 = .ok (.aload_n 0, 1) := zD (q := (52, .aload_n 0, 1)) tx_cu_listGames_0 27 rfl
theorem d_cu_listGames_53 : decode prog_2_method_8_code 53 = .ok (.getfield 18, 3) := zD (q := (53, .getfield 18, 3)) tx_cu_listGames_0 28 rfl
theorem d_cu_listGames_56 : decode prog_2_method_8_code 56 = .ok (.aload_n 0, 1) := zD (q := (56, .aload_n 0, 1)) tx_cu_listGames_0 29 rfl
theorem d_cu_listGames_57 : decode prog_2_method_8_code 57 = .ok (.getfield 69, 3) := zD (q := (57, .getfield 69, 3)) tx_cu_listGames_0 30 rfl
theorem d_cu_listGames_60 : decode prog_2_method_8_code 60 = .ok (.iload_n 1, 1) := zD (q := (60, .iload_n 1, 1)) tx_cu_listGames_0 31 rfl
theorem d_cu_listGames_61 : decode prog_2_method_8_code 61 = .ok (.iastore, 1) := zD (q := (61, .iastore, 1)) tx_cu_listGames_0 32 rfl
theorem d_cu_listGames_62 : decode prog_2_method_8_code 62 = .ok (.aload_n 0, 1) := zD (q := (62, .aload_n 0, 1)) tx_cu_listGames_0 33 rfl
theorem d_cu_listGames_63 : decode prog_2_method_8_code 63 = .ok (.getfield 21, 3) := zD (q := (63, .getfield 21, 3)) tx_cu_listGames_0 34 rfl
theorem d_cu_listGames_66 : decode prog_2_method_8_code 66 = .ok (.aload_n 0, 1) := zD (q := (66, .aload_n 0, 1)) tx_cu_listGames_0 35 rfl
theorem d_cu_listGames_67 : decode prog_2_method_8_code 67 = .ok (.getfield 69, 3) := zD (q := (67, .getfield 69, 3)) tx_cu_listGames_0 36 rfl
theorem d_cu_listGames_70 : decode prog_2_method_8_code 70 = .ok (.iload_n 2, 1) := zD (q := (70, .iload_n 2, 1)) tx_cu_listGames_0 37 rfl
theorem d_cu_listGames_71 : decode prog_2_method_8_code 71 = .ok (.iastore, 1) := zD (q := (71, .iastore, 1)) tx_cu_listGames_0 38 rfl
theorem d_cu_listGames_72 : decode prog_2_method_8_code 72 = .ok (.aload_n 0, 1) := zD (q := (72, .aload_n 0, 1)) tx_cu_listGames_0 39 rfl
theorem d_cu_listGames_73 : decode prog_2_method_8_code 73 = .ok (.getfield 24, 3) := zD (q := (73, .getfield 24, 3)) tx_cu_listGames_0 40 rfl
theorem d_cu_listGames_76 : decode prog_2_method_8_code 76 = .ok (.aload_n 0, 1) := zD (q := (76, .aload_n 0, 1)) tx_cu_listGames_0 41 rfl
theorem d_cu_listGames_77 : decode prog_2_method_8_code 77 = .ok (.getfield 69, 3) := zD (q := (77, .getfield 69, 3)) tx_cu_listGames_0 42 rfl
theorem d_cu_listGames_80 : decode prog_2_method_8_code 80 = .ok (.aload_n 0, 1) := zD (q := (80, .aload_n 0, 1)) tx_cu_listGames_0 43 rfl
theorem d_cu_listGames_81 : decode prog_2_method_8_code 81 = .ok (.getfield 33, 3) := zD (q := (81, .getfield 33, 3)) tx_cu_listGames_0 44 rfl
theorem d_cu_listGames_84 : decode prog_2_method_8_code 84 = .ok (.iload_n 1, 1) := zD (q := (84, .iload_n 1, 1)) tx_cu_listGames_0 45 rfl
theorem d_cu_listGames_85 : decode prog_2_method_8_code 85 = .ok (.iload_n 2, 1) := zD (q := (85, .iload_n 2, 1)) tx_cu_listGames_0 46 rfl
theorem d_cu_listGames_86 : decode prog_2_method_8_code 86 = .ok (.invokevirtual 86, 3) := zD (q := (86, .invokevirtual 86, 3)) tx_cu_listGames_0 47 rfl
theorem d_cu_listGames_89 : decode prog_2_method_8_code 89 = .ok (.iastore, 1) := zD (q := (89, .iastore, 1)) tx_cu_listGames_0 48 rfl
theorem d_cu_listGames_90 : decode prog_2_method_8_code 90 = .ok (.aload_n 0, 1) := zD (q := (90, .aload_n 0, 1)) tx_cu_listGames_0 49 rfl
theorem d_cu_listGames_91 : decode prog_2_method_8_code 91 = .ok (.dup, 1) := zD (q := (91, .dup, 1)) tx_cu_listGames_0 50 rfl
theorem d_cu_listGames_92 : decode prog_2_method_8_code 92 = .ok (.getfield 69, 3) := zD (q := (92, .getfield 69, 3)) tx_cu_listGames_0 51 rfl
theorem d_cu_listGames_95 : decode prog_2_method_8_code 95 = .ok (.iconst 1, 1) := zD (q := (95, .iconst 1, 1)) tx_cu_listGames_0 52 rfl
theorem d_cu_listGames_96 : decode prog_2_method_8_code 96 = .ok (.iadd, 1) := zD (q := (96, .iadd, 1)) tx_cu_listGames_0 53 rfl
theorem d_cu_listGames_97 : decode prog_2_method_8_code 97 = .ok (.putfield 69, 3) := zD (q := (97, .putfield 69, 3)) tx_cu_listGames_0 54 rfl
theorem d_cu_listGames_100 : decode prog_2_method_8_code 100 = .ok (.iinc 2 1, 3) := zD (q := (100, .iinc 2 1, 3)) tx_cu_listGames_0 55 rfl
theorem d_cu_listGames_103 : decode prog_2_method_8_code 103 = .ok (.goto (-83), 3) := zD (q := (103, .goto (-83), 3)) tx_cu_listGames_0 56 rfl
theorem d_cu_listGames_106 : decode prog_2_method_8_code 106 = .ok (.iinc 1 1, 3) := zD (q := (106, .iinc 1 1, 3)) tx_cu_listGames_0 57 rfl
theorem d_cu_listGames_109 : decode prog_2_method_8_code 109 = .ok (.goto (-102), 3) := zD (q := (109, .goto (-102), 3)) tx_cu_listGames_0 58 rfl
theorem d_cu_listGames_112 : decode prog_2_method_8_code 112 = .ok (.return_, 1) := zD (q := (112, .return_, 1)) tx_cu_listGames_0 59 rfl
def T_cu_mostGamesOfOneTeam_0 : List (Nat × Instr × Nat) := [(0, .iconst 0, 1), (1, .istore_n 1, 1), (2, .iconst 0, 1), (3, .istore_n 2, 1), (4, .iload_n 2, 1), (5, .aload_n 0, 1), (6, .getfield 33, 3), (9, .invokevirtual 77, 3), (12, .if_icmp .ge 60, 3), (15, .iconst 0, 1), (16, .istore_n 3, 1), (17, .iconst 0, 1), (18, .istore 4, 2), (20, .iload 4, 2), (22, .aload_n 0, 1), (23, .getfield 69, 3), (26, .if_icmp .ge 34, 3), (29, .aload_n 0, 1), (30, .getfield 21, 3), (33, .iload 4, 2), (35, .iaload, 1), (36, .iload_n 2, 1), (37, .if_icmp .eq 14, 3), (40, .aload_n 0, 1), (41, .getfield 24, 3), (44, .iload 4, 2), (46, .iaload, 1), (47, .iload_n 2, 1), (48, .if_icmp .ne 6, 3), (51, .iinc 3 1, 3), (54, .iinc 4 1, 3), (57, .goto (-37), 3), (60, .iload_n 1, 1), (61, .iload_n 3, 1), (62, .invokestatic 89, 3), (65, .istore_n 1, 1), (66, .iinc 2 1, 3), (69, .goto (-65), 3), (72, .iload_n 1, 1), (73, .ireturn, 1)]
theorem tx_cu_mostGamesOfOneTeam_0 : zdec prog_2_method_9_code T_cu_mostGamesOfOneTeam_0 = true := by decide +kernel
theorem d_cu_mostGamesOfOneTeam_0 : decode prog_2_method_9_code 0 = .ok (.iconst 0, 1) := zD (q := (0, .iconst 0, 1)) tx_cu_mostGamesOfOneTeam_0 0 rfl
theorem d_cu_mostGamesOfOneTeam_1 : decode prog_2_method_9_code 1 = .ok (.istore_n 1, 1) := zD (q := (1, .istore_n 1, 1)) tx_cu_mostGamesOfOneTeam_0 1 rfl
theorem d_cu_mostGamesOfOneTeam_2 : decode prog_2_method_9_code 2 = .ok (.iconst 0, 1) := zD (q := (2, .iconst 0, 1)) tx_cu_mostGamesOfOneTeam_0 2 rfl
theorem d_cu_mostGamesOfOneTeam_3 : decode prog_2_method_9_code 3 = .ok (.istore_n 2, 1) := zD (q := (3, .istore_n 2, 1)) tx_cu_mostGamesOfOneTeam_0 3 rfl
theorem d_cu_mostGamesOfOneTeam_4 : decode prog_2_method_9_code 4 = .ok (.iload_n 2, 1) := zD (q := (4, .iload_n 2, 1)) tx_cu_mostGamesOfOneTeam_0 4 rfl
theorem d_cu_mostGamesOfOneTeam_5 : decode prog_2_method_9_code 5 = .ok (.aload_n 0, 1) := zD (q := (5, .aload_n 0, 1)) tx_cu_mostGamesOfOneTeam_0 5 rfl
theorem d_cu_mostGamesOfOneTeam_6 : decode prog_2_method_9_code 6 = .ok (.getfield 33, 3) := zD (q := (6, .getfield 33, 3)) tx_cu_mostGamesOfOneTeam_0 6 rfl
theorem d_cu_mostGamesOfOneTeam_9 : decode prog_2_method_9_code 9 = .ok (.invokevirtual 77, 3) := zD (q := (9, .invokevirtual 77, 3)) tx_cu_mostGamesOfOneTeam_0 7 rfl
theorem d_cu_mostGamesOfOneTeam_12 : decode prog_2_method_9_code 12 = .ok (.if_icmp .ge 60, 3) := zD (q := (12, .if_icmp .ge 60, 3)) tx_cu_mostGamesOfOneTeam_0 8 rfl
theorem d_cu_mostGamesOfOneTeam_15 : decode prog_2_method_9_code 15 = .ok (.iconst 0, 1) := zD (q := (15, .iconst 0, 1)) tx_cu_mostGamesOfOneTeam_0 9 rfl
theorem d_cu_mostGamesOfOneTeam_16 : decode prog_2_method_9_code 16 = .ok (.istore_n 3, 1) := zD (q := (16, .istore_n 3, 1)) tx_cu_mostGamesOfOneTeam_0 10 rfl
theorem d_cu_mostGamesOfOneTeam_17 : decode prog_2_method_9_code 17 = .ok (.iconst 0, 1) := zD (q := (17, .iconst 0, 1)) tx_cu_mostGamesOfOneTeam_0 11 rfl
theorem d_cu_mostGamesOfOneTeam_18 : decode prog_2_method_9_code 18 = .ok (.istore 4, 2) := zD (q := (18, .istore 4, 2)) tx_cu_mostGamesOfOneTeam_0 12 rfl
theorem d_cu_mostGamesOfOneTeam_20 : decode prog_2_method_9_code 20 = .ok (.iload 4, 2) := zD (q := (20, .iload 4, 2)) tx_cu_mostGamesOfOneTeam_0 13 rfl
theorem d_cu_mostGamesOfOneTeam_22 : decode prog_2_method_9_code 22 = .ok (.aload_n 0, 1) := zD (q := (22, .aload_n 0, 1)) tx_cu_mostGamesOfOneTeam_0 14 rfl
theorem d_cu_mostGamesOfOneTeam_23 : decode prog_2_method_9_code 23 = .ok (.getfield 69, 3) := zD (q := (23, .getfield 69, 3)) tx_cu_mostGamesOfOneTeam_0 15 rfl
theorem d_cu_mostGamesOfOneTeam_26 : decode prog_2_method_9_code 26 = .ok (.if_icmp .ge 34, 3) := zD (q := (26, .if_icmp .ge 34, 3)) tx_cu_mostGamesOfOneTeam_0 16 rfl
theorem d_cu_mostGamesOfOneTeam_29 : decode prog_2_method_9_code 29 = .ok (.aload_n 0, 1) := zD (q := (29, .aload_n 0, 1)) tx_cu_mostGamesOfOneTeam_0 17 rfl
theorem d_cu_mostGamesOfOneTeam_30 : decode prog_2_method_9_code 30 = .ok (.getfield 21, 3) := zD (q := (30, .getfield 21, 3)) tx_cu_mostGamesOfOneTeam_0 18 rfl
theorem d_cu_mostGamesOfOneTeam_33 : decode prog_2_method_9_code 33 = .ok (.iload 4, 2) := zD (q := (33, .iload 4, 2)) tx_cu_mostGamesOfOneTeam_0 19 rfl
theorem d_cu_mostGamesOfOneTeam_35 : decode prog_2_method_9_code 35 = .ok (.iaload, 1) := zD (q := (35, .iaload, 1)) tx_cu_mostGamesOfOneTeam_0 20 rfl
theorem d_cu_mostGamesOfOneTeam_36 : decode prog_2_method_9_code 36 = .ok (.iload_n 2, 1) := zD (q := (36, .iload_n 2, 1)) tx_cu_mostGamesOfOneTeam_0 21 rfl
theorem d_cu_mostGamesOfOneTeam_37 : decode prog_2_method_9_code 37 = .ok (.if_icmp .eq 14, 3) := zD (q := (37, .if_icmp .eq 14, 3)) tx_cu_mostGamesOfOneTeam_0 22 rfl
theorem d_cu_mostGamesOfOneTeam_40 : decode prog_2_method_9_code 40 = .ok (.aload_n 0, 1) := zD (q := (40, .aload_n 0, 1)) tx_cu_mostGamesOfOneTeam_0 23 rfl
theorem d_cu_mostGamesOfOneTeam_41 : decode prog_2_method_9_code 41 = .ok (.getfield 24, 3) := zD (q := (41, .getfield 24, 3)) tx_cu_mostGamesOfOneTeam_0 24 rfl
theorem d_cu_mostGamesOfOneTeam_44 : decode prog_2_method_9_code 44 = .ok (.iload 4, 2) := zD (q := (44, .iload 4, 2)) tx_cu_mostGamesOfOneTeam_0 25 rfl
theorem d_cu_mostGamesOfOneTeam_46 : decode prog_2_method_9_code 46 = .ok (.iaload, 1) := zD (q := (46, .iaload, 1)) tx_cu_mostGamesOfOneTeam_0 26 rfl
theorem d_cu_mostGamesOfOneTeam_47 : decode prog_2_method_9_code 47 = .ok (.iload_n 2, 1) := zD (q := (47, .iload_n 2, 1)) tx_cu_mostGamesOfOneTeam_0 27 rfl
theorem d_cu_mostGamesOfOneTeam_48 : decode prog_2_method_9_code 48 = .ok (.if_icmp .ne 6, 3) := zD (q := (48, .if_icmp .ne 6, 3)) tx_cu_mostGamesOfOneTeam_0 28 rfl
theorem d_cu_mostGamesOfOneTeam_51 : decode prog_2_method_9_code 51 = .ok (.iinc 3 1, 3) := zD (q := (51, .iinc 3 1, 3)) tx_cu_mostGamesOfOneTeam_0 29 rfl
theorem d_cu_mostGamesOfOneTeam_54 : decode prog_2_method_9_code 54 = .ok (.iinc 4 1, 3) := zD (q := (54, .iinc 4 1, 3)) tx_cu_mostGamesOfOneTeam_0 30 rfl
theorem d_cu_mostGamesOfOneTeam_57 : decode prog_2_method_9_code 57 = .ok (.goto (-37), 3) := zD (q := (57, .goto (-37), 3)) tx_cu_mostGamesOfOneTeam_0 31 rfl
theorem d_cu_mostGamesOfOneTeam_60 : decode prog_2_method_9_code 60 = .ok (.iload_n 1, 1) := zD (q := (60, .iload_n 1, 1)) tx_cu_mostGamesOfOneTeam_0 32 rfl
theorem d_cu_mostGamesOfOneTeam_61 : decode prog_2_method_9_code 61 = .ok (.iload_n 3, 1) := zD (q := (61, .iload_n 3, 1)) tx_cu_mostGamesOfOneTeam_0 33 rfl
theorem d_cu_mostGamesOfOneTeam_62 : decode prog_2_method_9_code 62 = .ok (.invokestatic 89, 3) := zD (q := (62, .invokestatic 89, 3)) tx_cu_mostGamesOfOneTeam_0 34 rfl
theorem d_cu_mostGamesOfOneTeam_65 : decode prog_2_method_9_code 65 = .ok (.istore_n 1, 1) := zD (q := (65, .istore_n 1, 1)) tx_cu_mostGamesOfOneTeam_0 35 rfl
theorem d_cu_mostGamesOfOneTeam_66 : decode prog_2_method_9_code 66 = .ok (.iinc 2 1, 3) := zD (q := (66, .iinc 2 1, 3)) tx_cu_mostGamesOfOneTeam_0 36 rfl
theorem d_cu_mostGamesOfOneTeam_69 : decode prog_2_method_9_code 69 = .ok (.goto (-65), 3) := zD (q := (69, .goto (-65), 3)) tx_cu_mostGamesOfOneTeam_0 37 rfl
theorem d_cu_mostGamesOfOneTeam_72 : decode prog_2_method_9_code 72 = .ok (.iload_n 1, 1) := zD (q := (72, .iload_n 1, 1)) tx_cu_mostGamesOfOneTeam_0 38 rfl
theorem d_cu_mostGamesOfOneTeam_73 : decode prog_2_method_9_code 73 = .ok (.ireturn, 1) := zD (q := (73, .ireturn, 1)) tx_cu_mostGamesOfOneTeam_0 39 rfl
def T_cu_putFrom_0 : List (Nat × Instr × Nat) := [(0, .iload_n 1, 1), (1, .aload_n 0, 1), (2, .getfield 69, 3), (5, .if_icmp .lt 5, 3), (8, .iconst 1, 1), (9, .ireturn, 1), (10, .iload_n 3, 1), (11, .iconst 1, 1), (12, .iadd, 1), (13, .iload_n 2, 1), (14, .invokestatic 94, 3), (17, .istore 4, 2), (19, .iconst 0, 1), (20, .istore 5, 2), (22, .iload 5, 2), (24, .iload 4, 2), (26, .if_icmp .ge 62, 3), (29, .aload_n 0, 1), (30, .iload_n 1, 1), (31, .iload 5, 2), (33, .invokevirtual 97, 3), (36, .ifCond .eq 46, 3), (39, .aload_n 0, 1), (40, .iload_n 1, 1), (41, .iload 5, 2), (43, .invokevirtual 100, 3), (46, .aload_n 0, 1), (47, .iload_n 1, 1), (48, .iconst 1, 1), (49, .iadd, 1), (50, .iload_n 2, 1), (51, .iload_n 3, 1), (52, .iload 5, 2), (54, .iconst 1, 1), (55, .iadd, 1), (56, .invokestatic 89, 3), (59, .invokevirtual 62, 3), (62, .ifCond .eq 13, 3), (65, .aload_n 0, 1), (66, .getfield 27, 3), (69, .iload_n 1, 1), (70, .iload 5, 2), (72, .iastore, 1), (73, .iconst 1, 1), (74, .ireturn, 1), (75, .aload_n 0, 1), (76, .iload_n 1, 1), (77, .iload 5, 2), (79, .invokevirtual 100, 3), (82, .iinc 5 1, 3), (85, .goto (-63), 3), (88, .iconst 0, 1), (89, .ireturn, 1)]
theorem tx_cu_putFrom_0 : zdec prog_2_method_10_code T_cu_putFrom_0 = true := by decide +kernel
theorem d_cu_putFrom_0 : decode prog_2_method_10_code 0 = .ok (.iload_n 1, 1) := zD (q := (0, .iload_n 1, 1)) tx_cu_putFrom_0 0 rfl
theorem d_cu_putFrom_1 : decode prog_2_method_10_code 1 = .ok (.aload_n 0, 1) := zD (q := (1, .aload_n 0, 1)) tx_cu_putFrom_0 1 rfl
theorem d_cu_putFrom_2 : decode prog_2_method_10_code 2 = .ok (.getfield 69, 3) := zD (q := (2, .getfield 69, 3)) tx_cu_putFrom_0 2 rfl
theorem d_cu_putFrom_5 : decode prog_2_method_10_code 5 = .ok (.if_icmp .lt 5, 3) := zD (q := (5, .if_icmp .lt 5, 3)) tx_cu_putFrom_0 3 rfl
theorem d_cu_putFrom_8 : decode prog_2_method_10_code 8 = .ok (.iconst 1, 1) := zD (q := (8, .iconst 1, 1)) tx_cu_putFrom_0 4 rfl
theorem d_cu_putFrom_9 : decode prog_2_method_10_code 9 = .ok (.ireturn, 1) := zD (q := (9, .ireturn, 1)) tx_cu_putFrom_0 5 rfl
theorem d_cu_putFrom_10 : decode prog_2_method_10_code 10 = .ok (.iload_n 3, 1) := zD (q := (10, .iload_n 3, 1)) tx_cu_putFrom_0 6 rfl
theorem d_cu_putFrom_11 : decode prog_2_method_10_code 11 = .ok (.iconst 1, 1) := zD (q := (11, .iconst 1, 1)) tx_cu_putFrom_0 7 rfl
theorem d_cu_putFrom_12 : decode prog_2_method_10_code 12 = .ok (.iadd, 1) := zD (q := (12, .iadd, 1)) tx_cu_putFrom_0 8 rfl
theorem d_cu_putFrom_13 : decode prog_2_method_10_code 13 = .ok (.iload_n 2, 1) := zD (q := (13, .iload_n 2, 1)) tx_cu_putFrom_0 9 rfl
theorem d_cu_putFrom_14 : decode prog_2_method_10_code 14 = .ok (.invokestatic 94, 3) := zD (q := (14, .invokestatic 94, 3)) tx_cu_putFrom_0 10 rfl
theorem d_cu_putFrom_17 : decode prog_2_method_10_code 17 = .ok (.istore 4, 2) := zD (q := (17, .istore 4, 2)) tx_cu_putFrom_0 11 rfl
theorem d_cu_putFrom_19 : decode prog_2_method_10_code 19 = .ok (.iconst 0, 1) := zD (q := (19, .iconst 0, 1)) tx_cu_putFrom_0 12 rfl
theorem d_cu_putFrom_20 : decode prog_2_method_10_code 20 = .ok (.istore 5, 2) := zD (q := (20, .istore 5, 2)) tx_cu_putFrom_0 13 rfl
theorem d_cu_putFrom_22 : decode prog_2_method_10_code 22 = .ok (.iload 5, 2) := zD (q := (22, .iload 5, 2)) tx_cu_putFrom_0 14 rfl
theorem d_cu_putFrom_24 : decode prog_2_method_10_code 24 = .ok (.iload 4, 2) := zD (q := (24, .iload 4, 2)) tx_cu_putFrom_0 15 rfl
theorem d_cu_putFrom_26 : decode prog_2_method_10_code 26 = .ok (.if_icmp .ge 62, 3) := zD (q := (26, .if_icmp .ge 62, 3)) tx_cu_putFrom_0 16 rfl
theorem d_cu_putFrom_29 : decode prog_2_method_10_code 29 = .ok (.aload_n 0, 1) := zD (q := (29, .aload_n 0, 1)) tx_cu_putFrom_0 17 rfl
theorem d_cu_putFrom_30 : decode prog_2_method_10_code 30 = .ok (.iload_n 1, 1) := zD (q := (30, .iload_n 1, 1)) tx_cu_putFrom_0 18 rfl
theorem d_cu_putFrom_31 : decode prog_2_method_10_code 31 = .ok (.iload 5, 2) := zD (q := (31, .iload 5, 2)) tx_cu_putFrom_0 19 rfl
theorem d_cu_putFrom_33 : decode prog_2_method_10_code 33 = .ok (.invokevirtual 97, 3) := zD (q := (33, .invokevirtual 97, 3)) tx_cu_putFrom_0 20 rfl
theorem d_cu_putFrom_36 : decode prog_2_method_10_code 36 = .ok (.ifCond .eq 46, 3) := zD (q := (36, .ifCond .eq 46, 3)) tx_cu_putFrom_0 21 rfl
theorem d_cu_putFrom_39 : decode prog_2_method_10_code 39 = .ok (.aload_n 0, 1) := zD (q := (39, .aload_n 0, 1)) tx_cu_putFrom_0 22 rfl
theorem d_cu_putFrom_40 : decode prog_2_method_10_code 40 = .ok (.iload_n 1, 1) := zD (q := (40, .iload_n 1, 1)) tx_cu_putFrom_0 23 rfl
theorem d_cu_putFrom_41 : decode prog_2_method_10_code 41 = .ok (.iload 5, 2) := zD (q := (41, .iload 5, 2)) tx_cu_putFrom_0 24 rfl
theorem d_cu_putFrom_43 : decode prog_2_method_10_code 43 = .ok (.invokevirtual 100, 3) := zD (q := (43, .invokevirtual 100, 3)) tx_cu_putFrom_0 25 rfl
theorem d_cu_putFrom_46 : decode prog_2_method_10_code 46 = .ok (.aload_n 0, 1) := zD (q := (46, .aload_n 0, 1)) tx_cu_putFrom_0 26 rfl
theorem d_cu_putFrom_47 : decode prog_2_method_10_code 47 = .ok (.iload_n 1, 1) := zD (q := (47, .iload_n 1, 1)) tx_cu_putFrom_0 27 rfl
theorem d_cu_putFrom_48 : decode prog_2_method_10_code 48 = .ok (.iconst 1, 1) := zD (q := (48, .iconst 1, 1)) tx_cu_putFrom_0 28 rfl
theorem d_cu_putFrom_49 : decode prog_2_method_10_code 49 = .ok (.iadd, 1) := zD (q := (49, .iadd, 1)) tx_cu_putFrom_0 29 rfl
theorem d_cu_putFrom_50 : decode prog_2_method_10_code 50 = .ok (.iload_n 2, 1) := zD (q := (50, .iload_n 2, 1)) tx_cu_putFrom_0 30 rfl
theorem d_cu_putFrom_51 : decode prog_2_method_10_code 51 = .ok (.iload_n 3, 1) := zD (q := (51, .iload_n 3, 1)) tx_cu_putFrom_0 31 rfl
theorem d_cu_putFrom_52 : decode prog_2_method_10_code 52 = .ok (.iload 5, 2) := zD (q := (52, .iload 5, 2)) tx_cu_putFrom_0 32 rfl
theorem d_cu_putFrom_54 : decode prog_2_method_10_code 54 = .ok (.iconst 1, 1) := zD (q := (54, .iconst 1, 1)) tx_cu_putFrom_0 33 rfl
theorem d_cu_putFrom_55 : decode prog_2_method_10_code 55 = .ok (.iadd, 1) := zD (q := (55, .iadd, 1)) tx_cu_putFrom_0 34 rfl
theorem d_cu_putFrom_56 : decode prog_2_method_10_code 56 = .ok (.invokestatic 89, 3) := zD (q := (56, .invokestatic 89, 3)) tx_cu_putFrom_0 35 rfl
theorem d_cu_putFrom_59 : decode prog_2_method_10_code 59 = .ok (.invokevirtual 62, 3) := zD (q := (59, .invokevirtual 62, 3)) tx_cu_putFrom_0 36 rfl
theorem d_cu_putFrom_62 : decode prog_2_method_10_code 62 = .ok (.ifCond .eq 13, 3) := zD (q := (62, .ifCond .eq 13, 3)) tx_cu_putFrom_0 37 rfl
theorem d_cu_putFrom_65 : decode prog_2_method_10_code 65 = .ok (.aload_n 0, 1) := zD (q := (65, .aload_n 0, 1)) tx_cu_putFrom_0 38 rfl
theorem d_cu_putFrom_66 : decode prog_2_method_10_code 66 = .ok (.getfield 27, 3) := zD (q := (66, .getfield 27, 3)) tx_cu_putFrom_0 39 rfl
theorem d_cu_putFrom_69 : decode prog_2_method_10_code 69 = .ok (.iload_n 1, 1) := zD (q := (69, .iload_n 1, 1)) tx_cu_putFrom_0 40 rfl
theorem d_cu_putFrom_70 : decode prog_2_method_10_code 70 = .ok (.iload 5, 2) := zD (q := (70, .iload 5, 2)) tx_cu_putFrom_0 41 rfl
theorem d_cu_putFrom_72 : decode prog_2_method_10_code 72 = .ok (.iastore, 1) := zD (q := (72, .iastore, 1)) tx_cu_putFrom_0 42 rfl
theorem d_cu_putFrom_73 : decode prog_2_method_10_code 73 = .ok (.iconst 1, 1) := zD (q := (73, .iconst 1, 1)) tx_cu_putFrom_0 43 rfl
theorem d_cu_putFrom_74 : decode prog_2_method_10_code 74 = .ok (.ireturn, 1) := zD (q := (74, .ireturn, 1)) tx_cu_putFrom_0 44 rfl
theorem d_cu_putFrom_75 : decode prog_2_method_10_code 75 = .ok (.aload_n 0, 1) := zD (q := (75, .aload_n 0, 1)) tx_cu_putFrom_0 45 rfl
theorem d_cu_putFrom_76 : decode prog_2_method_10_code 76 = .ok (.iload_n 1, 1) := zD (q := (76, .iload_n 1, 1)) tx_cu_putFrom_0 46 rfl
theorem d_cu_putFrom_77 : decode prog_2_method_10_code 77 = .ok (.iload 5, 2) := zD (q := (77, .iload 5, 2)) tx_cu_putFrom_0 47 rfl
theorem d_cu_putFrom_79 : decode prog_2_method_10_code 79 = .ok (.invokevirtual 100, 3) := zD (q := (79, .invokevirtual 100, 3)) tx_cu_putFrom_0 48 rfl
theorem d_cu_putFrom_82 : decode prog_2_method_10_code 82 = .ok (.iinc 5 1, 3) := zD (q := (82, .iinc 5 1, 3)) tx_cu_putFrom_0 49 rfl
theorem d_cu_putFrom_85 : decode prog_2_method_10_code 85 = .ok (.goto (-63), 3) := zD (q := (85, .goto (-63), 3)) tx_cu_putFrom_0 50 rfl
theorem d_cu_putFrom_88 : decode prog_2_method_10_code 88 = .ok (.iconst 0, 1) := zD (q := (88, .iconst 0, 1)) tx_cu_putFrom_0 51 rfl
theorem d_cu_putFrom_89 : decode prog_2_method_10_code 89 = .ok (.ireturn, 1) := zD (q := (89, .ireturn, 1)) tx_cu_putFrom_0 52 rfl
def T_cu_isOpen_0 : List (Nat × Instr × Nat) := [(0, .aload_n 0, 1), (1, .getfield 30, 3), (4, .aload_n 0, 1), (5, .getfield 21, 3), (8, .iload_n 1, 1), (9, .iaload, 1), (10, .iaload, 1), (11, .aload_n 0, 1), (12, .getfield 30, 3), (15, .aload_n 0, 1), (16, .getfield 24, 3), (19, .iload_n 1, 1), (20, .iaload, 1), (21, .iaload, 1), (22, .ior, 1), (23, .iload_n 2, 1), (24, .invokestatic 104, 3), (27, .ifCond .ne 7, 3), (30, .iconst 1, 1), (31, .goto 4, 3), (34, .iconst 0, 1), (35, .ireturn, 1)]
theorem tx_cu_isOpen_0 : zdec prog_2_method_11_code T_cu_isOpen_0 = true := by decide +kernel
theorem d_cu_isOpen_0 : decode prog_2_method_11_code 0 = .ok (.aload_n 0, 1) := zD (q := (0, .aload_n 0, 1)) tx_cu_isOpen_0 0 rfl
theorem d_cu_isOpen_1 : decode prog_2_method_11_code 1 = .ok (.getfield 30, 3) := zD (q := (1, .getfield 30, 3)) tx_cu_isOpen_0 1 rfl
theorem d_cu_isOpen_4 : decode prog_2_method_11_code 4 = .ok (.aload_n 0, 1) := zD (q := (4, .aload_n 0, 1)) tx_cu_isOpen_0 2 rfl
theorem d_cu_isOpen_5 : decode prog_2_method_11_code 5 = .ok (.getfield 21, 3) := zD (q := (5, .getfield 21, 3)) tx_cu_isOpen_0 3 rfl
theorem d_cu_isOpen_8 : decode prog_2_method_11_code 8 = .ok (.iload_n 1, 1) := zD (q := (8, .iload_n 1, 1)) tx_cu_isOpen_0 4 rfl
theorem d_cu_isOpen_9 : decode prog_2_method_11_code 9 = .ok (.iaload, 1) := zD (q := (9, .iaload, 1)) tx_cu_isOpen_0 5 rfl
theorem d_cu_isOpen_10 : decode prog_2_method_11_code 10 = .ok (.iaload, 1) := zD (q := (10, .iaload, 1)) tx_cu_isOpen_0 6 rfl
theorem d_cu_isOpen_11 : decode prog_2_method_11_code 11 = .ok (.aload_n 0, 1) := zD (q := (11, .aload_n 0, 1)) tx_cu_isOpen_0 7 rfl
theorem d_cu_isOpen_12 : decode prog_2_method_11_code 12 = .ok (.getfield 30, 3) := zD (q := (12, .getfield 30, 3)) tx_cu_isOpen_0 8 rfl
theorem d_cu_isOpen_15 : decode prog_2_method_11_code 15 = .ok (.aload_n 0, 1) := zD (q := (15, .aload_n 0, 1)) tx_cu_isOpen_0 9 rfl
theorem d_cu_isOpen_16 : decode prog_2_method_11_code 16 = .ok (.getfield 24, 3) := zD (q := (16, .getfield 24, 3)) tx_cu_isOpen_0 10 rfl
theorem d_cu_isOpen_19 : decode prog_2_method_11_code 19 = .ok (.iload_n 1, 1) := zD (q := (19, .iload_n 1, 1)) tx_cu_isOpen_0 11 rfl
theorem d_cu_isOpen_20 : decode prog_2_method_11_code 20 = .ok (.iaload, 1) := zD (q := (20, .iaload, 1)) tx_cu_isOpen_0 12 rfl
theorem d_cu_isOpen_21 : decode prog_2_method_11_code 21 = .ok (.iaload, 1) := zD (q := (21, .iaload, 1)) tx_cu_isOpen_0 13 rfl
theorem d_cu_isOpen_22 : decode prog_2_method_11_code 22 = .ok (.ior, 1) := zD (q := (22, .ior, 1)) tx_cu_isOpen_0 14 rfl
theorem d_cu_isOpen_23 : decode prog_2_method_11_code 23 = .ok (.iload_n 2, 1) := zD (q := (23, .iload_n 2, 1)) tx_cu_isOpen_0 15 rfl
theorem d_cu_isOpen_24 : decode prog_2_method_11_code 24 = .ok (.invokestatic 104, 3) := zD (q := (24, .invokestatic 104, 3)) tx_cu_isOpen_0 16 rfl
theorem d_cu_isOpen_27 : decode prog_2_method_11_code 27 = .ok (.ifCond .ne 7, 3) := zD (q := (27, .ifCond .ne 7, 3)) tx_cu_isOpen_0 17 rfl
theorem d_cu_isOpen_30 : decode prog_2_method_11_code 30 = .ok (.iconst 1, 1) := zD (q := (30, .iconst 1, 1)) tx_cu_isOpen_0 18 rfl
theorem d_cu_isOpen_31 : decode prog_2_method_11_code 31 = .ok (.goto 4, 3) := zD (q := (31, .goto 4, 3)) tx_cu_isOpen_0 19 rfl
theorem d_cu_isOpen_34 : decode prog_2_method_11_code 34 = .ok (.iconst 0, 1) := zD (q := (34, .iconst 0, 1)) tx_cu_isOpen_0 20 rfl
theorem d_cu_isOpen_35 : decode prog_2_method_11_code 35 = .ok (.ireturn, 1) := zD (q := (35, .ireturn, 1)) tx_cu_isOpen_0 21 rfl
def T_cu_flipDate_0 : List (Nat × Instr × Nat) := [(0, .aload_n 0, 1), (1, .getfield 30, 3), (4, .aload_n 0, 1), (5, .getfield 21, 3), (8, .iload_n 1, 1), (9, .iaload, 1), (10, .dup2, 1), (11, .iaload, 1), (12, .iconst 1, 1), (13, .iload_n 2, 1), (14, .ishl, 1), (15, .ixor, 1), (16, .iastore, 1), (17, .aload_n 0, 1), (18, .getfield 30, 3), (21, .aload_n 0, 1), (22, .getfield 24, 3), (25, .iload_n 1, 1), (26, .iaload, 1), (27, .dup2, 1), (28, .iaload, 1), (29, .iconst 1, 1), (30, .iload_n 2, 1), (31, .ishl, 1), (32, .ixor, 1), (33, .iastore, 1), (34, .return_, 1)]
theorem tx_cu_flipDate_0 : zdec prog_2_method_12_code T_cu_flipDate_0 = true := by decide +kernel
theorem d_cu_flipDate_0 : decode prog_2_method_12_code 0 = .ok (.aload_n 0, 1) := zD (q := (0, .aload_n 0, 1)) tx_cu_flipDate_0 0 rfl
theorem d_cu_flipDate_1 : decode prog_2_method_12_code 1 = .ok (.getfield 30, 3) := zD (q := (1, .getfield 30, 3)) tx_cu_flipDate_0 1 rfl
theorem d_cu_flipDate_4 : decode prog_2_method_12_code 4 = .ok (.aload_n 0, 1) := zD (q := (4, .aload_n 0, 1)) tx_cu_flipDate_0 2 rfl
theorem d_cu_flipDate_5 : decode prog_2_method_12_code 5 = .ok (.getfield 21, 3) := zD (q := (5, .getfield 21, 3)) tx_cu_flipDate_0 3 rfl
theorem d_cu_flipDate_8 : decode prog_2_method_12_code 8 = .ok (.iload_n 1, 1) := zD (q := (8, .iload_n 1, 1)) tx_cu_flipDate_0 4 rfl
theorem d_cu_flipDate_9 : decode prog_2_method_12_code 9 = .ok (.iaload, 1) := zD (q := (9, .iaload, 1)) tx_cu_flipDate_0 5 rfl
theorem d_cu_flipDate_10 : decode prog_2_method_12_code 10 = .ok (.dup2, 1) := zD (q := (10, .dup2, 1)) tx_cu_flipDate_0 6 rfl
theorem d_cu_flipDate_11 : decode prog_2_method_12_code 11 = .ok (.iaload, 1) := zD (q := (11, .iaload, 1)) tx_cu_flipDate_0 7 rfl
theorem d_cu_flipDate_12 : decode prog_2_method_12_code 12 = .ok (.iconst 1, 1) := zD (q := (12, .iconst 1, 1)) tx_cu_flipDate_0 8 rfl
theorem d_cu_flipDate_13 : decode prog_2_method_12_code 13 = .ok (.iload_n 2, 1) := zD (q := (13, .iload_n 2, 1)) tx_cu_flipDate_0 9 rfl
theorem d_cu_flipDate_14 : decode prog_2_method_12_code 14 = .ok (.ishl, 1) := zD (q := (14, .ishl, 1)) tx_cu_flipDate_0 10 rfl
theorem d_cu_flipDate_15 : decode prog_2_method_12_code 15 = .ok (.ixor, 1) := zD (q := (15, .ixor, 1)) tx_cu_flipDate_0 11 rfl
theorem d_cu_flipDate_16 : decode prog_2_method_12_code 16 = .ok (.iastore, 1) := zD (q := (16, .iastore, 1)) tx_cu_flipDate_0 12 rfl
theorem d_cu_flipDate_17 : decode prog_2_method_12_code 17 = .ok (.aload_n 0, 1) := zD (q := (17, .aload_n 0, 1)) tx_cu_flipDate_0 13 rfl
theorem d_cu_flipDate_18 : decode prog_2_method_12_code 18 = .ok (.getfield 30, 3) := zD (q := (18, .getfield 30, 3)) tx_cu_flipDate_0 14 rfl
theorem d_cu_flipDate_21 : decode prog_2_method_12_code 21 = .ok (.aload_n 0, 1) := zD (q := (21, .aload_n 0, 1)) tx_cu_flipDate_0 15 rfl
theorem d_cu_flipDate_22 : decode prog_2_method_12_code 22 = .ok (.getfield 24, 3) := zD (q := (22, .getfield 24, 3)) tx_cu_flipDate_0 16 rfl
theorem d_cu_flipDate_25 : decode prog_2_method_12_code 25 = .ok (.iload_n 1, 1) := zD (q := (25, .iload_n 1, 1)) tx_cu_flipDate_0 17 rfl
theorem d_cu_flipDate_26 : decode prog_2_method_12_code 26 = .ok (.iaload, 1) := zD (q := (26, .iaload, 1)) tx_cu_flipDate_0 18 rfl
theorem d_cu_flipDate_27 : decode prog_2_method_12_code 27 = .ok (.dup2, 1) := zD (q := (27, .dup2, 1)) tx_cu_flipDate_0 19 rfl
theorem d_cu_flipDate_28 : decode prog_2_method_12_code 28 = .ok (.iaload, 1) := zD (q := (28, .iaload, 1)) tx_cu_flipDate_0 20 rfl
theorem d_cu_flipDate_29 : decode prog_2_method_12_code 29 = .ok (.iconst 1, 1) := zD (q := (29, .iconst 1, 1)) tx_cu_flipDate_0 21 rfl
theorem d_cu_flipDate_30 : decode prog_2_method_12_code 30 = .ok (.iload_n 2, 1) := zD (q := (30, .iload_n 2, 1)) tx_cu_flipDate_0 22 rfl
theorem d_cu_flipDate_31 : decode prog_2_method_12_code 31 = .ok (.ishl, 1) := zD (q := (31, .ishl, 1)) tx_cu_flipDate_0 23 rfl
theorem d_cu_flipDate_32 : decode prog_2_method_12_code 32 = .ok (.ixor, 1) := zD (q := (32, .ixor, 1)) tx_cu_flipDate_0 24 rfl
theorem d_cu_flipDate_33 : decode prog_2_method_12_code 33 = .ok (.iastore, 1) := zD (q := (33, .iastore, 1)) tx_cu_flipDate_0 25 rfl
theorem d_cu_flipDate_34 : decode prog_2_method_12_code 34 = .ok (.return_, 1) := zD (q := (34, .return_, 1)) tx_cu_flipDate_0 26 rfl
def T_cu_keepDates_0 : List (Nat × Instr × Nat) := [(0, .iconst 0, 1), (1, .istore_n 1, 1), (2, .iload_n 1, 1), (3, .aload_n 0, 1), (4, .getfield 69, 3), (7, .if_icmp .ge 40, 3), (10, .aload_n 0, 1), (11, .getfield 15, 3), (14, .aload_n 0, 1), (15, .getfield 18, 3), (18, .iload_n 1, 1), (19, .iaload, 1), (20, .aload_n 0, 1), (21, .getfield 21, 3), (24, .iload_n 1, 1), (25, .iaload, 1), (26, .invokestatic 51, 3), (29, .aload_n 0, 1), (30, .getfield 9, 3), (33, .aload_n 0, 1), (34, .getfield 27, 3), (37, .iload_n 1, 1), (38, .iaload, 1), (39, .iaload, 1), (40, .iastore, 1), (41, .iinc 1 1, 3), (44, .goto (-42), 3), (47, .return_, 1)]
theorem tx_cu_keepDates_0 : zdec prog_2_method_13_code T_cu_keepDates_0 = true := by decide +kernel
theorem d_cu_keepDates_0 : decode prog_2_method_13_code 0 = .ok (.iconst 0, 1) := zD (q := (0, .iconst 0, 1)) tx_cu_keepDates_0 0 rfl
theorem d_cu_keepDates_1 : decode prog_2_method_13_code 1 = .ok (.istore_n 1, 1) := zD (q := (1, .istore_n 1, 1)) tx_cu_keepDates_0 1 rfl
theorem d_cu_keepDates_2 : decode prog_2_method_13_code 2 = .ok (.iload_n 1, 1) := zD (q := (2, .iload_n 1, 1)) tx_cu_keepDates_0 2 rfl
theorem d_cu_keepDates_3 : decode prog_2_method_13_code 3 = .ok (.aload_n 0, 1) := zD (q := (3, .aload_n 0, 1)) tx_cu_keepDates_0 3 rfl
theorem d_cu_keepDates_4 : decode prog_2_method_13_code 4 = .ok (.getfield 69, 3) := zD (q := (4, .getfield 69, 3)) tx_cu_keepDates_0 4 rfl
theorem d_cu_keepDates_7 : decode prog_2_method_13_code 7 = .ok (.if_icmp .ge 40, 3) := zD (q := (7, .if_icmp .ge 40, 3)) tx_cu_keepDates_0 5 rfl
theorem d_cu_keepDates_10 : decode prog_2_method_13_code 10 = .ok (.aload_n 0, 1) := zD (q := (10, .aload_n 0, 1)) tx_cu_keepDates_0 6 rfl
theorem d_cu_keepDates_11 : decode prog_2_method_13_code 11 = .ok (.getfield 15, 3) := zD (q := (11, .getfield 15, 3)) tx_cu_keepDates_0 7 rfl
theorem d_cu_keepDates_14 : decode prog_2_method_13_code 14 = .ok (.aload_n 0, 1) := zD (q := (14, .aload_n 0, 1)) tx_cu_keepDates_0 8 rfl
theorem d_cu_keepDates_15 : decode prog_2_method_13_code 15 = .ok (.getfield 18, 3) := zD (q := (15, .getfield 18, 3)) tx_cu_keepDates_0 9 rfl
theorem d_cu_keepDates_18 : decode prog_2_method_13_code 18 = .ok (.iload_n 1, 1) := zD (q := (18, .iload_n 1, 1)) tx_cu_keepDates_0 10 rfl
theorem d_cu_keepDates_19 : decode prog_2_method_13_code 19 = .ok (.iaload, 1) := zD (q := (19, .iaload, 1)) tx_cu_keepDates_0 11 rfl
theorem d_cu_keepDates_20 : decode prog_2_method_13_code 20 = .ok (.aload_n 0, 1) := zD (q := (20, .aload_n 0, 1)) tx_cu_keepDates_0 12 rfl
theorem d_cu_keepDates_21 : decode prog_2_method_13_code 21 = .ok (.getfield 21, 3) := zD (q := (21, .getfield 21, 3)) tx_cu_keepDates_0 13 rfl
theorem d_cu_keepDates_24 : decode prog_2_method_13_code 24 = .ok (.iload_n 1, 1) := zD (q := (24, .iload_n 1, 1)) tx_cu_keepDates_0 14 rfl
theorem d_cu_keepDates_25 : decode prog_2_method_13_code 25 = .ok (.iaload, 1) := zD (q := (25, .iaload, 1)) tx_cu_keepDates_0 15 rfl
theorem d_cu_keepDates_26 : decode prog_2_method_13_code 26 = .ok (.invokestatic 51, 3) := zD (q := (26, .invokestatic 51, 3)) tx_cu_keepDates_0 16 rfl
theorem d_cu_keepDates_29 : decode prog_2_method_13_code 29 = .ok (.aload_n 0, 1) := zD (q := (29, .aload_n 0, 1)) tx_cu_keepDates_0 17 rfl
theorem d_cu_keepDates_30 : decode prog_2_method_13_code 30 = .ok (.getfield 9, 3) := zD (q := (30, .getfield 9, 3)) tx_cu_keepDates_0 18 rfl
theorem d_cu_keepDates_33 : decode prog_2_method_13_code 33 = .ok (.aload_n 0, 1) := zD (q := (33, .aload_n 0, 1)) tx_cu_keepDates_0 19 rfl
theorem d_cu_keepDates_34 : decode prog_2_method_13_code 34 = .ok (.getfield 27, 3) := zD (q := (34, .getfield 27, 3)) tx_cu_keepDates_0 20 rfl
theorem d_cu_keepDates_37 : decode prog_2_method_13_code 37 = .ok (.iload_n 1, 1) := zD (q := (37, .iload_n 1, 1)) tx_cu_keepDates_0 21 rfl
theorem d_cu_keepDates_38 : decode prog_2_method_13_code 38 = .ok (.iaload, 1) := zD (q := (38, .iaload, 1)) tx_cu_keepDates_0 22 rfl
theorem d_cu_keepDates_39 : decode prog_2_method_13_code 39 = .ok (.iaload, 1) := zD (q := (39, .iaload, 1)) tx_cu_keepDates_0 23 rfl
theorem d_cu_keepDates_40 : decode prog_2_method_13_code 40 = .ok (.iastore, 1) := zD (q := (40, .iastore, 1)) tx_cu_keepDates_0 24 rfl
theorem d_cu_keepDates_41 : decode prog_2_method_13_code 41 = .ok (.iinc 1 1, 3) := zD (q := (41, .iinc 1 1, 3)) tx_cu_keepDates_0 25 rfl
theorem d_cu_keepDates_44 : decode prog_2_method_13_code 44 = .ok (.goto (-42), 3) := zD (q := (44, .goto (-42), 3)) tx_cu_keepDates_0 26 rfl
theorem d_cu_keepDates_47 : decode prog_2_method_13_code 47 = .ok (.return_, 1) := zD (q := (47, .return_, 1)) tx_cu_keepDates_0 27 rfl
def T_re_init_0 : List (Nat × Instr × Nat) := [(0, .aload_n 0, 1), (1, .invokespecial 3, 3), (4, .aload_n 0, 1), (5, .sipush 760, 3), (8, .newarray .int, 2), (10, .putfield 9, 3), (13, .aload_n 0, 1), (14, .sipush 760, 3), (17, .newarray .int, 2), (19, .putfield 15, 3), (22, .aload_n 0, 1), (23, .new 18, 3), (26, .dup, 1), (27, .invokespecial 20, 3), (30, .putfield 21, 3), (33, .aload_n 0, 1), (34, .getfield 9, 3), (37, .iconst (-1), 1), (38, .invokestatic 25, 3), (41, .return_, 1)]
theorem tx_re_init_0 : zdec prog_3_method_1_code T_re_init_0 = true := by decide +kernel
theorem d_re_init_0 : decode prog_3_method_1_code 0 = .ok (.aload_n 0, 1) := zD (q := (0, .aload_n 0, 1)) tx_re_init_0 0 rfl
theorem d_re_init_1 : decode prog_3_method_1_code 1 = .ok (.invokespecial 3, 3) := zD (q := (1, .invokespecial 3, 3)) tx_re_init_0 1 rfl
theorem d_re_init_4 : decode prog_3_method_1_code 4 = .ok (.aload_n 0, 1) := zD (q := (4, .aload_n 0, 1)) tx_re_init_0 2 rfl
theorem d_re_init_5 : decode prog_3_method_1_code 5 = .ok (.sipush 760, 3) := zD (q := (5, .sipush 760, 3)) tx_re_init_0 3 rfl
theorem d_re_init_8 : decode prog_3_method_1_code 8 = .ok (.newarray .int, 2) := zD (q := (8, .newarray .int, 2)) tx_re_init_0 4 rfl
theorem d_re_init_10 : decode prog_3_method_1_code 10 = .ok (.putfield 9, 3) := zD (q := (10, .putfield 9, 3)) tx_re_init_0 5 rfl
theorem d_re_init_13 : decode prog_3_method_1_code 13 = .ok (.aload_n 0, 1) := zD (q := (13, .aload_n 0, 1)) tx_re_init_0 6 rfl
theorem d_re_init_14 : decode prog_3_method_1_code 14 = .ok (.sipush 760, 3) := zD (q := (14, .sipush 760, 3)) tx_re_init_0 7 rfl
theorem d_re_init_17 : decode prog_3_method_1_code 17 = .ok (.newarray .int, 2) := zD (q := (17, .newarray .int, 2)) tx_re_init_0 8 rfl
theorem d_re_init_19 : decode prog_3_method_1_code 19 = .ok (.putfield 15, 3) := zD (q := (19, .putfield 15, 3)) tx_re_init_0 9 rfl
theorem d_re_init_22 : decode prog_3_method_1_code 22 = .ok (.aload_n 0, 1) := zD (q := (22, .aload_n 0, 1)) tx_re_init_0 10 rfl
theorem d_re_init_23 : decode prog_3_method_1_code 23 = .ok (.new 18, 3) := zD (q := (23, .new 18, 3)) tx_re_init_0 11 rfl
theorem d_re_init_26 : decode prog_3_method_1_code 26 = .ok (.dup, 1) := zD (q := (26, .dup, 1)) tx_re_init_0 12 rfl
theorem d_re_init_27 : decode prog_3_method_1_code 27 = .ok (.invokespecial 20, 3) := zD (q := (27, .invokespecial 20, 3)) tx_re_init_0 13 rfl
theorem d_re_init_30 : decode prog_3_method_1_code 30 = .ok (.putfield 21, 3) := zD (q := (30, .putfield 21, 3)) tx_re_init_0 14 rfl
theorem d_re_init_33 : decode prog_3_method_1_code 33 = .ok (.aload_n 0, 1) := zD (q := (33, .aload_n 0, 1)) tx_re_init_0 15 rfl
theorem d_re_init_34 : decode prog_3_method_1_code 34 = .ok (.getfield 9, 3) := zD (q := (34, .getfield 9, 3)) tx_re_init_0 16 rfl
theorem d_re_init_37 : decode prog_3_method_1_code 37 = .ok (.iconst (-1), 1) := zD (q := (37, .iconst (-1), 1)) tx_re_init_0 17 rfl
theorem d_re_init_38 : decode prog_3_method_1_code 38 = .ok (.invokestatic 25, 3) := zD (q := (38, .invokestatic 25, 3)) tx_re_init_0 18 rfl
theorem d_re_init_41 : decode prog_3_method_1_code 41 = .ok (.return_, 1) := zD (q := (41, .return_, 1)) tx_re_init_0 19 rfl
def T_re_forget_0 : List (Nat × Instr × Nat) := [(0, .aload_n 0, 1), (1, .getfield 9, 3), (4, .iconst (-1), 1), (5, .invokestatic 25, 3), (8, .aload_n 0, 1), (9, .getfield 21, 3), (12, .invokevirtual 31, 3), (15, .aload_n 0, 1), (16, .iconst 0, 1), (17, .putfield 34, 3), (20, .return_, 1)]
theorem tx_re_forget_0 : zdec prog_3_method_2_code T_re_forget_0 = true := by decide +kernel
theorem d_re_forget_0 : decode prog_3_method_2_code 0 = .ok (.aload_n 0, 1) := zD (q := (0, .aload_n 0, 1)) tx_re_forget_0 0 rfl
theorem d_re_forget_1 : decode prog_3_method_2_code 1 = .ok (.getfield 9, 3) := zD (q := (1, .getfield 9, 3)) tx_re_forget_0 1 rfl
theorem d_re_forget_4 : decode prog_3_method_2_code 4 = .ok (.iconst (-1), 1) := zD (q := (4, .iconst (-1), 1)) tx_re_forget_0 2 rfl
theorem d_re_forget_5 : decode prog_3_method_2_code 5 = .ok (.invokestatic 25, 3) := zD (q := (5, .invokestatic 25, 3)) tx_re_forget_0 3 rfl
theorem d_re_forget_8 : decode prog_3_method_2_code 8 = .ok (.aload_n 0, 1) := zD (q := (8, .aload_n 0, 1)) tx_re_forget_0 4 rfl
theorem d_re_forget_9 : decode prog_3_method_2_code 9 = .ok (.getfield 21, 3) := zD (q := (9, .getfield 21, 3)) tx_re_forget_0 5 rfl
theorem d_re_forget_12 : decode prog_3_method_2_code 12 = .ok (.invokevirtual 31, 3) := zD (q := (12, .invokevirtual 31, 3)) tx_re_forget_0 6 rfl
theorem d_re_forget_15 : decode prog_3_method_2_code 15 = .ok (.aload_n 0, 1) := zD (q := (15, .aload_n 0, 1)) tx_re_forget_0 7 rfl
theorem d_re_forget_16 : decode prog_3_method_2_code 16 = .ok (.iconst 0, 1) := zD (q := (16, .iconst 0, 1)) tx_re_forget_0 8 rfl
theorem d_re_forget_17 : decode prog_3_method_2_code 17 = .ok (.putfield 34, 3) := zD (q := (17, .putfield 34, 3)) tx_re_forget_0 9 rfl
theorem d_re_forget_20 : decode prog_3_method_2_code 20 = .ok (.return_, 1) := zD (q := (20, .return_, 1)) tx_re_forget_0 10 rfl
def T_re_has_0 : List (Nat × Instr × Nat) := [(0, .aload_n 0, 1), (1, .getfield 9, 3), (4, .iload_n 1, 1), (5, .iload_n 2, 1), (6, .invokestatic 38, 3), (9, .iaload, 1), (10, .iconst (-1), 1), (11, .if_icmp .eq 7, 3), (14, .iconst 1, 1), (15, .goto 4, 3), (18, .iconst 0, 1), (19, .ireturn, 1)]
theorem tx_re_has_0 : zdec prog_3_method_5_code T_re_has_0 = true := by decide +kernel
theorem d_re_has_0 : decode prog_3_method_5_code 0 = .ok (.aload_n 0, 1) := zD (q := (0, .aload_n 0, 1)) tx_re_has_0 0 rfl
theorem d_re_has_1 : decode prog_3_method_5_code 1 = .ok (.getfield 9, 3) := zD (q := (1, .getfield 9, 3)) tx_re_has_0 1 rfl
theorem d_re_has_4 : decode prog_3_method_5_code 4 = .ok (.iload_n 1, 1) := zD (q := (4, .iload_n 1, 1)) tx_re_has_0 2 rfl
theorem d_re_has_5 : decode prog_3_method_5_code 5 = .ok (.iload_n 2, 1) := zD (q := (5, .iload_n 2, 1)) tx_re_has_0 3 rfl
theorem d_re_has_6 : decode prog_3_method_5_code 6 = .ok (.invokestatic 38, 3) := zD (q := (6, .invokestatic 38, 3)) tx_re_has_0 4 rfl
theorem d_re_has_9 : decode prog_3_method_5_code 9 = .ok (.iaload, 1) := zD (q := (9, .iaload, 1)) tx_re_has_0 5 rfl
theorem d_re_has_10 : decode prog_3_method_5_code 10 = .ok (.iconst (-1), 1) := zD (q := (10, .iconst (-1), 1)) tx_re_has_0 6 rfl
theorem d_re_has_11 : decode prog_3_method_5_code 11 = .ok (.if_icmp .eq 7, 3) := zD (q := (11, .if_icmp .eq 7, 3)) tx_re_has_0 7 rfl
theorem d_re_has_14 : decode prog_3_method_5_code 14 = .ok (.iconst 1, 1) := zD (q := (14, .iconst 1, 1)) tx_re_has_0 8 rfl
theorem d_re_has_15 : decode prog_3_method_5_code 15 = .ok (.goto 4, 3) := zD (q := (15, .goto 4, 3)) tx_re_has_0 9 rfl
theorem d_re_has_18 : decode prog_3_method_5_code 18 = .ok (.iconst 0, 1) := zD (q := (18, .iconst 0, 1)) tx_re_has_0 10 rfl
theorem d_re_has_19 : decode prog_3_method_5_code 19 = .ok (.ireturn, 1) := zD (q := (19, .ireturn, 1)) tx_re_has_0 11 rfl
def T_re_count_0 : List (Nat × Instr × Nat) := [(0, .aload_n 0, 1), (1, .getfield 34, 3), (4, .ireturn, 1)]
theorem tx_re_count_0 : zdec prog_3_method_3_code T_re_count_0 = true := by decide +kernel
theorem d_re_count_0 : decode prog_3_method_3_code 0 = .ok (.aload_n 0, 1) := zD (q := (0, .aload_n 0, 1)) tx_re_count_0 0 rfl
theorem d_re_count_1 : decode prog_3_method_3_code 1 = .ok (.getfield 34, 3) := zD (q := (1, .getfield 34, 3)) tx_re_count_0 1 rfl
theorem d_re_count_4 : decode prog_3_method_3_code 4 = .ok (.ireturn, 1) := zD (q := (4, .ireturn, 1)) tx_re_count_0 2 rfl
def T_re_put_0 : List (Nat × Instr × Nat) := [(0, .iload_n 1, 1), (1, .iload_n 2, 1), (2, .invokestatic 38, 3), (5, .istore 6, 2), (7, .aload_n 0, 1), (8, .getfield 9, 3), (11, .iload 6, 2), (13, .iaload, 1), (14, .iconst (-1), 1), (15, .if_icmp .ne 16, 3), (18, .aload_n 0, 1), (19, .dup, 1), (20, .getfield 34, 3), (23, .iconst 1, 1), (24, .iadd, 1), (25, .putfield 34, 3), (28, .goto 27, 3), (31, .aload_n 0, 1), (32, .getfield 21, 3), (35, .iload_n 2, 1), (36, .iload_n 3, 1), (37, .aload_n 0, 1), (38, .getfield 9, 3), (41, .iload 6, 2), (43, .iaload, 1), (44, .aload_n 0, 1), (45, .getfield 15, 3), (48, .iload 6, 2), (50, .iaload, 1), (51, .iconst (-1), 1), (52, .invokevirtual 42, 3), (55, .aload_n 0, 1), (56, .getfield 9, 3), (59, .iload 6, 2), (61, .iload 4, 2), (63, .iastore, 1), (64, .aload_n 0, 1), (65, .getfield 15, 3), (68, .iload 6, 2), (70, .iload 5, 2), (72, .iastore, 1), (73, .aload_n 0, 1), (74, .getfield 21, 3), (77, .iload_n 2, 1), (78, .iload_n 3, 1), (79, .iload 4, 2), (81, .iload 5, 2), (83, .iconst 1, 1), (84, .invokevirtual 42, 3), (87, .return_, 1)]
theorem tx_re_put_0 : zdec prog_3_method_6_code T_re_put_0 = true := by decide +kernel
theorem d_re_put_0 : decode prog_3_method_6_code 0 = .ok (.iload_n 1, 1) := zD (q := (0, .iload_n 1, 1)) tx_re_put_0 0 rfl
theorem d_re_put_1 : decode prog_3_method_6_code 1 = .ok (.iload_n 2, 1) := zD (q := (1, .iload_n 2, 1)) tx_re_put_0 1 rfl
theorem d_re_put_2 : decode prog_3_method_6_code 2 = .ok (.invokestatic 38, 3) := zD (q := (2, .invokestatic 38, 3)) tx_re_put_0 2 rfl
theorem d_re_put_5 : decode prog_3_method_6_code 5 = .ok (.istore 6, 2) := zD (q := (5, .istore 6, 2)) tx_re_put_0 3 rfl
theorem d_re_put_7 : decode prog_3_method_6_code 7 = .ok (.aload_n 0, 1) := zD (q := (7, .aload_n 0, 1)) tx_re_put_0 4 rfl
theorem d_re_put_8 : decode prog_3_method_6_code 8 = .ok (.getfield 9, 3) := zD (q := (8, .getfield 9, 3)) tx_re_put_0 5 rfl
theorem d_re_put_11 : decode prog_3_method_6_code 11 = .ok (.iload 6, 2) := zD (q := (11, .iload 6, 2)) tx_re_put_0 6 rfl
theorem d_re_put_13 : decode prog_3_method_6_code 13 = .ok (.iaload, 1) := zD (q := (13, .iaload, 1)) tx_re_put_0 7 rfl
theorem d_re_put_14 : decode prog_3_method_6_code 14 = .ok (.iconst (-1), 1) := zD (q := (14, .iconst (-1), 1)) tx_re_put_0 8 rfl
theorem d_re_put_15 : decode prog_3_method_6_code 15 = .ok (.if_icmp .ne 16, 3) := zD (q := (15, .if_icmp .ne 16, 3)) tx_re_put_0 9 rfl
theorem d_re_put_18 : decode prog_3_method_6_code 18 = .ok (.aload_n 0, 1) := zD (q := (18, .aload_n 0, 1)) tx_re_put_0 10 rfl
theorem d_re_put_19 : decode prog_3_method_6_code 19 = .ok (.dup, 1) := zD (q := (19, .dup, 1)) tx_re_put_0 11 rfl
theorem d_re_put_20 : decode prog_3_method_6_code 20 = .ok (.getfield 34, 3) := zD (q := (20, .getfield 34, 3)) tx_re_put_0 12 rfl
theorem d_re_put_23 : decode prog_3_method_6_code 23 = .ok (.iconst 1, 1) := zD (q := (23, .iconst 1, 1)) tx_re_put_0 13 rfl
theorem d_re_put_24 : decode prog_3_method_6_code 24 = .ok (.iadd, 1) := zD (q := (24, .iadd, 1)) tx_re_put_0 14 rfl
theorem d_re_put_25 : decode prog_3_method_6_code 25 = .ok (.putfield 34, 3) := zD (q := (25, .putfield 34, 3)) tx_re_put_0 15 rfl
theorem d_re_put_28 : decode prog_3_method_6_code 28 = .ok (.goto 27, 3) := zD (q := (28, .goto 27, 3)) tx_re_put_0 16 rfl
theorem d_re_put_31 : decode prog_3_method_6_code 31 = .ok (.aload_n 0, 1) := zD (q := (31, .aload_n 0, 1)) tx_re_put_0 17 rfl
theorem d_re_put_32 : decode prog_3_method_6_code 32 = .ok (.getfield 21, 3) := zD (q := (32, .getfield 21, 3)) tx_re_put_0 18 rfl
theorem d_re_put_35 : decode prog_3_method_6_code 35 = .ok (.iload_n 2, 1) := zD (q := (35, .iload_n 2, 1)) tx_re_put_0 19 rfl
theorem d_re_put_36 : decode prog_3_method_6_code 36 = .ok (.iload_n 3, 1) := zD (q := (36, .iload_n 3, 1)) tx_re_put_0 20 rfl
theorem d_re_put_37 : decode prog_3_method_6_code 37 = .ok (.aload_n 0, 1) := zD (q := (37, .aload_n 0, 1)) tx_re_put_0 21 rfl
theorem d_re_put_38 : decode prog_3_method_6_code 38 = .ok (.getfield 9, 3) := zD (q := (38, .getfield 9, 3)) tx_re_put_0 22 rfl
theorem d_re_put_41 : decode prog_3_method_6_code 41 = .ok (.iload 6, 2) := zD (q := (41, .iload 6, 2)) tx_re_put_0 23 rfl
theorem d_re_put_43 : decode prog_3_method_6_code 43 = .ok (.iaload, 1) := zD (q := (43, .iaload, 1)) tx_re_put_0 24 rfl
theorem d_re_put_44 : decode prog_3_method_6_code 44 = .ok (.aload_n 0, 1) := zD (q := (44, .aload_n 0, 1)) tx_re_put_0 25 rfl
theorem d_re_put_45 : decode prog_3_method_6_code 45 = .ok (.getfield 15, 3) := zD (q := (45, .getfield 15, 3)) tx_re_put_0 26 rfl
theorem d_re_put_48 : decode prog_3_method_6_code 48 = .ok (.iload 6, 2) := zD (q := (48, .iload 6, 2)) tx_re_put_0 27 rfl
theorem d_re_put_50 : decode prog_3_method_6_code 50 = .ok (.iaload, 1) := zD (q := (50, .iaload, 1)) tx_re_put_0 28 rfl
theorem d_re_put_51 : decode prog_3_method_6_code 51 = .ok (.iconst (-1), 1) := zD (q := (51, .iconst (-1), 1)) tx_re_put_0 29 rfl
theorem d_re_put_52 : decode prog_3_method_6_code 52 = .ok (.invokevirtual 42, 3) := zD (q := (52, .invokevirtual 42, 3)) tx_re_put_0 30 rfl
theorem d_re_put_55 : decode prog_3_method_6_code 55 = .ok (.aload_n 0, 1) := zD (q := (55, .aload_n 0, 1)) tx_re_put_0 31 rfl
theorem d_re_put_56 : decode prog_3_method_6_code 56 = .ok (.getfield 9, 3) := zD (q := (56, .getfield 9, 3)) tx_re_put_0 32 rfl
theorem d_re_put_59 : decode prog_3_method_6_code 59 = .ok (.iload 6, 2) := zD (q := (59, .iload 6, 2)) tx_re_put_0 33 rfl
theorem d_re_put_61 : decode prog_3_method_6_code 61 = .ok (.iload 4, 2) := zD (q := (61, .iload 4, 2)) tx_re_put_0 34 rfl
theorem d_re_put_63 : decode prog_3_method_6_code 63 = .ok (.iastore, 1) := zD (q := (63, .iastore, 1)) tx_re_put_0 35 rfl
theorem d_re_put_64 : decode prog_3_method_6_code 64 = .ok (.aload_n 0, 1) := zD (q := (64, .aload_n 0, 1)) tx_re_put_0 36 rfl
theorem d_re_put_65 : decode prog_3_method_6_code 65 = .ok (.getfield 15, 3) := zD (q := (65, .getfield 15, 3)) tx_re_put_0 37 rfl
theorem d_re_put_68 : decode prog_3_method_6_code 68 = .ok (.iload 6, 2) := zD (q := (68, .iload 6, 2)) tx_re_put_0 38 rfl
theorem d_re_put_70 : decode prog_3_method_6_code 70 = .ok (.iload 5, 2) := zD (q := (70, .iload 5, 2)) tx_re_put_0 39 rfl
theorem d_re_put_72 : decode prog_3_method_6_code 72 = .ok (.iastore, 1) := zD (q := (72, .iastore, 1)) tx_re_put_0 40 rfl
theorem d_re_put_73 : decode prog_3_method_6_code 73 = .ok (.aload_n 0, 1) := zD (q := (73, .aload_n 0, 1)) tx_re_put_0 41 rfl
theorem d_re_put_74 : decode prog_3_method_6_code 74 = .ok (.getfield 21, 3) := zD (q := (74, .getfield 21, 3)) tx_re_put_0 42 rfl
theorem d_re_put_77 : decode prog_3_method_6_code 77 = .ok (.iload_n 2, 1) := zD (q := (77, .iload_n 2, 1)) tx_re_put_0 43 rfl
theorem d_re_put_78 : decode prog_3_method_6_code 78 = .ok (.iload_n 3, 1) := zD (q := (78, .iload_n 3, 1)) tx_re_put_0 44 rfl
theorem d_re_put_79 : decode prog_3_method_6_code 79 = .ok (.iload 4, 2) := zD (q := (79, .iload 4, 2)) tx_re_put_0 45 rfl
theorem d_re_put_81 : decode prog_3_method_6_code 81 = .ok (.iload 5, 2) := zD (q := (81, .iload 5, 2)) tx_re_put_0 46 rfl
theorem d_re_put_83 : decode prog_3_method_6_code 83 = .ok (.iconst 1, 1) := zD (q := (83, .iconst 1, 1)) tx_re_put_0 47 rfl
theorem d_re_put_84 : decode prog_3_method_6_code 84 = .ok (.invokevirtual 42, 3) := zD (q := (84, .invokevirtual 42, 3)) tx_re_put_0 48 rfl
theorem d_re_put_87 : decode prog_3_method_6_code 87 = .ok (.return_, 1) := zD (q := (87, .return_, 1)) tx_re_put_0 49 rfl
def T_re_standings_0 : List (Nat × Instr × Nat) := [(0, .aload_n 0, 1), (1, .getfield 21, 3), (4, .areturn, 1)]
theorem tx_re_standings_0 : zdec prog_3_method_4_code T_re_standings_0 = true := by decide +kernel
theorem d_re_standings_0 : decode prog_3_method_4_code 0 = .ok (.aload_n 0, 1) := zD (q := (0, .aload_n 0, 1)) tx_re_standings_0 0 rfl
theorem d_re_standings_1 : decode prog_3_method_4_code 1 = .ok (.getfield 21, 3) := zD (q := (1, .getfield 21, 3)) tx_re_standings_0 1 rfl
theorem d_re_standings_4 : decode prog_3_method_4_code 4 = .ok (.areturn, 1) := zD (q := (4, .areturn, 1)) tx_re_standings_0 2 rfl
def T_se_init_0 : List (Nat × Instr × Nat) := [(0, .aload_n 0, 1), (1, .invokespecial 3, 3), (4, .aload_n 0, 1), (5, .new 9, 3), (8, .dup, 1), (9, .bipush 8, 2), (11, .bipush 7, 2), (13, .invokespecial 11, 3), (16, .putfield 14, 3), (19, .aload_n 0, 1), (20, .bipush 7, 2), (22, .newarray .int, 2), (24, .putfield 20, 3), (27, .aload_n 0, 1), (28, .bipush 8, 2), (30, .newarray .int, 2), (32, .putfield 24, 3), (35, .aload_n 0, 1), (36, .aload_n 1, 1), (37, .putfield 27, 3), (40, .return_, 1)]
theorem tx_se_init_0 : zdec prog_4_method_1_code T_se_init_0 = true := by decide +kernel
theorem d_se_init_0 : decode prog_4_method_1_code 0 = .ok (.aload_n 0, 1) := zD (q := (0, .aload_n 0, 1)) tx_se_init_0 0 rfl
theorem d_se_init_1 : decode prog_4_method_1_code 1 = .ok (.invokespecial 3, 3) := zD (q := (1, .invokespecial 3, 3)) tx_se_init_0 1 rfl
theorem d_se_init_4 : decode prog_4_method_1_code 4 = .ok (.aload_n 0, 1) := zD (q := (4, .aload_n 0, 1)) tx_se_init_0 2 rfl
theorem d_se_init_5 : decode prog_4_method_1_code 5 = .ok (.new 9, 3) := zD (q := (5, .new 9, 3)) tx_se_init_0 3 rfl
theorem d_se_init_8 : decode prog_4_method_1_code 8 = .ok (.dup, 1) := zD (q := (8, .dup, 1)) tx_se_init_0 4 rfl
theorem d_se_init_9 : decode prog_4_method_1_code 9 = .ok (.bipush 8, 2) := zD (q := (9, .bipush 8, 2)) tx_se_init_0 5 rfl
theorem d_se_init_11 : decode prog_4_method_1_code 11 = .ok (.bipush 7, 2) := zD (q := (11, .bipush 7, 2)) tx_se_init_0 6 rfl
theorem d_se_init_13 : decode prog_4_method_1_code 13 = .ok (.invokespecial 11, 3) := zD (q := (13, .invokespecial 11, 3)) tx_se_init_0 7 rfl
theorem d_se_init_16 : decode prog_4_method_1_code 16 = .ok (.putfield 14, 3) := zD (q := (16, .putfield 14, 3)) tx_se_init_0 8 rfl
theorem d_se_init_19 : decode prog_4_method_1_code 19 = .ok (.aload_n 0, 1) := zD (q := (19, .aload_n 0, 1)) tx_se_init_0 9 rfl
theorem d_se_init_20 : decode prog_4_method_1_code 20 = .ok (.bipush 7, 2) := zD (q := (20, .bipush 7, 2)) tx_se_init_0 10 rfl
theorem d_se_init_22 : decode prog_4_method_1_code 22 = .ok (.newarray .int, 2) := zD (q := (22, .newarray .int, 2)) tx_se_init_0 11 rfl
theorem d_se_init_24 : decode prog_4_method_1_code 24 = .ok (.putfield 20, 3) := zD (q := (24, .putfield 20, 3)) tx_se_init_0 12 rfl
theorem d_se_init_27 : decode prog_4_method_1_code 27 = .ok (.aload_n 0, 1) := zD (q := (27, .aload_n 0, 1)) tx_se_init_0 13 rfl
theorem d_se_init_28 : decode prog_4_method_1_code 28 = .ok (.bipush 8, 2) := zD (q := (28, .bipush 8, 2)) tx_se_init_0 14 rfl
theorem d_se_init_30 : decode prog_4_method_1_code 30 = .ok (.newarray .int, 2) := zD (q := (30, .newarray .int, 2)) tx_se_init_0 15 rfl
theorem d_se_init_32 : decode prog_4_method_1_code 32 = .ok (.putfield 24, 3) := zD (q := (32, .putfield 24, 3)) tx_se_init_0 16 rfl
theorem d_se_init_35 : decode prog_4_method_1_code 35 = .ok (.aload_n 0, 1) := zD (q := (35, .aload_n 0, 1)) tx_se_init_0 17 rfl
theorem d_se_init_36 : decode prog_4_method_1_code 36 = .ok (.aload_n 1, 1) := zD (q := (36, .aload_n 1, 1)) tx_se_init_0 18 rfl
theorem d_se_init_37 : decode prog_4_method_1_code 37 = .ok (.putfield 27, 3) := zD (q := (37, .putfield 27, 3)) tx_se_init_0 19 rfl
theorem d_se_init_40 : decode prog_4_method_1_code 40 = .ok (.return_, 1) := zD (q := (40, .return_, 1)) tx_se_init_0 20 rfl
def T_se_run_0 : List (Nat × Instr × Nat) := [(0, .aload_n 0, 1), (1, .getfield 14, 3), (4, .iload_n 1, 1), (5, .iload_n 1, 1), (6, .invokestatic 31, 3), (9, .invokevirtual 35, 3), (12, .aload_n 0, 1), (13, .getfield 20, 3), (16, .iconst 0, 1), (17, .invokestatic 38, 3), (20, .aload_n 0, 1), (21, .getfield 24, 3), (24, .iconst 0, 1), (25, .invokestatic 38, 3), (28, .aload_n 0, 1), (29, .iconst 0, 1), (30, .putfield 44, 3), (33, .aload_n 0, 1), (34, .iconst 1, 1), (35, .iload_n 1, 1), (36, .ishl, 1), (37, .iconst 1, 1), (38, .isub, 1), (39, .putfield 48, 3), (42, .aload_n 0, 1), (43, .iload_n 2, 1), (44, .putfield 51, 3), (47, .aload_n 0, 1), (48, .iconst 0, 1), (49, .iconst 0, 1), (50, .invokevirtual 54, 3), (53, .ireturn, 1)]
theorem tx_se_run_0 : zdec prog_4_method_3_code T_se_run_0 = true := by decide +kernel
theorem d_se_run_0 : decode prog_4_method_3_code 0 = .ok (.aload_n 0, 1) := zD (q := (0, .aload_n 0, 1)) tx_se_run_0 0 rfl
theorem d_se_run_1 : decode prog_4_method_3_code 1 = .ok (.getfield 14, 3) := zD (q := (1, .getfield 14, 3)) tx_se_run_0 1 rfl
theorem d_se_run_4 : decode prog_4_method_3_code 4 = .ok (.iload_n 1, 1) := zD (q := (4, .iload_n 1, 1)) tx_se_run_0 2 rfl
theorem d_se_run_5 : decode prog_4_method_3_code 5 = .ok (.iload_n 1, 1) := zD (q := (5, .iload_n 1, 1)) tx_se_run_0 3 rfl
theorem d_se_run_6 : decode prog_4_method_3_code 6 = .ok (.invokestatic 31, 3) := zD (q := (6, .invokestatic 31, 3)) tx_se_run_0 4 rfl
theorem d_se_run_9 : decode prog_4_method_3_code 9 = .ok (.invokevirtual 35, 3) := zD (q := (9, .invokevirtual 35, 3)) tx_se_run_0 5 rfl
theorem d_se_run_12 : decode prog_4_method_3_code 12 = .ok (.aload_n 0, 1) := zD (q := (12, .aload_n 0, 1)) tx_se_run_0 6 rfl
theorem d_se_run_13 : decode prog_4_method_3_code 13 = .ok (.getfield 20, 3) := zD (q := (13, .getfield 20, 3)) tx_se_run_0 7 rfl
theorem d_se_run_16 : decode prog_4_method_3_code 16 = .ok (.iconst 0, 1) := zD (q := (16, .iconst 0, 1)) tx_se_run_0 8 rfl
theorem d_se_run_17 : decode prog_4_method_3_code 17 = .ok (.invokestatic 38, 3) := zD (q := (17, .invokestatic 38, 3)) tx_se_run_0 9 rfl
theorem d_se_run_20 : decode prog_4_method_3_code 20 = .ok (.aload_n 0, 1) := zD (q := (20, .aload_n 0, 1)) tx_se_run_0 10 rfl
theorem d_se_run_21 : decode prog_4_method_3_code 21 = .ok (.getfield 24, 3) := zD (q := (21, .getfield 24, 3)) tx_se_run_0 11 rfl
theorem d_se_run_24 : decode prog_4_method_3_code 24 = .ok (.iconst 0, 1) := zD (q := (24, .iconst 0, 1)) tx_se_run_0 12 rfl
theorem d_se_run_25 : decode prog_4_method_3_code 25 = .ok (.invokestatic 38, 3) := zD (q := (25, .invokestatic 38, 3)) tx_se_run_0 13 rfl
theorem d_se_run_28 : decode prog_4_method_3_code 28 = .ok (.aload_n 0, 1) := zD (q := (28, .aload_n 0, 1)) tx_se_run_0 14 rfl
theorem d_se_run_29 : decode prog_4_method_3_code 29 = .ok (.iconst 0, 1) := zD (q := (29, .iconst 0, 1)) tx_se_run_0 15 rfl
theorem d_se_run_30 : decode prog_4_method_3_code 30 = .ok (.putfield 44, 3) := zD (q := (30, .putfield 44, 3)) tx_se_run_0 16 rfl
theorem d_se_run_33 : decode prog_4_method_3_code 33 = .ok (.aload_n 0, 1) := zD (q := (33, .aload_n 0, 1)) tx_se_run_0 17 rfl
theorem d_se_run_34 : decode prog_4_method_3_code 34 = .ok (.iconst 1, 1) := zD (q := (34, .iconst 1, 1)) tx_se_run_0 18 rfl
theorem d_se_run_35 : decode prog_4_method_3_code 35 = .ok (.iload_n 1, 1) := zD (q := (35, .iload_n 1, 1)) tx_se_run_0 19 rfl
theorem d_se_run_36 : decode prog_4_method_3_code 36 = .ok (.ishl, 1) := zD (q := (36, .ishl, 1)) tx_se_run_0 20 rfl
theorem d_se_run_37 : decode prog_4_method_3_code 37 = .ok (.iconst 1, 1) := zD (q := (37, .iconst 1, 1)) tx_se_run_0 21 rfl
theorem d_se_run_38 : decode prog_4_method_3_code 38 = .ok (.isub, 1) := zD (q := (38, .isub, 1)) tx_se_run_0 22 rfl
theorem d_se_run_39 : decode prog_4_method_3_code 39 = .ok (.putfield 48, 3) := zD (q := (39, .putfield 48, 3)) tx_se_run_0 23 rfl
theorem d_se_run_42 : decode prog_4_method_3_code 42 = .ok (.aload_n 0, 1) := zD (q := (42, .aload_n 0, 1)) tx_se_run_0 24 rfl
theorem d_se_run_43 : decode prog_4_method_3_code 43 = .ok (.iload_n 2, 1) := zD (q := (43, .iload_n 2, 1)) tx_se_run_0 25 rfl
theorem d_se_run_44 : decode prog_4_method_3_code 44 = .ok (.putfield 51, 3) := zD (q := (44, .putfield 51, 3)) tx_se_run_0 26 rfl
theorem d_se_run_47 : decode prog_4_method_3_code 47 = .ok (.aload_n 0, 1) := zD (q := (47, .aload_n 0, 1)) tx_se_run_0 27 rfl
theorem d_se_run_48 : decode prog_4_method_3_code 48 = .ok (.iconst 0, 1) := zD (q := (48, .iconst 0, 1)) tx_se_run_0 28 rfl
theorem d_se_run_49 : decode prog_4_method_3_code 49 = .ok (.iconst 0, 1) := zD (q := (49, .iconst 0, 1)) tx_se_run_0 29 rfl
theorem d_se_run_50 : decode prog_4_method_3_code 50 = .ok (.invokevirtual 54, 3) := zD (q := (50, .invokevirtual 54, 3)) tx_se_run_0 30 rfl
theorem d_se_run_53 : decode prog_4_method_3_code 53 = .ok (.ireturn, 1) := zD (q := (53, .ireturn, 1)) tx_se_run_0 31 rfl
def T_se_goOn_0 : List (Nat × Instr × Nat) := [(0, .aload_n 0, 1), (1, .getfield 20, 3), (4, .iload_n 2, 1), (5, .iaload, 1), (6, .aload_n 0, 1), (7, .getfield 48, 3), (10, .if_icmp .ne 9, 3), (13, .iload_n 2, 1), (14, .iconst 1, 1), (15, .iadd, 1), (16, .goto 4, 3), (19, .iload_n 2, 1), (20, .istore_n 3, 1), (21, .aload_n 0, 1), (22, .getfield 14, 3), (25, .iload_n 3, 1), (26, .invokevirtual 58, 3), (29, .ifCond .ne 5, 3), (32, .iconst 1, 1), (33, .ireturn, 1), (34, .iload_n 1, 1), (35, .bipush 28, 2), (37, .if_icmp .lt 5, 3), (40, .iconst 0, 1), (41, .ireturn, 1), (42, .aload_n 0, 1), (43, .iload_n 3, 1), (44, .invokevirtual 62, 3), (47, .istore 4, 2), (49, .iload 4, 2), (51, .iconst 1, 1), (52, .iadd, 1), (53, .istore 5, 2), (55, .iload 5, 2), (57, .aload_n 0, 1), (58, .getfield 14, 3), (61, .invokevirtual 65, 3), (64, .if_icmp .ge 58, 3), (67, .aload_n 0, 1), (68, .iload_n 3, 1), (69, .iload 4, 2), (71, .iload 5, 2), (73, .invokevirtual 69, 3), (76, .ifCond .eq 40, 3), (79, .aload_n 0, 1), (80, .iload_n 1, 1), (81, .iload_n 3, 1), (82, .iload 4, 2), (84, .iload 5, 2), (86, .invokevirtual 73, 3), (89, .istore 6, 2), (91, .iload 6, 2), (93, .ifCond .ne 15, 3), (96, .aload_n 0, 1), (97, .iload_n 1, 1), (98, .iload_n 3, 1), (99, .iload 5, 2), (101, .iload 4, 2), (103, .invokevirtual 73, 3), (106, .istore 6, 2)]
theorem tx_se_goOn_0 : zdec prog_4_method_4_code T_se_goOn_0 = true := by decide +kernel
theorem d_se_goOn_0 : decode prog_4_method_4_code 0 = .ok (.aload_n 0, 1) := zD (q := (0, .aload_n 0, 1)) tx_se_goOn_0 0 rfl
theorem d_se_goOn_1 : decode prog_4_method_4_code 1 = .ok (.getfield 20, 3) := zD (q := (1, .getfield 20, 3)) tx_se_goOn_0 1 rfl
theorem d_se_goOn_4 : decode prog_4_method_4_code 4 = .ok (.iload_n 2, 1) := zD (q := (4, .iload_n 2, 1)) tx_se_goOn_0 2 rfl
theorem d_se_goOn_5 : decode prog_4_method_4_code 5 = .ok (.iaload, 1) := zD (q := (5, .iaload, 1)) tx_se_goOn_0 3 rfl
theorem d_se_goOn_6 : decode prog_4_method_4_code 6 = .ok (.aload_n 0, 1) := zD (q := (6, .aload_n 0, 1)) tx_se_goOn_0 4 rfl
theorem d_se_goOn_7 : decode prog_4_method_4_code 7 = .ok (.getfield 48, 3) := zD (q := (7, .getfield 48, 3)) tx_se_goOn_0 5 rfl
theorem d_se_goOn_10 : decode prog_4_method_4_code 10 = .ok (.if_icmp .ne 9, 3) := zD (q := (10, .if_icmp .ne 9, 3)) tx_se_goOn_0 6 rfl
theorem d_se_goOn_13 : decode prog_4_method_4_code 13 = .ok (.iload_n 2, 1) := zD (q := (13, .iload_n 2, 1)) tx_se_goOn_0 7 rfl
theorem d_se_goOn_14 : decode prog_4_method_4_code 14 = .ok (.iconst 1, 1) := zD (q := (14, .iconst 1, 1)) tx_se_goOn_0 8 rfl
theorem d_se_goOn_15 : decode prog_4_method_4_code 15 = .ok (.iadd, 1) := zD (q := (15, .iadd, 1)) tx_se_goOn_0 9 rfl
theorem d_se_goOn_16 : decode prog_4_method_4_code 16 = .ok (.goto 4, 3) := zD (q := (16, .goto 4, 3)) tx_se_goOn_0 10 rfl
theorem d_se_goOn_19 : decode prog_4_method_4_code 19 = .ok (.iload_n 2, 1) := zD (q := (19, .iload_n 2, 1)) tx_se_goOn_0 11 rfl
theorem d_se_goOn_20 : decode prog_4_method_4_code 20 = .ok (.istore_n 3, 1) := zD (q := (20, .istore_n 3, 1)) tx_se_goOn_0 12 rfl
theorem d_se_goOn_21 : decode prog_4_method_4_code 21 = .ok (.aload_n 0, 1) := zD (q := (21, .aload_n 0, 1)) tx_se_goOn_0 13 rfl
theorem d_se_goOn_22 : decode prog_4_method_4_code 22 = .ok (.getfield 14, 3) := zD (q := (22, .getfield 14, 3)) tx_se_goOn_0 14 rfl
theorem d_se_goOn_25 : decode prog_4_method_4_code 25 = .ok (.iload_n 3, 1) := zD (q := (25, .iload_n 3, 1)) tx_se_goOn_0 15 rfl
theorem d_se_goOn_26 : decode prog_4_method_4_code 26 = .ok (.invokevirtual 58, 3) := zD (q := (26, .invokevirtual 58, 3)) tx_se_goOn_0 16 rfl
theorem d_se_goOn_29 : decode prog_4_method_4_code 29 = .ok (.ifCond .ne 5, 3) := zD (q := (29, .ifCond .ne 5, 3)) tx_se_goOn_0 17 rfl
theorem d_se_goOn_32 : decode prog_4_method_4_code 32 = .ok (.iconst 1, 1) := zD (q := (32, .iconst 1, 1)) tx_se_goOn_0 18 rfl
theorem d_se_goOn_33 : decode prog_4_method_4_code 33 = .ok (.ireturn, 1) := zD (q := (33, .ireturn, 1)) tx_se_goOn_0 19 rfl
theorem d_se_goOn_34 : decode prog_4_method_4_code 34 = .ok (.iload_n 1, 1) := zD (q := (34, .iload_n 1, 1)) tx_se_goOn_0 20 rfl
theorem d_se_goOn_35 : decode prog_4_method_4_code 35 = .ok (.bipush 28, 2) := zD (q := (35, .bipush 28, 2)) tx_se_goOn_0 21 rfl
theorem d_se_goOn_37 : decode prog_4_method_4_code 37 = .ok (.if_icmp .lt 5, 3) := zD (q := (37, .if_icmp .lt 5, 3)) tx_se_goOn_0 22 rfl
theorem d_se_goOn_40 : decode prog_4_method_4_code 40 = .ok (.iconst 0, 1) := zD (q := (40, .iconst 0, 1)) tx_se_goOn_0 23 rfl
theorem d_se_goOn_41 : decode prog_4_method_4_code 41 = .ok (.ireturn, 1) := zD (q := (41, .ireturn, 1)) tx_se_goOn_0 24 rfl
theorem d_se_goOn_42 : decode prog_4_method_4_code 42 = .ok (.aload_n 0, 1) := zD (q := (42, .aload_n 0, 1)) tx_se_goOn_0 25 rfl
theorem d_se_goOn_43 : decode prog_4_method_4_code 43 = .ok (.iload_n 3, 1) := zD (q := (43, .iload_n 3, 1)) tx_se_goOn_0 26 rfl
theorem d_se_goOn_44 : decode prog_4_method_4_code 44 = .ok (.invokevirtual 62, 3) := zD (q := (44, .invokevirtual 62, 3)) tx_se_goOn_0 27 rfl
theorem d_se_goOn_47 : decode prog_4_method_4_code 47 = .ok (.istore 4, 2) := zD (q := (47, .istore 4, 2)) tx_se_goOn_0 28 rfl
theorem d_se_goOn_49 : decode prog_4_method_4_code 49 = .ok (.iload 4, 2) := zD (q := (49, .iload 4, 2)) tx_se_goOn_0 29 rfl
theorem d_se_goOn_51 : decode prog_4_method_4_code 51 = .ok (.iconst 1, 1) := zD (q := (51, .iconst 1, 1)) tx_se_goOn_0 30 rfl
theorem d_se_goOn_52 : decode prog_4_method_4_code 52 = .ok (.iadd, 1) := zD (q := (52, .iadd, 1)) tx_se_goOn_0 31 rfl
theorem d_se_goOn_53 : decode prog_4_method_4_code 53 = .ok (.istore 5, 2) := zD (q := (53, .istore 5, 2)) tx_se_goOn_0 32 rfl
theorem d_se_goOn_55 : decode prog_4_method_4_code 55 = .ok (.iload 5, 2) := zD (q := (55, .iload 5, 2)) tx_se_goOn_0 33 rfl
theorem d_se_goOn_57 : decode prog_4_method_4_code 57 = .ok (.aload_n 0, 1) := zD (q := (57, .aload_n 0, 1)) tx_se_goOn_0 34 rfl
theorem d_se_goOn_58 : decode prog_4_method_4_code 58 = .ok (.getfield 14, 3) := zD (q := (58, .getfield 14, 3)) tx_se_goOn_0 35 rfl
theorem d_se_goOn_61 : decode prog_4_method_4_code 61 = .ok (.invokevirtual 65, 3) := zD (q := (61, .invokevirtual 65, 3)) tx_se_goOn_0 36 rfl
theorem d_se_goOn_64 : decode prog_4_method_4_code 64 = .ok (.if_icmp .ge 58, 3) := zD (q := (64, .if_icmp .ge 58, 3)) tx_se_goOn_0 37 rfl
theorem d_se_goOn_67 : decode prog_4_method_4_code 67 = .ok (.aload_n 0, 1) := zD (q := (67, .aload_n 0, 1)) tx_se_goOn_0 38 rfl
theorem d_se_goOn_68 : decode prog_4_method_4_code 68 = .ok (.iload_n 3, 1) := zD (q := (68, .iload_n 3, 1)) tx_se_goOn_0 39 rfl
theorem d_se_goOn_69 : decode prog_4_method_4_code 69 = .ok (.iload 4, 2) := zD (q := (69, .iload 4, 2)) tx_se_goOn_0 40 rfl
theorem d_se_goOn_71 : decode prog_4_method_4_code 71 = .ok (.iload 5, 2) := zD (q := (71, .iload 5, 2)) tx_se_goOn_0 41 rfl
theorem d_se_goOn_73 : decode prog_4_method_4_code 73 = .ok (.invokevirtual 69, 3) := zD (q := (73, .invokevirtual 69, 3)) tx_se_goOn_0 42 rfl
theorem d_se_goOn_76 : decode prog_4_method_4_code 76 = .ok (.ifCond .eq 40, 3) := zD (q := (76, .ifCond .eq 40, 3)) tx_se_goOn_0 43 rfl
theorem d_se_goOn_79 : decode prog_4_method_4_code 79 = .ok (.aload_n 0, 1) := zD (q := (79, .aload_n 0, 1)) tx_se_goOn_0 44 rfl
theorem d_se_goOn_80 : decode prog_4_method_4_code 80 = .ok (.iload_n 1, 1) := zD (q := (80, .iload_n 1, 1)) tx_se_goOn_0 45 rfl
theorem d_se_goOn_81 : decode prog_4_method_4_code 81 = .ok (.iload_n 3, 1) := zD (q := (81, .iload_n 3, 1)) tx_se_goOn_0 46 rfl
theorem d_se_goOn_82 : decode prog_4_method_4_code 82 = .ok (.iload 4, 2) := zD (q := (82, .iload 4, 2)) tx_se_goOn_0 47 rfl
theorem d_se_goOn_84 : decode prog_4_method_4_code 84 = .ok (.iload 5, 2) := zD (q := (84, .iload 5, 2)) tx_se_goOn_0 48 rfl
theorem d_se_goOn_86 : decode prog_4_method_4_code 86 = .ok (.invokevirtual 73, 3) := zD (q := (86, .invokevirtual 73, 3)) tx_se_goOn_0 49 rfl
theorem d_se_goOn_89 : decode prog_4_method_4_code 89 = .ok (.istore 6, 2) := zD (q := (89, .istore 6, 2)) tx_se_goOn_0 50 rfl
theorem d_se_goOn_91 : decode prog_4_method_4_code 91 = .ok (.iload 6, 2) := zD (q := (91, .iload 6, 2)) tx_se_goOn_0 51 rfl
theorem d_se_goOn_93 : decode prog_4_method_4_code 93 = .ok (.ifCond .ne 15, 3) := zD (q := (93, .ifCond .ne 15, 3)) tx_se_goOn_0 52 rfl
theorem d_se_goOn_96 : decode prog_4_method_4_code 96 = .ok (.aload_n 0, 1) := zD (q := (96, .aload_n 0, 1)) tx_se_goOn_0 53 rfl
theorem d_se_goOn_97 : decode prog_4_method_4_code 97 = .ok (.iload_n 1, 1) := zD (q := (97, .iload_n 1, 1)) tx_se_goOn_0 54 rfl
theorem d_se_goOn_98 : decode prog_4_method_4_code 98 = .ok (.iload_n 3, 1) := zD (q := (98, .iload_n 3, 1)) tx_se_goOn_0 55 rfl
theorem d_se_goOn_99 : decode prog_4_method_4_code 99 = .ok (.iload 5, 2) := zD (q := (99, .iload 5, 2)) tx_se_goOn_0 56 rfl
theorem d_se_goOn_101 : decode prog_4_method_4_code 101 = .ok (.iload 4, 2) := zD (q := (101, .iload 4, 2)) tx_se_goOn_0 57 rfl
theorem d_se_goOn_103 : decode prog_4_method_4_code 103 = .ok (.invokevirtual 73, 3) := zD (q := (103, .invokevirtual 73, 3)) tx_se_goOn_0 58 rfl
theorem d_se_goOn_106 : decode prog_4_method_4_code 106 = .ok (.istore 6, 2) := zD (q := (106, .istore 6, 2)) tx_se_goOn_0 59 rfl
def T_se_goOn_1 : List (Nat × Instr × Nat) := [(108, .iload 6, 2), (110, .ifCond .eq 6, 3), (113, .iload 6, 2), (115, .ireturn, 1), (116, .iinc 5 1, 3), (119, .goto (-64), 3), (122, .aload_n 0, 1), (123, .iload_n 1, 1), (124, .iload_n 3, 1), (125, .iload 4, 2), (127, .invokevirtual 77, 3), (130, .ireturn, 1)]
theorem tx_se_goOn_1 : zdec prog_4_method_4_code T_se_goOn_1 = true := by decide +kernel
theorem d_se_goOn_108 : decode prog_4_method_4_code 108 = .ok (.iload 6, 2) := zD (q := (108, .iload 6, 2)) tx_se_goOn_1 0 rfl
theorem d_se_goOn_110 : decode prog_4_method_4_code 110 = .ok (.ifCond .eq 6, 3) := zD (q := (110, .ifCond .eq 6, 3)) tx_se_goOn_1 1 rfl
theorem d_se_goOn_113 : decode prog_4_method_4_code 113 = .ok (.iload 6, 2) := zD (q := (113, .iload 6, 2)) tx_se_goOn_1 2 rfl
theorem d_se_goOn_115 : decode prog_4_method_4_code 115 = .ok (.ireturn, 1) := zD (q := (115, .ireturn, 1)) tx_se_goOn_1 3 rfl
theorem d_se_goOn_116 : decode prog_4_method_4_code 116 = .ok (.iinc 5 1, 3) := zD (q := (116, .iinc 5 1, 3)) tx_se_goOn_1 4 rfl
theorem d_se_goOn_119 : decode prog_4_method_4_code 119 = .ok (.goto (-64), 3) := zD (q := (119, .goto (-64), 3)) tx_se_goOn_1 5 rfl
theorem d_se_goOn_122 : decode prog_4_method_4_code 122 = .ok (.aload_n 0, 1) := zD (q := (122, .aload_n 0, 1)) tx_se_goOn_1 6 rfl
theorem d_se_goOn_123 : decode prog_4_method_4_code 123 = .ok (.iload_n 1, 1) := zD (q := (123, .iload_n 1, 1)) tx_se_goOn_1 7 rfl
theorem d_se_goOn_124 : decode prog_4_method_4_code 124 = .ok (.iload_n 3, 1) := zD (q := (124, .iload_n 3, 1)) tx_se_goOn_1 8 rfl
theorem d_se_goOn_125 : decode prog_4_method_4_code 125 = .ok (.iload 4, 2) := zD (q := (125, .iload 4, 2)) tx_se_goOn_1 9 rfl
theorem d_se_goOn_127 : decode prog_4_method_4_code 127 = .ok (.invokevirtual 77, 3) := zD (q := (127, .invokevirtual 77, 3)) tx_se_goOn_1 10 rfl
theorem d_se_goOn_130 : decode prog_4_method_4_code 130 = .ok (.ireturn, 1) := zD (q := (130, .ireturn, 1)) tx_se_goOn_1 11 rfl
def T_se_leastFree_0 : List (Nat × Instr × Nat) := [(0, .iconst 0, 1), (1, .istore_n 2, 1), (2, .iload_n 2, 1), (3, .aload_n 0, 1), (4, .getfield 14, 3), (7, .invokevirtual 65, 3), (10, .if_icmp .ge 22, 3), (13, .aload_n 0, 1), (14, .getfield 20, 3), (17, .iload_n 1, 1), (18, .iaload, 1), (19, .iload_n 2, 1), (20, .invokestatic 81, 3), (23, .ifCond .eq 9, 3), (26, .iinc 2 1, 3), (29, .goto (-27), 3), (32, .iload_n 2, 1), (33, .ireturn, 1)]
theorem tx_se_leastFree_0 : zdec prog_4_method_5_code T_se_leastFree_0 = true := by decide +kernel
theorem d_se_leastFree_0 : decode prog_4_method_5_code 0 = .ok (.iconst 0, 1) := zD (q := (0, .iconst 0, 1)) tx_se_leastFree_0 0 rfl
theorem d_se_leastFree_1 : decode prog_4_method_5_code 1 = .ok (.istore_n 2, 1) := zD (q := (1, .istore_n 2, 1)) tx_se_leastFree_0 1 rfl
theorem d_se_leastFree_2 : decode prog_4_method_5_code 2 = .ok (.iload_n 2, 1) := zD (q := (2, .iload_n 2, 1)) tx_se_leastFree_0 2 rfl
theorem d_se_leastFree_3 : decode prog_4_method_5_code 3 = .ok (.aload_n 0, 1) := zD (q := (3, .aload_n 0, 1)) tx_se_leastFree_0 3 rfl
theorem d_se_leastFree_4 : decode prog_4_method_5_code 4 = .ok (.getfield 14, 3) := zD (q := (4, .getfield 14, 3)) tx_se_leastFree_0 4 rfl
theorem d_se_leastFree_7 : decode prog_4_method_5_code 7 = .ok (.invokevirtual 65, 3) := zD (q := (7, .invokevirtual 65, 3)) tx_se_leastFree_0 5 rfl
theorem d_se_leastFree_10 : decode prog_4_method_5_code 10 = .ok (.if_icmp .ge 22, 3) := zD (q := (10, .if_icmp .ge 22, 3)) tx_se_leastFree_0 6 rfl
theorem d_se_leastFree_13 : decode prog_4_method_5_code 13 = .ok (.aload_n 0, 1) := zD (q := (13, .aload_n 0, 1)) tx_se_leastFree_0 7 rfl
theorem d_se_leastFree_14 : decode prog_4_method_5_code 14 = .ok (.getfield 20, 3) := zD (q := (14, .getfield 20, 3)) tx_se_leastFree_0 8 rfl
theorem d_se_leastFree_17 : decode prog_4_method_5_code 17 = .ok (.iload_n 1, 1) := zD (q := (17, .iload_n 1, 1)) tx_se_leastFree_0 9 rfl
theorem d_se_leastFree_18 : decode prog_4_method_5_code 18 = .ok (.iaload, 1) := zD (q := (18, .iaload, 1)) tx_se_leastFree_0 10 rfl
theorem d_se_leastFree_19 : decode prog_4_method_5_code 19 = .ok (.iload_n 2, 1) := zD (q := (19, .iload_n 2, 1)) tx_se_leastFree_0 11 rfl
theorem d_se_leastFree_20 : decode prog_4_method_5_code 20 = .ok (.invokestatic 81, 3) := zD (q := (20, .invokestatic 81, 3)) tx_se_leastFree_0 12 rfl
theorem d_se_leastFree_23 : decode prog_4_method_5_code 23 = .ok (.ifCond .eq 9, 3) := zD (q := (23, .ifCond .eq 9, 3)) tx_se_leastFree_0 13 rfl
theorem d_se_leastFree_26 : decode prog_4_method_5_code 26 = .ok (.iinc 2 1, 3) := zD (q := (26, .iinc 2 1, 3)) tx_se_leastFree_0 14 rfl
theorem d_se_leastFree_29 : decode prog_4_method_5_code 29 = .ok (.goto (-27), 3) := zD (q := (29, .goto (-27), 3)) tx_se_leastFree_0 15 rfl
theorem d_se_leastFree_32 : decode prog_4_method_5_code 32 = .ok (.iload_n 2, 1) := zD (q := (32, .iload_n 2, 1)) tx_se_leastFree_0 16 rfl
theorem d_se_leastFree_33 : decode prog_4_method_5_code 33 = .ok (.ireturn, 1) := zD (q := (33, .ireturn, 1)) tx_se_leastFree_0 17 rfl
def T_se_canMeet_0 : List (Nat × Instr × Nat) := [(0, .aload_n 0, 1), (1, .getfield 20, 3), (4, .iload_n 1, 1), (5, .iaload, 1), (6, .iload_n 3, 1), (7, .invokestatic 81, 3), (10, .ifCond .ne 20, 3), (13, .aload_n 0, 1), (14, .getfield 24, 3), (17, .iload_n 2, 1), (18, .iaload, 1), (19, .iload_n 3, 1), (20, .invokestatic 81, 3), (23, .ifCond .ne 7, 3), (26, .iconst 1, 1), (27, .goto 4, 3), (30, .iconst 0, 1), (31, .ireturn, 1)]
theorem tx_se_canMeet_0 : zdec prog_4_method_6_code T_se_canMeet_0 = true := by decide +kernel
theorem d_se_canMeet_0 : decode prog_4_method_6_code 0 = .ok (.aload_n 0, 1) := zD (q := (0, .aload_n 0, 1)) tx_se_canMeet_0 0 rfl
theorem d_se_canMeet_1 : decode prog_4_method_6_code 1 = .ok (.getfield 20, 3) := zD (q := (1, .getfield 20, 3)) tx_se_canMeet_0 1 rfl
theorem d_se_canMeet_4 : decode prog_4_method_6_code 4 = .ok (.iload_n 1, 1) := zD (q := (4, .iload_n 1, 1)) tx_se_canMeet_0 2 rfl
theorem d_se_canMeet_5 : decode prog_4_method_6_code 5 = .ok (.iaload, 1) := zD (q := (5, .iaload, 1)) tx_se_canMeet_0 3 rfl
theorem d_se_canMeet_6 : decode prog_4_method_6_code 6 = .ok (.iload_n 3, 1) := zD (q := (6, .iload_n 3, 1)) tx_se_canMeet_0 4 rfl
theorem d_se_canMeet_7 : decode prog_4_method_6_code 7 = .ok (.invokestatic 81, 3) := zD (q := (7, .invokestatic 81, 3)) tx_se_canMeet_0 5 rfl
theorem d_se_canMeet_10 : decode prog_4_method_6_code 10 = .ok (.ifCond .ne 20, 3) := zD (q := (10, .ifCond .ne 20, 3)) tx_se_canMeet_0 6 rfl
theorem d_se_canMeet_13 : decode prog_4_method_6_code 13 = .ok (.aload_n 0, 1) := zD (q := (13, .aload_n 0, 1)) tx_se_canMeet_0 7 rfl
theorem d_se_canMeet_14 : decode prog_4_method_6_code 14 = .ok (.getfield 24, 3) := zD (q := (14, .getfield 24, 3)) tx_se_canMeet_0 8 rfl
theorem d_se_canMeet_17 : decode prog_4_method_6_code 17 = .ok (.iload_n 2, 1) := zD (q := (17, .iload_n 2, 1)) tx_se_canMeet_0 9 rfl
theorem d_se_canMeet_18 : decode prog_4_method_6_code 18 = .ok (.iaload, 1) := zD (q := (18, .iaload, 1)) tx_se_canMeet_0 10 rfl
theorem d_se_canMeet_19 : decode prog_4_method_6_code 19 = .ok (.iload_n 3, 1) := zD (q := (19, .iload_n 3, 1)) tx_se_canMeet_0 11 rfl
theorem d_se_canMeet_20 : decode prog_4_method_6_code 20 = .ok (.invokestatic 81, 3) := zD (q := (20, .invokestatic 81, 3)) tx_se_canMeet_0 12 rfl
theorem d_se_canMeet_23 : decode prog_4_method_6_code 23 = .ok (.ifCond .ne 7, 3) := zD (q := (23, .ifCond .ne 7, 3)) tx_se_canMeet_0 13 rfl
theorem d_se_canMeet_26 : decode prog_4_method_6_code 26 = .ok (.iconst 1, 1) := zD (q := (26, .iconst 1, 1)) tx_se_canMeet_0 14 rfl
theorem d_se_canMeet_27 : decode prog_4_method_6_code 27 = .ok (.goto 4, 3) := zD (q := (27, .goto 4, 3)) tx_se_canMeet_0 15 rfl
theorem d_se_canMeet_30 : decode prog_4_method_6_code 30 = .ok (.iconst 0, 1) := zD (q := (30, .iconst 0, 1)) tx_se_canMeet_0 16 rfl
theorem d_se_canMeet_31 : decode prog_4_method_6_code 31 = .ok (.ireturn, 1) := zD (q := (31, .ireturn, 1)) tx_se_canMeet_0 17 rfl
def T_se_tryGame_0 : List (Nat × Instr × Nat) := [(0, .aload_n 0, 1), (1, .getfield 27, 3), (4, .aload_n 0, 1), (5, .getfield 14, 3), (8, .iload_n 2, 1), (9, .iload_n 3, 1), (10, .iload 4, 2), (12, .invokevirtual 85, 3), (15, .ifCond .ne 5, 3), (18, .iconst 0, 1), (19, .ireturn, 1), (20, .aload_n 0, 1), (21, .getfield 51, 3), (24, .ifCond .ne 5, 3), (27, .iconst 2, 1), (28, .ireturn, 1), (29, .aload_n 0, 1), (30, .dup, 1), (31, .getfield 51, 3), (34, .iconst 1, 1), (35, .isub, 1), (36, .putfield 51, 3), (39, .aload_n 0, 1), (40, .getfield 14, 3), (43, .iload_n 2, 1), (44, .iload_n 3, 1), (45, .iload 4, 2), (47, .invokevirtual 91, 3), (50, .aload_n 0, 1), (51, .iload_n 2, 1), (52, .iload_n 3, 1), (53, .iload 4, 2), (55, .invokevirtual 95, 3), (58, .aload_n 0, 1), (59, .iload_n 1, 1), (60, .iconst 1, 1), (61, .iadd, 1), (62, .iload_n 2, 1), (63, .invokevirtual 54, 3), (66, .istore 5, 2), (68, .iload 5, 2), (70, .ifCond .ne 22, 3), (73, .aload_n 0, 1), (74, .iload_n 2, 1), (75, .iload_n 3, 1), (76, .iload 4, 2), (78, .invokevirtual 95, 3), (81, .aload_n 0, 1), (82, .getfield 14, 3), (85, .iload_n 2, 1), (86, .iload_n 3, 1), (87, .iload 4, 2), (89, .invokevirtual 98, 3), (92, .iload 5, 2), (94, .ireturn, 1)]
theorem tx_se_tryGame_0 : zdec prog_4_method_7_code T_se_tryGame_0 = true := by decide +kernel
theorem d_se_tryGame_0 : decode prog_4_method_7_code 0 = .ok (.aload_n 0, 1) := zD (q := (0, .aload_n 0, 1)) tx_se_tryGame_0 0 rfl
theorem d_se_tryGame_1 : decode prog_4_method_7_code 1 = .ok (.getfield 27, 3) := zD (q := (1, .getfield 27, 3)) tx_se_tryGame_0 1 rfl
theorem d_se_tryGame_4 : decode prog_4_method_7_code 4 = .ok (.aload_n 0, 1) := zD (q := (4, .aload_n 0, 1)) tx_se_tryGame_0 2 rfl
theorem d_se_tryGame_5 : decode prog_4_method_7_code 5 = .ok (.getfield 14, 3) := zD (q := (5, .getfield 14, 3)) tx_se_tryGame_0 3 rfl
theorem d_se_tryGame_8 : decode prog_4_method_7_code 8 = .ok (.iload_n 2, 1) := zD (q := (8, .iload_n 2, 1)) tx_se_tryGame_0 4 rfl
theorem d_se_tryGame_9 : decode prog_4_method_7_code 9 = .ok (.iload_n 3, 1) := zD (q := (9, .iload_n 3, 1)) tx_se_tryGame_0 5 rfl
theorem d_se_tryGame_10 : decode prog_4_method_7_code 10 = .ok (.iload 4, 2) := zD (q := (10, .iload 4, 2)) tx_se_tryGame_0 6 rfl
theorem d_se_tryGame_12 : decode prog_4_method_7_code 12 = .ok (.invokevirtual 85, 3) := zD (q := (12, .invokevirtual 85, 3)) tx_se_tryGame_0 7 rfl
theorem d_se_tryGame_15 : decode prog_4_method_7_code 15 = .ok (.ifCond .ne 5, 3) := zD (q := (15, .ifCond .ne 5, 3)) tx_se_tryGame_0 8 rfl
theorem d_se_tryGame_18 : decode prog_4_method_7_code 18 = .ok (.iconst 0, 1) := zD (q := (18, .iconst 0, 1)) tx_se_tryGame_0 9 rfl
theorem d_se_tryGame_19 : decode prog_4_method_7_code 19 = .ok (.ireturn, 1) := zD (q := (19, .ireturn, 1)) tx_se_tryGame_0 10 rfl
theorem d_se_tryGame_20 : decode prog_4_method_7_code 20 = .ok (.aload_n 0, 1) := zD (q := (20, .aload_n 0, 1)) tx_se_tryGame_0 11 rfl
theorem d_se_tryGame_21 : decode prog_4_method_7_code 21 = .ok (.getfield 51, 3) := zD (q := (21, .getfield 51, 3)) tx_se_tryGame_0 12 rfl
theorem d_se_tryGame_24 : decode prog_4_method_7_code 24 = .ok (.ifCond .ne 5, 3) := zD (q := (24, .ifCond .ne 5, 3)) tx_se_tryGame_0 13 rfl
theorem d_se_tryGame_27 : decode prog_4_method_7_code 27 = .ok (.iconst 2, 1) := zD (q := (27, .iconst 2, 1)) tx_se_tryGame_0 14 rfl
theorem d_se_tryGame_28 : decode prog_4_method_7_code 28 = .ok (.ireturn, 1) := zD (q := (28, .ireturn, 1)) tx_se_tryGame_0 15 rfl
theorem d_se_tryGame_29 : decode prog_4_method_7_code 29 = .ok (.aload_n 0, 1) := zD (q := (29, .aload_n 0, 1)) tx_se_tryGame_0 16 rfl
theorem d_se_tryGame_30 : decode prog_4_method_7_code 30 = .ok (.dup, 1) := zD (q := (30, .dup, 1)) tx_se_tryGame_0 17 rfl
theorem d_se_tryGame_31 : decode prog_4_method_7_code 31 = .ok (.getfield 51, 3) := zD (q := (31, .getfield 51, 3)) tx_se_tryGame_0 18 rfl
theorem d_se_tryGame_34 : decode prog_4_method_7_code 34 = .ok (.iconst 1, 1) := zD (q := (34, .iconst 1, 1)) tx_se_tryGame_0 19 rfl
theorem d_se_tryGame_35 : decode prog_4_method_7_code 35 = .ok (.isub, 1) := zD (q := (35, .isub, 1)) tx_se_tryGame_0 20 rfl
theorem d_se_tryGame_36 : decode prog_4_method_7_code 36 = .ok (.putfield 51, 3) := zD (q := (36, .putfield 51, 3)) tx_se_tryGame_0 21 rfl
theorem d_se_tryGame_39 : decode prog_4_method_7_code 39 = .ok (.aload_n 0, 1) := zD (q := (39, .aload_n 0, 1)) tx_se_tryGame_0 22 rfl
theorem d_se_tryGame_40 : decode prog_4_method_7_code 40 = .ok (.getfield 14, 3) := zD (q := (40, .getfield 14, 3)) tx_se_tryGame_0 23 rfl
theorem d_se_tryGame_43 : decode prog_4_method_7_code 43 = .ok (.iload_n 2, 1) := zD (q := (43, .iload_n 2, 1)) tx_se_tryGame_0 24 rfl
theorem d_se_tryGame_44 : decode prog_4_method_7_code 44 = .ok (.iload_n 3, 1) := zD (q := (44, .iload_n 3, 1)) tx_se_tryGame_0 25 rfl
theorem d_se_tryGame_45 : decode prog_4_method_7_code 45 = .ok (.iload 4, 2) := zD (q := (45, .iload 4, 2)) tx_se_tryGame_0 26 rfl
theorem d_se_tryGame_47 : decode prog_4_method_7_code 47 = .ok (.invokevirtual 91, 3) := zD (q := (47, .invokevirtual 91, 3)) tx_se_tryGame_0 27 rfl
theorem d_se_tryGame_50 : decode prog_4_method_7_code 50 = .ok (.aload_n 0, 1) := zD (q := (50, .aload_n 0, 1)) tx_se_tryGame_0 28 rfl
theorem d_se_tryGame_51 : decode prog_4_method_7_code 51 = .ok (.iload_n 2, 1) := zD (q := (51, .iload_n 2, 1)) tx_se_tryGame_0 29 rfl
theorem d_se_tryGame_52 : decode prog_4_method_7_code 52 = .ok (.iload_n 3, 1) := zD (q := (52, .iload_n 3, 1)) tx_se_tryGame_0 30 rfl
theorem d_se_tryGame_53 : decode prog_4_method_7_code 53 = .ok (.iload 4, 2) := zD (q := (53, .iload 4, 2)) tx_se_tryGame_0 31 rfl
theorem d_se_tryGame_55 : decode prog_4_method_7_code 55 = .ok (.invokevirtual 95, 3) := zD (q := (55, .invokevirtual 95, 3)) tx_se_tryGame_0 32 rfl
theorem d_se_tryGame_58 : decode prog_4_method_7_code 58 = .ok (.aload_n 0, 1) := zD (q := (58, .aload_n 0, 1)) tx_se_tryGame_0 33 rfl
theorem d_se_tryGame_59 : decode prog_4_method_7_code 59 = .ok (.iload_n 1, 1) := zD (q := (59, .iload_n 1, 1)) tx_se_tryGame_0 34 rfl
theorem d_se_tryGame_60 : decode prog_4_method_7_code 60 = .ok (.iconst 1, 1) := zD (q := (60, .iconst 1, 1)) tx_se_tryGame_0 35 rfl
theorem d_se_tryGame_61 : decode prog_4_method_7_code 61 = .ok (.iadd, 1) := zD (q := (61, .iadd, 1)) tx_se_tryGame_0 36 rfl
theorem d_se_tryGame_62 : decode prog_4_method_7_code 62 = .ok (.iload_n 2, 1) := zD (q := (62, .iload_n 2, 1)) tx_se_tryGame_0 37 rfl
theorem d_se_tryGame_63 : decode prog_4_method_7_code 63 = .ok (.invokevirtual 54, 3) := zD (q := (63, .invokevirtual 54, 3)) tx_se_tryGame_0 38 rfl
theorem d_se_tryGame_66 : decode prog_4_method_7_code 66 = .ok (.istore 5, 2) := zD (q := (66, .istore 5, 2)) tx_se_tryGame_0 39 rfl
theorem d_se_tryGame_68 : decode prog_4_method_7_code 68 = .ok (.iload 5, 2) := zD (q := (68, .iload 5, 2)) tx_se_tryGame_0 40 rfl
theorem d_se_tryGame_70 : decode prog_4_method_7_code 70 = .ok (.ifCond .ne 22, 3) := zD (q := (70, .ifCond .ne 22, 3)) tx_se_tryGame_0 41 rfl
theorem d_se_tryGame_73 : decode prog_4_method_7_code 73 = .ok (.aload_n 0, 1) := zD (q := (73, .aload_n 0, 1)) tx_se_tryGame_0 42 rfl
theorem d_se_tryGame_74 : decode prog_4_method_7_code 74 = .ok (.iload_n 2, 1) := zD (q := (74, .iload_n 2, 1)) tx_se_tryGame_0 43 rfl
theorem d_se_tryGame_75 : decode prog_4_method_7_code 75 = .ok (.iload_n 3, 1) := zD (q := (75, .iload_n 3, 1)) tx_se_tryGame_0 44 rfl
theorem d_se_tryGame_76 : decode prog_4_method_7_code 76 = .ok (.iload 4, 2) := zD (q := (76, .iload 4, 2)) tx_se_tryGame_0 45 rfl
theorem d_se_tryGame_78 : decode prog_4_method_7_code 78 = .ok (.invokevirtual 95, 3) := zD (q := (78, .invokevirtual 95, 3)) tx_se_tryGame_0 46 rfl
theorem d_se_tryGame_81 : decode prog_4_method_7_code 81 = .ok (.aload_n 0, 1) := zD (q := (81, .aload_n 0, 1)) tx_se_tryGame_0 47 rfl
theorem d_se_tryGame_82 : decode prog_4_method_7_code 82 = .ok (.getfield 14, 3) := zD (q := (82, .getfield 14, 3)) tx_se_tryGame_0 48 rfl
theorem d_se_tryGame_85 : decode prog_4_method_7_code 85 = .ok (.iload_n 2, 1) := zD (q := (85, .iload_n 2, 1)) tx_se_tryGame_0 49 rfl
theorem d_se_tryGame_86 : decode prog_4_method_7_code 86 = .ok (.iload_n 3, 1) := zD (q := (86, .iload_n 3, 1)) tx_se_tryGame_0 50 rfl
theorem d_se_tryGame_87 : decode prog_4_method_7_code 87 = .ok (.iload 4, 2) := zD (q := (87, .iload 4, 2)) tx_se_tryGame_0 51 rfl
theorem d_se_tryGame_89 : decode prog_4_method_7_code 89 = .ok (.invokevirtual 98, 3) := zD (q := (89, .invokevirtual 98, 3)) tx_se_tryGame_0 52 rfl
theorem d_se_tryGame_92 : decode prog_4_method_7_code 92 = .ok (.iload 5, 2) := zD (q := (92, .iload 5, 2)) tx_se_tryGame_0 53 rfl
theorem d_se_tryGame_94 : decode prog_4_method_7_code 94 = .ok (.ireturn, 1) := zD (q := (94, .ireturn, 1)) tx_se_tryGame_0 54 rfl
def T_se_flipMeeting_0 : List (Nat × Instr × Nat) := [(0, .aload_n 0, 1), (1, .getfield 20, 3), (4, .iload_n 1, 1), (5, .dup2, 1), (6, .iaload, 1), (7, .iconst 1, 1), (8, .iload_n 2, 1), (9, .ishl, 1), (10, .iconst 1, 1), (11, .iload_n 3, 1), (12, .ishl, 1), (13, .ior, 1), (14, .ixor, 1), (15, .iastore, 1), (16, .aload_n 0, 1), (17, .getfield 24, 3), (20, .iload_n 2, 1), (21, .dup2, 1), (22, .iaload, 1), (23, .iconst 1, 1), (24, .iload_n 3, 1), (25, .ishl, 1), (26, .ixor, 1), (27, .iastore, 1), (28, .aload_n 0, 1), (29, .getfield 24, 3), (32, .iload_n 3, 1), (33, .dup2, 1), (34, .iaload, 1), (35, .iconst 1, 1), (36, .iload_n 2, 1), (37, .ishl, 1), (38, .ixor, 1), (39, .iastore, 1), (40, .return_, 1)]
theorem tx_se_flipMeeting_0 : zdec prog_4_method_9_code T_se_flipMeeting_0 = true := by decide +kernel
theorem d_se_flipMeeting_0 : decode prog_4_method_9_code 0 = .ok (.aload_n 0, 1) := zD (q := (0, .aload_n 0, 1)) tx_se_flipMeeting_0 0 rfl
theorem d_se_flipMeeting_1 : decode prog_4_method_9_code 1 = .ok (.getfield 20, 3) := zD (q := (1, .getfield 20, 3)) tx_se_flipMeeting_0 1 rfl
theorem d_se_flipMeeting_4 : decode prog_4_method_9_code 4 = .ok (.iload_n 1, 1) := zD (q := (4, .iload_n 1, 1)) tx_se_flipMeeting_0 2 rfl
theorem d_se_flipMeeting_5 : decode prog_4_method_9_code 5 = .ok (.dup2, 1) := zD (q := (5, .dup2, 1)) tx_se_flipMeeting_0 3 rfl
theorem d_se_flipMeeting_6 : decode prog_4_method_9_code 6 = .ok (.iaload, 1) := zD (q := (6, .iaload, 1)) tx_se_flipMeeting_0 4 rfl
theorem d_se_flipMeeting_7 : decode prog_4_method_9_code 7 = .ok (.iconst 1, 1) := zD (q := (7, .iconst 1, 1)) tx_se_flipMeeting_0 5 rfl
theorem d_se_flipMeeting_8 : decode prog_4_method_9_code 8 = .ok (.iload_n 2, 1) := zD (q := (8, .iload_n 2, 1)) tx_se_flipMeeting_0 6 rfl
theorem d_se_flipMeeting_9 : decode prog_4_method_9_code 9 = .ok (.ishl, 1) := zD (q := (9, .ishl, 1)) tx_se_flipMeeting_0 7 rfl
theorem d_se_flipMeeting_10 : decode prog_4_method_9_code 10 = .ok (.iconst 1, 1) := zD (q := (10, .iconst 1, 1)) tx_se_flipMeeting_0 8 rfl
theorem d_se_flipMeeting_11 : decode prog_4_method_9_code 11 = .ok (.iload_n 3, 1) := zD (q := (11, .iload_n 3, 1)) tx_se_flipMeeting_0 9 rfl
theorem d_se_flipMeeting_12 : decode prog_4_method_9_code 12 = .ok (.ishl, 1) := zD (q := (12, .ishl, 1)) tx_se_flipMeeting_0 10 rfl
theorem d_se_flipMeeting_13 : decode prog_4_method_9_code 13 = .ok (.ior, 1) := zD (q := (13, .ior, 1)) tx_se_flipMeeting_0 11 rfl
theorem d_se_flipMeeting_14 : decode prog_4_method_9_code 14 = .ok (.ixor, 1) := zD (q := (14, .ixor, 1)) tx_se_flipMeeting_0 12 rfl
theorem d_se_flipMeeting_15 : decode prog_4_method_9_code 15 = .ok (.iastore, 1) := zD (q := (15, .iastore, 1)) tx_se_flipMeeting_0 13 rfl
theorem d_se_flipMeeting_16 : decode prog_4_method_9_code 16 = .ok (.aload_n 0, 1) := zD (q := (16, .aload_n 0, 1)) tx_se_flipMeeting_0 14 rfl
theorem d_se_flipMeeting_17 : decode prog_4_method_9_code 17 = .ok (.getfield 24, 3) := zD (q := (17, .getfield 24, 3)) tx_se_flipMeeting_0 15 rfl
theorem d_se_flipMeeting_20 : decode prog_4_method_9_code 20 = .ok (.iload_n 2, 1) := zD (q := (20, .iload_n 2, 1)) tx_se_flipMeeting_0 16 rfl
theorem d_se_flipMeeting_21 : decode prog_4_method_9_code 21 = .ok (.dup2, 1) := zD (q := (21, .dup2, 1)) tx_se_flipMeeting_0 17 rfl
theorem d_se_flipMeeting_22 : decode prog_4_method_9_code 22 = .ok (.iaload, 1) := zD (q := (22, .iaload, 1)) tx_se_flipMeeting_0 18 rfl
theorem d_se_flipMeeting_23 : decode prog_4_method_9_code 23 = .ok (.iconst 1, 1) := zD (q := (23, .iconst 1, 1)) tx_se_flipMeeting_0 19 rfl
theorem d_se_flipMeeting_24 : decode prog_4_method_9_code 24 = .ok (.iload_n 3, 1) := zD (q := (24, .iload_n 3, 1)) tx_se_flipMeeting_0 20 rfl
theorem d_se_flipMeeting_25 : decode prog_4_method_9_code 25 = .ok (.ishl, 1) := zD (q := (25, .ishl, 1)) tx_se_flipMeeting_0 21 rfl
theorem d_se_flipMeeting_26 : decode prog_4_method_9_code 26 = .ok (.ixor, 1) := zD (q := (26, .ixor, 1)) tx_se_flipMeeting_0 22 rfl
theorem d_se_flipMeeting_27 : decode prog_4_method_9_code 27 = .ok (.iastore, 1) := zD (q := (27, .iastore, 1)) tx_se_flipMeeting_0 23 rfl
theorem d_se_flipMeeting_28 : decode prog_4_method_9_code 28 = .ok (.aload_n 0, 1) := zD (q := (28, .aload_n 0, 1)) tx_se_flipMeeting_0 24 rfl
theorem d_se_flipMeeting_29 : decode prog_4_method_9_code 29 = .ok (.getfield 24, 3) := zD (q := (29, .getfield 24, 3)) tx_se_flipMeeting_0 25 rfl
theorem d_se_flipMeeting_32 : decode prog_4_method_9_code 32 = .ok (.iload_n 3, 1) := zD (q := (32, .iload_n 3, 1)) tx_se_flipMeeting_0 26 rfl
theorem d_se_flipMeeting_33 : decode prog_4_method_9_code 33 = .ok (.dup2, 1) := zD (q := (33, .dup2, 1)) tx_se_flipMeeting_0 27 rfl
theorem d_se_flipMeeting_34 : decode prog_4_method_9_code 34 = .ok (.iaload, 1) := zD (q := (34, .iaload, 1)) tx_se_flipMeeting_0 28 rfl
theorem d_se_flipMeeting_35 : decode prog_4_method_9_code 35 = .ok (.iconst 1, 1) := zD (q := (35, .iconst 1, 1)) tx_se_flipMeeting_0 29 rfl
theorem d_se_flipMeeting_36 : decode prog_4_method_9_code 36 = .ok (.iload_n 2, 1) := zD (q := (36, .iload_n 2, 1)) tx_se_flipMeeting_0 30 rfl
theorem d_se_flipMeeting_37 : decode prog_4_method_9_code 37 = .ok (.ishl, 1) := zD (q := (37, .ishl, 1)) tx_se_flipMeeting_0 31 rfl
theorem d_se_flipMeeting_38 : decode prog_4_method_9_code 38 = .ok (.ixor, 1) := zD (q := (38, .ixor, 1)) tx_se_flipMeeting_0 32 rfl
theorem d_se_flipMeeting_39 : decode prog_4_method_9_code 39 = .ok (.iastore, 1) := zD (q := (39, .iastore, 1)) tx_se_flipMeeting_0 33 rfl
theorem d_se_flipMeeting_40 : decode prog_4_method_9_code 40 = .ok (.return_, 1) := zD (q := (40, .return_, 1)) tx_se_flipMeeting_0 34 rfl
def T_se_tryBye_0 : List (Nat × Instr × Nat) := [(0, .aload_n 0, 1), (1, .getfield 14, 3), (4, .invokevirtual 65, 3), (7, .iconst 2, 1), (8, .irem, 1), (9, .ifCond .eq 26, 3), (12, .aload_n 0, 1), (13, .getfield 44, 3), (16, .iload_n 3, 1), (17, .invokestatic 81, 3), (20, .ifCond .ne 15, 3), (23, .aload_n 0, 1), (24, .getfield 27, 3), (27, .iload_n 2, 1), (28, .iload_n 3, 1), (29, .invokevirtual 101, 3), (32, .ifCond .ne 5, 3), (35, .iconst 0, 1), (36, .ireturn, 1), (37, .aload_n 0, 1), (38, .getfield 51, 3), (41, .ifCond .ne 5, 3), (44, .iconst 2, 1), (45, .ireturn, 1), (46, .aload_n 0, 1), (47, .dup, 1), (48, .getfield 51, 3), (51, .iconst 1, 1), (52, .isub, 1), (53, .putfield 51, 3), (56, .aload_n 0, 1), (57, .iload_n 2, 1), (58, .iload_n 3, 1), (59, .invokevirtual 104, 3), (62, .aload_n 0, 1), (63, .iload_n 1, 1), (64, .iconst 1, 1), (65, .iadd, 1), (66, .iload_n 2, 1), (67, .invokevirtual 54, 3), (70, .istore 4, 2), (72, .iload 4, 2), (74, .ifCond .ne 9, 3), (77, .aload_n 0, 1), (78, .iload_n 2, 1), (79, .iload_n 3, 1), (80, .invokevirtual 104, 3), (83, .iload 4, 2), (85, .ireturn, 1)]
theorem tx_se_tryBye_0 : zdec prog_4_method_8_code T_se_tryBye_0 = true := by decide +kernel
theorem d_se_tryBye_0 : decode prog_4_method_8_code 0 = .ok (.aload_n 0, 1) := zD (q := (0, .aload_n 0, 1)) tx_se_tryBye_0 0 rfl
theorem d_se_tryBye_1 : decode prog_4_method_8_code 1 = .ok (.getfield 14, 3) := zD (q := (1, .getfield 14, 3)) tx_se_tryBye_0 1 rfl
theorem d_se_tryBye_4 : decode prog_4_method_8_code 4 = .ok (.invokevirtual 65, 3) := zD (q := (4, .invokevirtual 65, 3)) tx_se_tryBye_0 2 rfl
theorem d_se_tryBye_7 : decode prog_4_method_8_code 7 = .ok (.iconst 2, 1) := zD (q := (7, .iconst 2, 1)) tx_se_tryBye_0 3 rfl
theorem d_se_tryBye_8 : decode prog_4_method_8_code 8 = .ok (.irem, 1) := zD (q := (8, .irem, 1)) tx_se_tryBye_0 4 rfl
theorem d_se_tryBye_9 : decode prog_4_method_8_code 9 = .ok (.ifCond .eq 26, 3) := zD (q := (9, .ifCond .eq 26, 3)) tx_se_tryBye_0 5 rfl
theorem d_se_tryBye_12 : decode prog_4_method_8_code 12 = .ok (.aload_n 0, 1) := zD (q := (12, .aload_n 0, 1)) tx_se_tryBye_0 6 rfl
theorem d_se_tryBye_13 : decode prog_4_method_8_code 13 = .ok (.getfield 44, 3) := zD (q := (13, .getfield 44, 3)) tx_se_tryBye_0 7 rfl
theorem d_se_tryBye_16 : decode prog_4_method_8_code 16 = .ok (.iload_n 3, 1) := zD (q := (16, .iload_n 3, 1)) tx_se_tryBye_0 8 rfl
theorem d_se_tryBye_17 : decode prog_4_method_8_code 17 = .ok (.invokestatic 81, 3) := zD (q := (17, .invokestatic 81, 3)) tx_se_tryBye_0 9 rfl
theorem d_se_tryBye_20 : decode prog_4_method_8_code 20 = .ok (.ifCond .ne 15, 3) := zD (q := (20, .ifCond .ne 15, 3)) tx_se_tryBye_0 10 rfl
theorem d_se_tryBye_23 : decode prog_4_method_8_code 23 = .ok (.aload_n 0, 1) := zD (q := (23, .aload_n 0, 1)) tx_se_tryBye_0 11 rfl
theorem d_se_tryBye_24 : decode prog_4_method_8_code 24 = .ok (.getfield 27, 3) := zD (q := (24, .getfield 27, 3)) tx_se_tryBye_0 12 rfl
theorem d_se_tryBye_27 : decode prog_4_method_8_code 27 = .ok (.iload_n 2, 1) := zD (q := (27, .iload_n 2, 1)) tx_se_tryBye_0 13 rfl
theorem d_se_tryBye_28 : decode prog_4_method_8_code 28 = .ok (.iload_n 3, 1) := zD (q := (28, .iload_n 3, 1)) tx_se_tryBye_0 14 rfl
theorem d_se_tryBye_29 : decode prog_4_method_8_code 29 = .ok (.invokevirtual 101, 3) := zD (q := (29, .invokevirtual 101, 3)) tx_se_tryBye_0 15 rfl
theorem d_se_tryBye_32 : decode prog_4_method_8_code 32 = .ok (.ifCond .ne 5, 3) := zD (q := (32, .ifCond .ne 5, 3)) tx_se_tryBye_0 16 rfl
theorem d_se_tryBye_35 : decode prog_4_method_8_code 35 = .ok (.iconst 0, 1) := zD (q := (35, .iconst 0, 1)) tx_se_tryBye_0 17 rfl
theorem d_se_tryBye_36 : decode prog_4_method_8_code 36 = .ok (.ireturn, 1) := zD (q := (36, .ireturn, 1)) tx_se_tryBye_0 18 rfl
theorem d_se_tryBye_37 : decode prog_4_method_8_code 37 = .ok (.aload_n 0, 1) := zD (q := (37, .aload_n 0, 1)) tx_se_tryBye_0 19 rfl
theorem d_se_tryBye_38 : decode prog_4_method_8_code 38 = .ok (.getfield 51, 3) := zD (q := (38, .getfield 51, 3)) tx_se_tryBye_0 20 rfl
theorem d_se_tryBye_41 : decode prog_4_method_8_code 41 = .ok (.ifCond .ne 5, 3) := zD (q := (41, .ifCond .ne 5, 3)) tx_se_tryBye_0 21 rfl
theorem d_se_tryBye_44 : decode prog_4_method_8_code 44 = .ok (.iconst 2, 1) := zD (q := (44, .iconst 2, 1)) tx_se_tryBye_0 22 rfl
theorem d_se_tryBye_45 : decode prog_4_method_8_code 45 = .ok (.ireturn, 1) := zD (q := (45, .ireturn, 1)) tx_se_tryBye_0 23 rfl
theorem d_se_tryBye_46 : decode prog_4_method_8_code 46 = .ok (.aload_n 0, 1) := zD (q := (46, .aload_n 0, 1)) tx_se_tryBye_0 24 rfl
theorem d_se_tryBye_47 : decode prog_4_method_8_code 47 = .ok (.dup, 1) := zD (q := (47, .dup, 1)) tx_se_tryBye_0 25 rfl
theorem d_se_tryBye_48 : decode prog_4_method_8_code 48 = .ok (.getfield 51, 3) := zD (q := (48, .getfield 51, 3)) tx_se_tryBye_0 26 rfl
theorem d_se_tryBye_51 : decode prog_4_method_8_code 51 = .ok (.iconst 1, 1) := zD (q := (51, .iconst 1, 1)) tx_se_tryBye_0 27 rfl
theorem d_se_tryBye_52 : decode prog_4_method_8_code 52 = .ok (.isub, 1) := zD (q := (52, .isub, 1)) tx_se_tryBye_0 28 rfl
theorem d_se_tryBye_53 : decode prog_4_method_8_code 53 = .ok (.putfield 51, 3) := zD (q := (53, .putfield 51, 3)) tx_se_tryBye_0 29 rfl
theorem d_se_tryBye_56 : decode prog_4_method_8_code 56 = .ok (.aload_n 0, 1) := zD (q := (56, .aload_n 0, 1)) tx_se_tryBye_0 30 rfl
theorem d_se_tryBye_57 : decode prog_4_method_8_code 57 = .ok (.iload_n 2, 1) := zD (q := (57, .iload_n 2, 1)) tx_se_tryBye_0 31 rfl
theorem d_se_tryBye_58 : decode prog_4_method_8_code 58 = .ok (.iload_n 3, 1) := zD (q := (58, .iload_n 3, 1)) tx_se_tryBye_0 32 rfl
theorem d_se_tryBye_59 : decode prog_4_method_8_code 59 = .ok (.invokevirtual 104, 3) := zD (q := (59, .invokevirtual 104, 3)) tx_se_tryBye_0 33 rfl
theorem d_se_tryBye_62 : decode prog_4_method_8_code 62 = .ok (.aload_n 0, 1) := zD (q := (62, .aload_n 0, 1)) tx_se_tryBye_0 34 rfl
theorem d_se_tryBye_63 : decode prog_4_method_8_code 63 = .ok (.iload_n 1, 1) := zD (q := (63, .iload_n 1, 1)) tx_se_tryBye_0 35 rfl
theorem d_se_tryBye_64 : decode prog_4_method_8_code 64 = .ok (.iconst 1, 1) := zD (q := (64, .iconst 1, 1)) tx_se_tryBye_0 36 rfl
theorem d_se_tryBye_65 : decode prog_4_method_8_code 65 = .ok (.iadd, 1) := zD (q := (65, .iadd, 1)) tx_se_tryBye_0 37 rfl
theorem d_se_tryBye_66 : decode prog_4_method_8_code 66 = .ok (.iload_n 2, 1) := zD (q := (66, .iload_n 2, 1)) tx_se_tryBye_0 38 rfl
theorem d_se_tryBye_67 : decode prog_4_method_8_code 67 = .ok (.invokevirtual 54, 3) := zD (q := (67, .invokevirtual 54, 3)) tx_se_tryBye_0 39 rfl
theorem d_se_tryBye_70 : decode prog_4_method_8_code 70 = .ok (.istore 4, 2) := zD (q := (70, .istore 4, 2)) tx_se_tryBye_0 40 rfl
theorem d_se_tryBye_72 : decode prog_4_method_8_code 72 = .ok (.iload 4, 2) := zD (q := (72, .iload 4, 2)) tx_se_tryBye_0 41 rfl
theorem d_se_tryBye_74 : decode prog_4_method_8_code 74 = .ok (.ifCond .ne 9, 3) := zD (q := (74, .ifCond .ne 9, 3)) tx_se_tryBye_0 42 rfl
theorem d_se_tryBye_77 : decode prog_4_method_8_code 77 = .ok (.aload_n 0, 1) := zD (q := (77, .aload_n 0, 1)) tx_se_tryBye_0 43 rfl
theorem d_se_tryBye_78 : decode prog_4_method_8_code 78 = .ok (.iload_n 2, 1) := zD (q := (78, .iload_n 2, 1)) tx_se_tryBye_0 44 rfl
theorem d_se_tryBye_79 : decode prog_4_method_8_code 79 = .ok (.iload_n 3, 1) := zD (q := (79, .iload_n 3, 1)) tx_se_tryBye_0 45 rfl
theorem d_se_tryBye_80 : decode prog_4_method_8_code 80 = .ok (.invokevirtual 104, 3) := zD (q := (80, .invokevirtual 104, 3)) tx_se_tryBye_0 46 rfl
theorem d_se_tryBye_83 : decode prog_4_method_8_code 83 = .ok (.iload 4, 2) := zD (q := (83, .iload 4, 2)) tx_se_tryBye_0 47 rfl
theorem d_se_tryBye_85 : decode prog_4_method_8_code 85 = .ok (.ireturn, 1) := zD (q := (85, .ireturn, 1)) tx_se_tryBye_0 48 rfl
def T_se_flipBye_0 : List (Nat × Instr × Nat) := [(0, .aload_n 0, 1), (1, .getfield 20, 3), (4, .iload_n 1, 1), (5, .dup2, 1), (6, .iaload, 1), (7, .iconst 1, 1), (8, .iload_n 2, 1), (9, .ishl, 1), (10, .ixor, 1), (11, .iastore, 1), (12, .aload_n 0, 1), (13, .dup, 1), (14, .getfield 44, 3), (17, .iconst 1, 1), (18, .iload_n 2, 1), (19, .ishl, 1), (20, .ixor, 1), (21, .putfield 44, 3), (24, .return_, 1)]
theorem tx_se_flipBye_0 : zdec prog_4_method_10_code T_se_flipBye_0 = true := by decide +kernel
theorem d_se_flipBye_0 : decode prog_4_method_10_code 0 = .ok (.aload_n 0, 1) := zD (q := (0, .aload_n 0, 1)) tx_se_flipBye_0 0 rfl
theorem d_se_flipBye_1 : decode prog_4_method_10_code 1 = .ok (.getfield 20, 3) := zD (q := (1, .getfield 20, 3)) tx_se_flipBye_0 1 rfl
theorem d_se_flipBye_4 : decode prog_4_method_10_code 4 = .ok (.iload_n 1, 1) := zD (q := (4, .iload_n 1, 1)) tx_se_flipBye_0 2 rfl
theorem d_se_flipBye_5 : decode prog_4_method_10_code 5 = .ok (.dup2, 1) := zD (q := (5, .dup2, 1)) tx_se_flipBye_0 3 rfl
theorem d_se_flipBye_6 : decode prog_4_method_10_code 6 = .ok (.iaload, 1) := zD (q := (6, .iaload, 1)) tx_se_flipBye_0 4 rfl
theorem d_se_flipBye_7 : decode prog_4_method_10_code 7 = .ok (.iconst 1, 1) := zD (q := (7, .iconst 1, 1)) tx_se_flipBye_0 5 rfl
theorem d_se_flipBye_8 : decode prog_4_method_10_code 8 = .ok (.iload_n 2, 1) := zD (q := (8, .iload_n 2, 1)) tx_se_flipBye_0 6 rfl
theorem d_se_flipBye_9 : decode prog_4_method_10_code 9 = .ok (.ishl, 1) := zD (q := (9, .ishl, 1)) tx_se_flipBye_0 7 rfl
theorem d_se_flipBye_10 : decode prog_4_method_10_code 10 = .ok (.ixor, 1) := zD (q := (10, .ixor, 1)) tx_se_flipBye_0 8 rfl
theorem d_se_flipBye_11 : decode prog_4_method_10_code 11 = .ok (.iastore, 1) := zD (q := (11, .iastore, 1)) tx_se_flipBye_0 9 rfl
theorem d_se_flipBye_12 : decode prog_4_method_10_code 12 = .ok (.aload_n 0, 1) := zD (q := (12, .aload_n 0, 1)) tx_se_flipBye_0 10 rfl
theorem d_se_flipBye_13 : decode prog_4_method_10_code 13 = .ok (.dup, 1) := zD (q := (13, .dup, 1)) tx_se_flipBye_0 11 rfl
theorem d_se_flipBye_14 : decode prog_4_method_10_code 14 = .ok (.getfield 44, 3) := zD (q := (14, .getfield 44, 3)) tx_se_flipBye_0 12 rfl
theorem d_se_flipBye_17 : decode prog_4_method_10_code 17 = .ok (.iconst 1, 1) := zD (q := (17, .iconst 1, 1)) tx_se_flipBye_0 13 rfl
theorem d_se_flipBye_18 : decode prog_4_method_10_code 18 = .ok (.iload_n 2, 1) := zD (q := (18, .iload_n 2, 1)) tx_se_flipBye_0 14 rfl
theorem d_se_flipBye_19 : decode prog_4_method_10_code 19 = .ok (.ishl, 1) := zD (q := (19, .ishl, 1)) tx_se_flipBye_0 15 rfl
theorem d_se_flipBye_20 : decode prog_4_method_10_code 20 = .ok (.ixor, 1) := zD (q := (20, .ixor, 1)) tx_se_flipBye_0 16 rfl
theorem d_se_flipBye_21 : decode prog_4_method_10_code 21 = .ok (.putfield 44, 3) := zD (q := (21, .putfield 44, 3)) tx_se_flipBye_0 17 rfl
theorem d_se_flipBye_24 : decode prog_4_method_10_code 24 = .ok (.return_, 1) := zD (q := (24, .return_, 1)) tx_se_flipBye_0 18 rfl
def T_se_found_0 : List (Nat × Instr × Nat) := [(0, .aload_n 0, 1), (1, .getfield 14, 3), (4, .areturn, 1)]
theorem tx_se_found_0 : zdec prog_4_method_2_code T_se_found_0 = true := by decide +kernel
theorem d_se_found_0 : decode prog_4_method_2_code 0 = .ok (.aload_n 0, 1) := zD (q := (0, .aload_n 0, 1)) tx_se_found_0 0 rfl
theorem d_se_found_1 : decode prog_4_method_2_code 1 = .ok (.getfield 14, 3) := zD (q := (1, .getfield 14, 3)) tx_se_found_0 1 rfl
theorem d_se_found_4 : decode prog_4_method_2_code 4 = .ok (.areturn, 1) := zD (q := (4, .areturn, 1)) tx_se_found_0 2 rfl
def T_sd_init_0 : List (Nat × Instr × Nat) := [(0, .aload_n 0, 1), (1, .invokespecial 3, 3), (4, .aload_n 0, 1), (5, .bipush 20, 2), (7, .newarray .int, 2), (9, .putfield 9, 3), (12, .aload_n 0, 1), (13, .bipush 20, 2), (15, .newarray .int, 2), (17, .putfield 15, 3), (20, .aload_n 0, 1), (21, .bipush 20, 2), (23, .newarray .int, 2), (25, .putfield 18, 3), (28, .aload_n 0, 1), (29, .bipush 20, 2), (31, .newarray .int, 2), (33, .putfield 21, 3), (36, .aload_n 0, 1), (37, .bipush 20, 2), (39, .newarray .int, 2), (41, .putfield 24, 3), (44, .return_, 1)]
theorem tx_sd_init_0 : zdec prog_5_method_1_code T_sd_init_0 = true := by decide +kernel
theorem d_sd_init_0 : decode prog_5_method_1_code 0 = .ok (.aload_n 0, 1) := zD (q := (0, .aload_n 0, 1)) tx_sd_init_0 0 rfl
theorem d_sd_init_1 : decode prog_5_method_1_code 1 = .ok (.invokespecial 3, 3) := zD (q := (1, .invokespecial 3, 3)) tx_sd_init_0 1 rfl
theorem d_sd_init_4 : decode prog_5_method_1_code 4 = .ok (.aload_n 0, 1) := zD (q := (4, .aload_n 0, 1)) tx_sd_init_0 2 rfl
theorem d_sd_init_5 : decode prog_5_method_1_code 5 = .ok (.bipush 20, 2) := zD (q := (5, .bipush 20, 2)) tx_sd_init_0 3 rfl
theorem d_sd_init_7 : decode prog_5_method_1_code 7 = .ok (.newarray .int, 2) := zD (q := (7, .newarray .int, 2)) tx_sd_init_0 4 rfl
theorem d_sd_init_9 : decode prog_5_method_1_code 9 = .ok (.putfield 9, 3) := zD (q := (9, .putfield 9, 3)) tx_sd_init_0 5 rfl
theorem d_sd_init_12 : decode prog_5_method_1_code 12 = .ok (.aload_n 0, 1) := zD (q := (12, .aload_n 0, 1)) tx_sd_init_0 6 rfl
theorem d_sd_init_13 : decode prog_5_method_1_code 13 = .ok (.bipush 20, 2) := zD (q := (13, .bipush 20, 2)) tx_sd_init_0 7 rfl
theorem d_sd_init_15 : decode prog_5_method_1_code 15 = .ok (.newarray .int, 2) := zD (q := (15, .newarray .int, 2)) tx_sd_init_0 8 rfl
theorem d_sd_init_17 : decode prog_5_method_1_code 17 = .ok (.putfield 15, 3) := zD (q := (17, .putfield 15, 3)) tx_sd_init_0 9 rfl
theorem d_sd_init_20 : decode prog_5_method_1_code 20 = .ok (.aload_n 0, 1) := zD (q := (20, .aload_n 0, 1)) tx_sd_init_0 10 rfl
theorem d_sd_init_21 : decode prog_5_method_1_code 21 = .ok (.bipush 20, 2) := zD (q := (21, .bipush 20, 2)) tx_sd_init_0 11 rfl
theorem d_sd_init_23 : decode prog_5_method_1_code 23 = .ok (.newarray .int, 2) := zD (q := (23, .newarray .int, 2)) tx_sd_init_0 12 rfl
theorem d_sd_init_25 : decode prog_5_method_1_code 25 = .ok (.putfield 18, 3) := zD (q := (25, .putfield 18, 3)) tx_sd_init_0 13 rfl
theorem d_sd_init_28 : decode prog_5_method_1_code 28 = .ok (.aload_n 0, 1) := zD (q := (28, .aload_n 0, 1)) tx_sd_init_0 14 rfl
theorem d_sd_init_29 : decode prog_5_method_1_code 29 = .ok (.bipush 20, 2) := zD (q := (29, .bipush 20, 2)) tx_sd_init_0 15 rfl
theorem d_sd_init_31 : decode prog_5_method_1_code 31 = .ok (.newarray .int, 2) := zD (q := (31, .newarray .int, 2)) tx_sd_init_0 16 rfl
theorem d_sd_init_33 : decode prog_5_method_1_code 33 = .ok (.putfield 21, 3) := zD (q := (33, .putfield 21, 3)) tx_sd_init_0 17 rfl
theorem d_sd_init_36 : decode prog_5_method_1_code 36 = .ok (.aload_n 0, 1) := zD (q := (36, .aload_n 0, 1)) tx_sd_init_0 18 rfl
theorem d_sd_init_37 : decode prog_5_method_1_code 37 = .ok (.bipush 20, 2) := zD (q := (37, .bipush 20, 2)) tx_sd_init_0 19 rfl
theorem d_sd_init_39 : decode prog_5_method_1_code 39 = .ok (.newarray .int, 2) := zD (q := (39, .newarray .int, 2)) tx_sd_init_0 20 rfl
theorem d_sd_init_41 : decode prog_5_method_1_code 41 = .ok (.putfield 24, 3) := zD (q := (41, .putfield 24, 3)) tx_sd_init_0 21 rfl
theorem d_sd_init_44 : decode prog_5_method_1_code 44 = .ok (.return_, 1) := zD (q := (44, .return_, 1)) tx_sd_init_0 22 rfl
def T_sd_forget_0 : List (Nat × Instr × Nat) := [(0, .aload_n 0, 1), (1, .getfield 9, 3), (4, .iconst 0, 1), (5, .invokestatic 27, 3), (8, .aload_n 0, 1), (9, .getfield 15, 3), (12, .iconst 0, 1), (13, .invokestatic 27, 3), (16, .aload_n 0, 1), (17, .getfield 18, 3), (20, .iconst 0, 1), (21, .invokestatic 27, 3), (24, .aload_n 0, 1), (25, .getfield 21, 3), (28, .iconst 0, 1), (29, .invokestatic 27, 3), (32, .aload_n 0, 1), (33, .getfield 24, 3), (36, .iconst 0, 1), (37, .invokestatic 27, 3), (40, .return_, 1)]
theorem tx_sd_forget_0 : zdec prog_5_method_2_code T_sd_forget_0 = true := by decide +kernel
theorem d_sd_forget_0 : decode prog_5_method_2_code 0 = .ok (.aload_n 0, 1) := zD (q := (0, .aload_n 0, 1)) tx_sd_forget_0 0 rfl
theorem d_sd_forget_1 : decode prog_5_method_2_code 1 = .ok (.getfield 9, 3) := zD (q := (1, .getfield 9, 3)) tx_sd_forget_0 1 rfl
theorem d_sd_forget_4 : decode prog_5_method_2_code 4 = .ok (.iconst 0, 1) := zD (q := (4, .iconst 0, 1)) tx_sd_forget_0 2 rfl
theorem d_sd_forget_5 : decode prog_5_method_2_code 5 = .ok (.invokestatic 27, 3) := zD (q := (5, .invokestatic 27, 3)) tx_sd_forget_0 3 rfl
theorem d_sd_forget_8 : decode prog_5_method_2_code 8 = .ok (.aload_n 0, 1) := zD (q := (8, .aload_n 0, 1)) tx_sd_forget_0 4 rfl
theorem d_sd_forget_9 : decode prog_5_method_2_code 9 = .ok (.getfield 15, 3) := zD (q := (9, .getfield 15, 3)) tx_sd_forget_0 5 rfl
theorem d_sd_forget_12 : decode prog_5_method_2_code 12 = .ok (.iconst 0, 1) := zD (q := (12, .iconst 0, 1)) tx_sd_forget_0 6 rfl
theorem d_sd_forget_13 : decode prog_5_method_2_code 13 = .ok (.invokestatic 27, 3) := zD (q := (13, .invokestatic 27, 3)) tx_sd_forget_0 7 rfl
theorem d_sd_forget_16 : decode prog_5_method_2_code 16 = .ok (.aload_n 0, 1) := zD (q := (16, .aload_n 0, 1)) tx_sd_forget_0 8 rfl
theorem d_sd_forget_17 : decode prog_5_method_2_code 17 = .ok (.getfield 18, 3) := zD (q := (17, .getfield 18, 3)) tx_sd_forget_0 9 rfl
theorem d_sd_forget_20 : decode prog_5_method_2_code 20 = .ok (.iconst 0, 1) := zD (q := (20, .iconst 0, 1)) tx_sd_forget_0 10 rfl
theorem d_sd_forget_21 : decode prog_5_method_2_code 21 = .ok (.invokestatic 27, 3) := zD (q := (21, .invokestatic 27, 3)) tx_sd_forget_0 11 rfl
theorem d_sd_forget_24 : decode prog_5_method_2_code 24 = .ok (.aload_n 0, 1) := zD (q := (24, .aload_n 0, 1)) tx_sd_forget_0 12 rfl
theorem d_sd_forget_25 : decode prog_5_method_2_code 25 = .ok (.getfield 21, 3) := zD (q := (25, .getfield 21, 3)) tx_sd_forget_0 13 rfl
theorem d_sd_forget_28 : decode prog_5_method_2_code 28 = .ok (.iconst 0, 1) := zD (q := (28, .iconst 0, 1)) tx_sd_forget_0 14 rfl
theorem d_sd_forget_29 : decode prog_5_method_2_code 29 = .ok (.invokestatic 27, 3) := zD (q := (29, .invokestatic 27, 3)) tx_sd_forget_0 15 rfl
theorem d_sd_forget_32 : decode prog_5_method_2_code 32 = .ok (.aload_n 0, 1) := zD (q := (32, .aload_n 0, 1)) tx_sd_forget_0 16 rfl
theorem d_sd_forget_33 : decode prog_5_method_2_code 33 = .ok (.getfield 24, 3) := zD (q := (33, .getfield 24, 3)) tx_sd_forget_0 17 rfl
theorem d_sd_forget_36 : decode prog_5_method_2_code 36 = .ok (.iconst 0, 1) := zD (q := (36, .iconst 0, 1)) tx_sd_forget_0 18 rfl
theorem d_sd_forget_37 : decode prog_5_method_2_code 37 = .ok (.invokestatic 27, 3) := zD (q := (37, .invokestatic 27, 3)) tx_sd_forget_0 19 rfl
theorem d_sd_forget_40 : decode prog_5_method_2_code 40 = .ok (.return_, 1) := zD (q := (40, .return_, 1)) tx_sd_forget_0 20 rfl
def T_sd_score_0 : List (Nat × Instr × Nat) := [(0, .aload_n 0, 1), (1, .iload_n 1, 1), (2, .iload_n 3, 1), (3, .iload 4, 2), (5, .iload 5, 2), (7, .invokevirtual 33, 3), (10, .aload_n 0, 1), (11, .iload_n 2, 1), (12, .iload 4, 2), (14, .iload_n 3, 1), (15, .iload 5, 2), (17, .invokevirtual 33, 3), (20, .return_, 1)]
theorem tx_sd_score_0 : zdec prog_5_method_3_code T_sd_score_0 = true := by decide +kernel
theorem d_sd_score_0 : decode prog_5_method_3_code 0 = .ok (.aload_n 0, 1) := zD (q := (0, .aload_n 0, 1)) tx_sd_score_0 0 rfl
theorem d_sd_score_1 : decode prog_5_method_3_code 1 = .ok (.iload_n 1, 1) := zD (q := (1, .iload_n 1, 1)) tx_sd_score_0 1 rfl
theorem d_sd_score_2 : decode prog_5_method_3_code 2 = .ok (.iload_n 3, 1) := zD (q := (2, .iload_n 3, 1)) tx_sd_score_0 2 rfl
theorem d_sd_score_3 : decode prog_5_method_3_code 3 = .ok (.iload 4, 2) := zD (q := (3, .iload 4, 2)) tx_sd_score_0 3 rfl
theorem d_sd_score_5 : decode prog_5_method_3_code 5 = .ok (.iload 5, 2) := zD (q := (5, .iload 5, 2)) tx_sd_score_0 4 rfl
theorem d_sd_score_7 : decode prog_5_method_3_code 7 = .ok (.invokevirtual 33, 3) := zD (q := (7, .invokevirtual 33, 3)) tx_sd_score_0 5 rfl
theorem d_sd_score_10 : decode prog_5_method_3_code 10 = .ok (.aload_n 0, 1) := zD (q := (10, .aload_n 0, 1)) tx_sd_score_0 6 rfl
theorem d_sd_score_11 : decode prog_5_method_3_code 11 = .ok (.iload_n 2, 1) := zD (q := (11, .iload_n 2, 1)) tx_sd_score_0 7 rfl
theorem d_sd_score_12 : decode prog_5_method_3_code 12 = .ok (.iload 4, 2) := zD (q := (12, .iload 4, 2)) tx_sd_score_0 8 rfl
theorem d_sd_score_14 : decode prog_5_method_3_code 14 = .ok (.iload_n 3, 1) := zD (q := (14, .iload_n 3, 1)) tx_sd_score_0 9 rfl
theorem d_sd_score_15 : decode prog_5_method_3_code 15 = .ok (.iload 5, 2) := zD (q := (15, .iload 5, 2)) tx_sd_score_0 10 rfl
theorem d_sd_score_17 : decode prog_5_method_3_code 17 = .ok (.invokevirtual 33, 3) := zD (q := (17, .invokevirtual 33, 3)) tx_sd_score_0 11 rfl
theorem d_sd_score_20 : decode prog_5_method_3_code 20 = .ok (.return_, 1) := zD (q := (20, .return_, 1)) tx_sd_score_0 12 rfl
def T_sd_scoreSide_0 : List (Nat × Instr × Nat) := [(0, .iload_n 2, 1), (1, .iload_n 3, 1), (2, .if_icmp .le 17, 3), (5, .aload_n 0, 1), (6, .getfield 9, 3), (9, .iload_n 1, 1), (10, .dup2, 1), (11, .iaload, 1), (12, .iload 4, 2), (14, .iadd, 1), (15, .iastore, 1), (16, .goto 33, 3), (19, .iload_n 2, 1), (20, .iload_n 3, 1), (21, .if_icmp .ne 17, 3), (24, .aload_n 0, 1), (25, .getfield 15, 3), (28, .iload_n 1, 1), (29, .dup2, 1), (30, .iaload, 1), (31, .iload 4, 2), (33, .iadd, 1), (34, .iastore, 1), (35, .goto 14, 3), (38, .aload_n 0, 1), (39, .getfield 18, 3), (42, .iload_n 1, 1), (43, .dup2, 1), (44, .iaload, 1), (45, .iload 4, 2), (47, .iadd, 1), (48, .iastore, 1), (49, .aload_n 0, 1), (50, .getfield 21, 3), (53, .iload_n 1, 1), (54, .dup2, 1), (55, .iaload, 1), (56, .iload 4, 2), (58, .iload_n 2, 1), (59, .imul, 1), (60, .iadd, 1), (61, .iastore, 1), (62, .aload_n 0, 1), (63, .getfield 24, 3), (66, .iload_n 1, 1), (67, .dup2, 1), (68, .iaload, 1), (69, .iload 4, 2), (71, .iload_n 3, 1), (72, .imul, 1), (73, .iadd, 1), (74, .iastore, 1), (75, .return_, 1)]
theorem tx_sd_scoreSide_0 : zdec prog_5_method_4_code T_sd_scoreSide_0 = true := by decide +kernel
theorem d_sd_scoreSide_0 : decode prog_5_method_4_code 0 = .ok (.iload_n 2, 1) := zD (q := (0, .iload_n 2, 1)) tx_sd_scoreSide_0 0 rfl
theorem d_sd_scoreSide_1 : decode prog_5_method_4_code 1 = .ok (.iload_n 3, 1) := zD (q := (1, .iload_n 3, 1)) tx_sd_scoreSide_0 1 rfl
theorem d_sd_scoreSide_2 : decode prog_5_method_4_code 2 = .ok (.if_icmp .le 17, 3) := zD (q := (2, .if_icmp .le 17, 3)) tx_sd_scoreSide_0 2 rfl
theorem d_sd_scoreSide_5 : decode prog_5_method_4_code 5 = .ok (.aload_n 0, 1) := zD (q := (5, .aload_n 0, 1)) tx_sd_scoreSide_0 3 rfl
theorem d_sd_scoreSide_6 : decode prog_5_method_4_code 6 = .ok (.getfield 9, 3) := zD (q := (6, .getfield 9, 3)) tx_sd_scoreSide_0 4 rfl
theorem d_sd_scoreSide_9 : decode prog_5_method_4_code 9 = .ok (.iload_n 1, 1) := zD (q := (9, .iload_n 1, 1)) tx_sd_scoreSide_0 5 rfl
theorem d_sd_scoreSide_10 : decode prog_5_method_4_code 10 = .ok (.dup2, 1) := zD (q := (10, .dup2, 1)) tx_sd_scoreSide_0 6 rfl
theorem d_sd_scoreSide_11 : decode prog_5_method_4_code 11 = .ok (.iaload, 1) := zD (q := (11, .iaload, 1)) tx_sd_scoreSide_0 7 rfl
theorem d_sd_scoreSide_12 : decode prog_5_method_4_code 12 = .ok (.iload 4, 2) := zD (q := (12, .iload 4, 2)) tx_sd_scoreSide_0 8 rfl
theorem d_sd_scoreSide_14 : decode prog_5_method_4_code 14 = .ok (.iadd, 1) := zD (q := (14, .iadd, 1)) tx_sd_scoreSide_0 9 rfl
theorem d_sd_scoreSide_15 : decode prog_5_method_4_code 15 = .ok (.iastore, 1) := zD (q := (15, .iastore, 1)) tx_sd_scoreSide_0 10 rfl
theorem d_sd_scoreSide_16 : decode prog_5_method_4_code 16 = .ok (.goto 33, 3) := zD (q := (16, .goto 33, 3)) tx_sd_scoreSide_0 11 rfl
theorem d_sd_scoreSide_19 : decode prog_5_method_4_code 19 = .ok (.iload_n 2, 1) := zD (q := (19, .iload_n 2, 1)) tx_sd_scoreSide_0 12 rfl
theorem d_sd_scoreSide_20 : decode prog_5_method_4_code 20 = .ok (.iload_n 3, 1) := zD (q := (20, .iload_n 3, 1)) tx_sd_scoreSide_0 13 rfl
theorem d_sd_scoreSide_21 : decode prog_5_method_4_code 21 = .ok (.if_icmp .ne 17, 3) := zD (q := (21, .if_icmp .ne 17, 3)) tx_sd_scoreSide_0 14 rfl
theorem d_sd_scoreSide_24 : decode prog_5_method_4_code 24 = .ok (.aload_n 0, 1) := zD (q := (24, .aload_n 0, 1)) tx_sd_scoreSide_0 15 rfl
theorem d_sd_scoreSide_25 : decode prog_5_method_4_code 25 = .ok (.getfield 15, 3) := zD (q := (25, .getfield 15, 3)) tx_sd_scoreSide_0 16 rfl
theorem d_sd_scoreSide_28 : decode prog_5_method_4_code 28 = .ok (.iload_n 1, 1) := zD (q := (28, .iload_n 1, 1)) tx_sd_scoreSide_0 17 rfl
theorem d_sd_scoreSide_29 : decode prog_5_method_4_code 29 = .ok (.dup2, 1) := zD (q := (29, .dup2, 1)) tx_sd_scoreSide_0 18 rfl
theorem d_sd_scoreSide_30 : decode prog_5_method_4_code 30 = .ok (.iaload, 1) := zD (q := (30, .iaload, 1)) tx_sd_scoreSide_0 19 rfl
theorem d_sd_scoreSide_31 : decode prog_5_method_4_code 31 = .ok (.iload 4, 2) := zD (q := (31, .iload 4, 2)) tx_sd_scoreSide_0 20 rfl
theorem d_sd_scoreSide_33 : decode prog_5_method_4_code 33 = .ok (.iadd, 1) := zD (q := (33, .iadd, 1)) tx_sd_scoreSide_0 21 rfl
theorem d_sd_scoreSide_34 : decode prog_5_method_4_code 34 = .ok (.iastore, 1) := zD (q := (34, .iastore, 1)) tx_sd_scoreSide_0 22 rfl
theorem d_sd_scoreSide_35 : decode prog_5_method_4_code 35 = .ok (.goto 14, 3) := zD (q := (35, .goto 14, 3)) tx_sd_scoreSide_0 23 rfl
theorem d_sd_scoreSide_38 : decode prog_5_method_4_code 38 = .ok (.aload_n 0, 1) := zD (q := (38, .aload_n 0, 1)) tx_sd_scoreSide_0 24 rfl
theorem d_sd_scoreSide_39 : decode prog_5_method_4_code 39 = .ok (.getfield 18, 3) := zD (q := (39, .getfield 18, 3)) tx_sd_scoreSide_0 25 rfl
theorem d_sd_scoreSide_42 : decode prog_5_method_4_code 42 = .ok (.iload_n 1, 1) := zD (q := (42, .iload_n 1, 1)) tx_sd_scoreSide_0 26 rfl
theorem d_sd_scoreSide_43 : decode prog_5_method_4_code 43 = .ok (.dup2, 1) := zD (q := (43, .dup2, 1)) tx_sd_scoreSide_0 27 rfl
theorem d_sd_scoreSide_44 : decode prog_5_method_4_code 44 = .ok (.iaload, 1) := zD (q := (44, .iaload, 1)) tx_sd_scoreSide_0 28 rfl
theorem d_sd_scoreSide_45 : decode prog_5_method_4_code 45 = .ok (.iload 4, 2) := zD (q := (45, .iload 4, 2)) tx_sd_scoreSide_0 29 rfl
theorem d_sd_scoreSide_47 : decode prog_5_method_4_code 47 = .ok (.iadd, 1) := zD (q := (47, .iadd, 1)) tx_sd_scoreSide_0 30 rfl
theorem d_sd_scoreSide_48 : decode prog_5_method_4_code 48 = .ok (.iastore, 1) := zD (q := (48, .iastore, 1)) tx_sd_scoreSide_0 31 rfl
theorem d_sd_scoreSide_49 : decode prog_5_method_4_code 49 = .ok (.aload_n 0, 1) := zD (q := (49, .aload_n 0, 1)) tx_sd_scoreSide_0 32 rfl
theorem d_sd_scoreSide_50 : decode prog_5_method_4_code 50 = .ok (.getfield 21, 3) := zD (q := (50, .getfield 21, 3)) tx_sd_scoreSide_0 33 rfl
theorem d_sd_scoreSide_53 : decode prog_5_method_4_code 53 = .ok (.iload_n 1, 1) := zD (q := (53, .iload_n 1, 1)) tx_sd_scoreSide_0 34 rfl
theorem d_sd_scoreSide_54 : decode prog_5_method_4_code 54 = .ok (.dup2, 1) := zD (q := (54, .dup2, 1)) tx_sd_scoreSide_0 35 rfl
theorem d_sd_scoreSide_55 : decode prog_5_method_4_code 55 = .ok (.iaload, 1) := zD (q := (55, .iaload, 1)) tx_sd_scoreSide_0 36 rfl
theorem d_sd_scoreSide_56 : decode prog_5_method_4_code 56 = .ok (.iload 4, 2) := zD (q := (56, .iload 4, 2)) tx_sd_scoreSide_0 37 rfl
theorem d_sd_scoreSide_58 : decode prog_5_method_4_code 58 = .ok (.iload_n 2, 1) := zD (q := (58, .iload_n 2, 1)) tx_sd_scoreSide_0 38 rfl
theorem d_sd_scoreSide_59 : decode prog_5_method_4_code 59 = .ok (.imul, 1) := zD (q := (59, .imul, 1)) tx_sd_scoreSide_0 39 rfl
theorem d_sd_scoreSide_60 : decode prog_5_method_4_code 60 = .ok (.iadd, 1) := zD (q := (60, .iadd, 1)) tx_sd_scoreSide_0 40 rfl
theorem d_sd_scoreSide_61 : decode prog_5_method_4_code 61 = .ok (.iastore, 1) := zD (q := (61, .iastore, 1)) tx_sd_scoreSide_0 41 rfl
theorem d_sd_scoreSide_62 : decode prog_5_method_4_code 62 = .ok (.aload_n 0, 1) := zD (q := (62, .aload_n 0, 1)) tx_sd_scoreSide_0 42 rfl
theorem d_sd_scoreSide_63 : decode prog_5_method_4_code 63 = .ok (.getfield 24, 3) := zD (q := (63, .getfield 24, 3)) tx_sd_scoreSide_0 43 rfl
theorem d_sd_scoreSide_66 : decode prog_5_method_4_code 66 = .ok (.iload_n 1, 1) := zD (q := (66, .iload_n 1, 1)) tx_sd_scoreSide_0 44 rfl
theorem d_sd_scoreSide_67 : decode prog_5_method_4_code 67 = .ok (.dup2, 1) := zD (q := (67, .dup2, 1)) tx_sd_scoreSide_0 45 rfl
theorem d_sd_scoreSide_68 : decode prog_5_method_4_code 68 = .ok (.iaload, 1) := zD (q := (68, .iaload, 1)) tx_sd_scoreSide_0 46 rfl
theorem d_sd_scoreSide_69 : decode prog_5_method_4_code 69 = .ok (.iload 4, 2) := zD (q := (69, .iload 4, 2)) tx_sd_scoreSide_0 47 rfl
theorem d_sd_scoreSide_71 : decode prog_5_method_4_code 71 = .ok (.iload_n 3, 1) := zD (q := (71, .iload_n 3, 1)) tx_sd_scoreSide_0 48 rfl
theorem d_sd_scoreSide_72 : decode prog_5_method_4_code 72 = .ok (.imul, 1) := zD (q := (72, .imul, 1)) tx_sd_scoreSide_0 49 rfl
theorem d_sd_scoreSide_73 : decode prog_5_method_4_code 73 = .ok (.iadd, 1) := zD (q := (73, .iadd, 1)) tx_sd_scoreSide_0 50 rfl
theorem d_sd_scoreSide_74 : decode prog_5_method_4_code 74 = .ok (.iastore, 1) := zD (q := (74, .iastore, 1)) tx_sd_scoreSide_0 51 rfl
theorem d_sd_scoreSide_75 : decode prog_5_method_4_code 75 = .ok (.return_, 1) := zD (q := (75, .return_, 1)) tx_sd_scoreSide_0 52 rfl
def T_sd_teamAt_0 : List (Nat × Instr × Nat) := [(0, .iconst 0, 1), (1, .istore_n 3, 1), (2, .iload_n 3, 1), (3, .iload_n 2, 1), (4, .if_icmp .ge 21, 3), (7, .aload_n 0, 1), (8, .iload_n 3, 1), (9, .iload_n 2, 1), (10, .invokevirtual 37, 3), (13, .iload_n 1, 1), (14, .if_icmp .ne 5, 3), (17, .iload_n 3, 1), (18, .ireturn, 1), (19, .iinc 3 1, 3), (22, .goto (-20), 3), (25, .iconst 0, 1), (26, .ireturn, 1)]
theorem tx_sd_teamAt_0 : zdec prog_5_method_5_code T_sd_teamAt_0 = true := by decide +kernel
theorem d_sd_teamAt_0 : decode prog_5_method_5_code 0 = .ok (.iconst 0, 1) := zD (q := (0, .iconst 0, 1)) tx_sd_teamAt_0 0 rfl
theorem d_sd_teamAt_1 : decode prog_5_method_5_code 1 = .ok (.istore_n 3, 1) := zD (q := (1, .istore_n 3, 1)) tx_sd_teamAt_0 1 rfl
theorem d_sd_teamAt_2 : decode prog_5_method_5_code 2 = .ok (.iload_n 3, 1) := zD (q := (2, .iload_n 3, 1)) tx_sd_teamAt_0 2 rfl
theorem d_sd_teamAt_3 : decode prog_5_method_5_code 3 = .ok (.iload_n 2, 1) := zD (q := (3, .iload_n 2, 1)) tx_sd_teamAt_0 3 rfl
theorem d_sd_teamAt_4 : decode prog_5_method_5_code 4 = .ok (.if_icmp .ge 21, 3) := zD (q := (4, .if_icmp .ge 21, 3)) tx_sd_teamAt_0 4 rfl
theorem d_sd_teamAt_7 : decode prog_5_method_5_code 7 = .ok (.aload_n 0, 1) := zD (q := (7, .aload_n 0, 1)) tx_sd_teamAt_0 5 rfl
theorem d_sd_teamAt_8 : decode prog_5_method_5_code 8 = .ok (.iload_n 3, 1) := zD (q := (8, .iload_n 3, 1)) tx_sd_teamAt_0 6 rfl
theorem d_sd_teamAt_9 : decode prog_5_method_5_code 9 = .ok (.iload_n 2, 1) := zD (q := (9, .iload_n 2, 1)) tx_sd_teamAt_0 7 rfl
theorem d_sd_teamAt_10 : decode prog_5_method_5_code 10 = .ok (.invokevirtual 37, 3) := zD (q := (10, .invokevirtual 37, 3)) tx_sd_teamAt_0 8 rfl
theorem d_sd_teamAt_13 : decode prog_5_method_5_code 13 = .ok (.iload_n 1, 1) := zD (q := (13, .iload_n 1, 1)) tx_sd_teamAt_0 9 rfl
theorem d_sd_teamAt_14 : decode prog_5_method_5_code 14 = .ok (.if_icmp .ne 5, 3) := zD (q := (14, .if_icmp .ne 5, 3)) tx_sd_teamAt_0 10 rfl
theorem d_sd_teamAt_17 : decode prog_5_method_5_code 17 = .ok (.iload_n 3, 1) := zD (q := (17, .iload_n 3, 1)) tx_sd_teamAt_0 11 rfl
theorem d_sd_teamAt_18 : decode prog_5_method_5_code 18 = .ok (.ireturn, 1) := zD (q := (18, .ireturn, 1)) tx_sd_teamAt_0 12 rfl
theorem d_sd_teamAt_19 : decode prog_5_method_5_code 19 = .ok (.iinc 3 1, 3) := zD (q := (19, .iinc 3 1, 3)) tx_sd_teamAt_0 13 rfl
theorem d_sd_teamAt_22 : decode prog_5_method_5_code 22 = .ok (.goto (-20), 3) := zD (q := (22, .goto (-20), 3)) tx_sd_teamAt_0 14 rfl
theorem d_sd_teamAt_25 : decode prog_5_method_5_code 25 = .ok (.iconst 0, 1) := zD (q := (25, .iconst 0, 1)) tx_sd_teamAt_0 15 rfl
theorem d_sd_teamAt_26 : decode prog_5_method_5_code 26 = .ok (.ireturn, 1) := zD (q := (26, .ireturn, 1)) tx_sd_teamAt_0 16 rfl
def T_sd_placeOf_0 : List (Nat × Instr × Nat) := [(0, .iconst 0, 1), (1, .istore_n 3, 1), (2, .iconst 0, 1), (3, .istore 4, 2), (5, .iload 4, 2), (7, .iload_n 2, 1), (8, .if_icmp .ge 28, 3), (11, .iload 4, 2), (13, .iload_n 1, 1), (14, .if_icmp .eq 16, 3), (17, .aload_n 0, 1), (18, .iload 4, 2), (20, .iload_n 1, 1), (21, .invokevirtual 41, 3), (24, .ifCond .eq 6, 3), (27, .iinc 3 1, 3), (30, .iinc 4 1, 3), (33, .goto (-28), 3), (36, .iload_n 3, 1), (37, .ireturn, 1)]
theorem tx_sd_placeOf_0 : zdec prog_5_method_6_code T_sd_placeOf_0 = true := by decide +kernel
theorem d_sd_placeOf_0 : decode prog_5_method_6_code 0 = .ok (.iconst 0, 1) := zD (q := (0, .iconst 0, 1)) tx_sd_placeOf_0 0 rfl
theorem d_sd_placeOf_1 : decode prog_5_method_6_code 1 = .ok (.istore_n 3, 1) := zD (q := (1, .istore_n 3, 1)) tx_sd_placeOf_0 1 rfl
theorem d_sd_placeOf_2 : decode prog_5_method_6_code 2 = .ok (.iconst 0, 1) := zD (q := (2, .iconst 0, 1)) tx_sd_placeOf_0 2 rfl
theorem d_sd_placeOf_3 : decode prog_5_method_6_code 3 = .ok (.istore 4, 2) := zD (q := (3, .istore 4, 2)) tx_sd_placeOf_0 3 rfl
theorem d_sd_placeOf_5 : decode prog_5_method_6_code 5 = .ok (.iload 4, 2) := zD (q := (5, .iload 4, 2)) tx_sd_placeOf_0 4 rfl
theorem d_sd_placeOf_7 : decode prog_5_method_6_code 7 = .ok (.iload_n 2, 1) := zD (q := (7, .iload_n 2, 1)) tx_sd_placeOf_0 5 rfl
theorem d_sd_placeOf_8 : decode prog_5_method_6_code 8 = .ok (.if_icmp .ge 28, 3) := zD (q := (8, .if_icmp .ge 28, 3)) tx_sd_placeOf_0 6 rfl
theorem d_sd_placeOf_11 : decode prog_5_method_6_code 11 = .ok (.iload 4, 2) := zD (q := (11, .iload 4, 2)) tx_sd_placeOf_0 7 rfl
theorem d_sd_placeOf_13 : decode prog_5_method_6_code 13 = .ok (.iload_n 1, 1) := zD (q := (13, .iload_n 1, 1)) tx_sd_placeOf_0 8 rfl
theorem d_sd_placeOf_14 : decode prog_5_method_6_code 14 = .ok (.if_icmp .eq 16, 3) := zD (q := (14, .if_icmp .eq 16, 3)) tx_sd_placeOf_0 9 rfl
theorem d_sd_placeOf_17 : decode prog_5_method_6_code 17 = .ok (.aload_n 0, 1) := zD (q := (17, .aload_n 0, 1)) tx_sd_placeOf_0 10 rfl
theorem d_sd_placeOf_18 : decode prog_5_method_6_code 18 = .ok (.iload 4, 2) := zD (q := (18, .iload 4, 2)) tx_sd_placeOf_0 11 rfl
theorem d_sd_placeOf_20 : decode prog_5_method_6_code 20 = .ok (.iload_n 1, 1) := zD (q := (20, .iload_n 1, 1)) tx_sd_placeOf_0 12 rfl
theorem d_sd_placeOf_21 : decode prog_5_method_6_code 21 = .ok (.invokevirtual 41, 3) := zD (q := (21, .invokevirtual 41, 3)) tx_sd_placeOf_0 13 rfl
theorem d_sd_placeOf_24 : decode prog_5_method_6_code 24 = .ok (.ifCond .eq 6, 3) := zD (q := (24, .ifCond .eq 6, 3)) tx_sd_placeOf_0 14 rfl
theorem d_sd_placeOf_27 : decode prog_5_method_6_code 27 = .ok (.iinc 3 1, 3) := zD (q := (27, .iinc 3 1, 3)) tx_sd_placeOf_0 15 rfl
theorem d_sd_placeOf_30 : decode prog_5_method_6_code 30 = .ok (.iinc 4 1, 3) := zD (q := (30, .iinc 4 1, 3)) tx_sd_placeOf_0 16 rfl
theorem d_sd_placeOf_33 : decode prog_5_method_6_code 33 = .ok (.goto (-28), 3) := zD (q := (33, .goto (-28), 3)) tx_sd_placeOf_0 17 rfl
theorem d_sd_placeOf_36 : decode prog_5_method_6_code 36 = .ok (.iload_n 3, 1) := zD (q := (36, .iload_n 3, 1)) tx_sd_placeOf_0 18 rfl
theorem d_sd_placeOf_37 : decode prog_5_method_6_code 37 = .ok (.ireturn, 1) := zD (q := (37, .ireturn, 1)) tx_sd_placeOf_0 19 rfl
def T_sd_standsBefore_0 : List (Nat × Instr × Nat) := [(0, .aload_n 0, 1), (1, .iload_n 1, 1), (2, .invokevirtual 45, 3), (5, .aload_n 0, 1), (6, .iload_n 2, 1), (7, .invokevirtual 45, 3), (10, .if_icmp .eq 22, 3), (13, .aload_n 0, 1), (14, .iload_n 1, 1), (15, .invokevirtual 45, 3), (18, .aload_n 0, 1), (19, .iload_n 2, 1), (20, .invokevirtual 45, 3), (23, .if_icmp .le 7, 3), (26, .iconst 1, 1), (27, .goto 4, 3), (30, .iconst 0, 1), (31, .ireturn, 1), (32, .aload_n 0, 1), (33, .iload_n 1, 1), (34, .invokevirtual 49, 3), (37, .aload_n 0, 1), (38, .iload_n 2, 1), (39, .invokevirtual 49, 3), (42, .if_icmp .eq 22, 3), (45, .aload_n 0, 1), (46, .iload_n 1, 1), (47, .invokevirtual 49, 3), (50, .aload_n 0, 1), (51, .iload_n 2, 1), (52, .invokevirtual 49, 3), (55, .if_icmp .le 7, 3), (58, .iconst 1, 1), (59, .goto 4, 3), (62, .iconst 0, 1), (63, .ireturn, 1), (64, .aload_n 0, 1), (65, .getfield 21, 3), (68, .iload_n 1, 1), (69, .iaload, 1), (70, .aload_n 0, 1), (71, .getfield 21, 3), (74, .iload_n 2, 1), (75, .iaload, 1), (76, .if_icmp .eq 24, 3), (79, .aload_n 0, 1), (80, .getfield 21, 3), (83, .iload_n 1, 1), (84, .iaload, 1), (85, .aload_n 0, 1), (86, .getfield 21, 3), (89, .iload_n 2, 1), (90, .iaload, 1), (91, .if_icmp .le 7, 3), (94, .iconst 1, 1), (95, .goto 4, 3), (98, .iconst 0, 1), (99, .ireturn, 1), (100, .iload_n 1, 1), (101, .iload_n 2, 1)]
theorem tx_sd_standsBefore_0 : zdec prog_5_method_7_code T_sd_standsBefore_0 = true := by decide +kernel
theorem d_sd_standsBefore_0 : decode prog_5_method_7_code 0 = .ok (.aload_n 0, 1) := zD (q := (0, .aload_n 0, 1)) tx_sd_standsBefore_0 0 rfl
theorem d_sd_standsBefore_1 : decode prog_5_method_7_code 1 = .ok (.iload_n 1, 1) := zD (q := (1, .iload_n 1, 1)) tx_sd_standsBefore_0 1 rfl
theorem d_sd_standsBefore_2 : decode prog_5_method_7_code 2 = .ok (.invokevirtual 45, 3) := zD (q := (2, .invokevirtual 45, 3)) tx_sd_standsBefore_0 2 rfl
theorem d_sd_standsBefore_5 : decode prog_5_method_7_code 5 = .ok (.aload_n 0, 1) := zD (q := (5, .aload_n 0, 1)) tx_sd_standsBefore_0 3 rfl
theorem d_sd_standsBefore_6 : decode prog_5_method_7_code 6 = .ok (.iload_n 2, 1) := zD (q := (6, .iload_n 2, 1)) tx_sd_standsBefore_0 4 rfl
theorem d_sd_standsBefore_7 : decode prog_5_method_7_code 7 = .ok (.invokevirtual 45, 3) := zD (q := (7, .invokevirtual 45, 3)) tx_sd_standsBefore_0 5 rfl
theorem d_sd_standsBefore_10 : decode prog_5_method_7_code 10 = .ok (.if_icmp .eq 22, 3) := zD (q := (10, .if_icmp .eq 22, 3)) tx_sd_standsBefore_0 6 rfl
theorem d_sd_standsBefore_13 : decode prog_5_method_7_code 13 = .ok (.aload_n 0, 1) := zD (q := (13, .aload_n 0, 1)) tx_sd_standsBefore_0 7 rfl
theorem d_sd_standsBefore_14 : decode prog_5_method_7_code 14 = .ok (.iload_n 1, 1) := zD (q := (14, .iload_n 1, 1)) tx_sd_standsBefore_0 8 rfl
theorem d_sd_standsBefore_15 : decode prog_5_method_7_code 15 = .ok (.invokevirtual 45, 3) := zD (q := (15, .invokevirtual 45, 3)) tx_sd_standsBefore_0 9 rfl
theorem d_sd_standsBefore_18 : decode prog_5_method_7_code 18 = .ok (.aload_n 0, 1) := zD (q := (18, .aload_n 0, 1)) tx_sd_standsBefore_0 10 rfl
theorem d_sd_standsBefore_19 : decode prog_5_method_7_code 19 = .ok (.iload_n 2, 1) := zD (q := (19, .iload_n 2, 1)) tx_sd_standsBefore_0 11 rfl
theorem d_sd_standsBefore_20 : decode prog_5_method_7_code 20 = .ok (.invokevirtual 45, 3) := zD (q := (20, .invokevirtual 45, 3)) tx_sd_standsBefore_0 12 rfl
theorem d_sd_standsBefore_23 : decode prog_5_method_7_code 23 = .ok (.if_icmp .le 7, 3) := zD (q := (23, .if_icmp .le 7, 3)) tx_sd_standsBefore_0 13 rfl
theorem d_sd_standsBefore_26 : decode prog_5_method_7_code 26 = .ok (.iconst 1, 1) := zD (q := (26, .iconst 1, 1)) tx_sd_standsBefore_0 14 rfl
theorem d_sd_standsBefore_27 : decode prog_5_method_7_code 27 = .ok (.goto 4, 3) := zD (q := (27, .goto 4, 3)) tx_sd_standsBefore_0 15 rfl
theorem d_sd_standsBefore_30 : decode prog_5_method_7_code 30 = .ok (.iconst 0, 1) := zD (q := (30, .iconst 0, 1)) tx_sd_standsBefore_0 16 rfl
theorem d_sd_standsBefore_31 : decode prog_5_method_7_code 31 = .ok (.ireturn, 1) := zD (q := (31, .ireturn, 1)) tx_sd_standsBefore_0 17 rfl
theorem d_sd_standsBefore_32 : decode prog_5_method_7_code 32 = .ok (.aload_n 0, 1) := zD (q := (32, .aload_n 0, 1)) tx_sd_standsBefore_0 18 rfl
theorem d_sd_standsBefore_33 : decode prog_5_method_7_code 33 = .ok (.iload_n 1, 1) := zD (q := (33, .iload_n 1, 1)) tx_sd_standsBefore_0 19 rfl
theorem d_sd_standsBefore_34 : decode prog_5_method_7_code 34 = .ok (.invokevirtual 49, 3) := zD (q := (34, .invokevirtual 49, 3)) tx_sd_standsBefore_0 20 rfl
theorem d_sd_standsBefore_37 : decode prog_5_method_7_code 37 = .ok (.aload_n 0, 1) := zD (q := (37, .aload_n 0, 1)) tx_sd_standsBefore_0 21 rfl
theorem d_sd_standsBefore_38 : decode prog_5_method_7_code 38 = .ok (.iload_n 2, 1) := zD (q := (38, .iload_n 2, 1)) tx_sd_standsBefore_0 22 rfl
theorem d_sd_standsBefore_39 : decode prog_5_method_7_code 39 = .ok (.invokevirtual 49, 3) := zD (q := (39, .invokevirtual 49, 3)) tx_sd_standsBefore_0 23 rfl
theorem d_sd_standsBefore_42 : decode prog_5_method_7_code 42 = .ok (.if_icmp .eq 22, 3) := zD (q := (42, .if_icmp .eq 22, 3)) tx_sd_standsBefore_0 24 rfl
theorem d_sd_standsBefore_45 : decode prog_5_method_7_code 45 = .ok (.aload_n 0, 1) := zD (q := (45, .aload_n 0, 1)) tx_sd_standsBefore_0 25 rfl
theorem d_sd_standsBefore_46 : decode prog_5_method_7_code 46 = .ok (.iload_n 1, 1) := zD (q := (46, .iload_n 1, 1)) tx_sd_standsBefore_0 26 rfl
theorem d_sd_standsBefore_47 : decode prog_5_method_7_code 47 = .ok (.invokevirtual 49, 3) := zD (q := (47, .invokevirtual 49, 3)) tx_sd_standsBefore_0 27 rfl
theorem d_sd_standsBefore_50 : decode prog_5_method_7_code 50 = .ok (.aload_n 0, 1) := zD (q := (50, .aload_n 0, 1)) tx_sd_standsBefore_0 28 rfl
theorem d_sd_standsBefore_51 : decode prog_5_method_7_code 51 = .ok (.iload_n 2, 1) := zD (q := (51, .iload_n 2, 1)) tx_sd_standsBefore_0 29 rfl
theorem d_sd_standsBefore_52 : decode prog_5_method_7_code 52 = .ok (.invokevirtual 49, 3) := zD (q := (52, .invokevirtual 49, 3)) tx_sd_standsBefore_0 30 rfl
theorem d_sd_standsBefore_55 : decode prog_5_method_7_code 55 = .ok (.if_icmp .le 7, 3) := zD (q := (55, .if_icmp .le 7, 3)) tx_sd_standsBefore_0 31 rfl
theorem d_sd_standsBefore_58 : decode prog_5_method_7_code 58 = .ok (.iconst 1, 1) := zD (q := (58, .iconst 1, 1)) tx_sd_standsBefore_0 32 rfl
theorem d_sd_standsBefore_59 : decode prog_5_method_7_code 59 = .ok (.goto 4, 3) := zD (q := (59, .goto 4, 3)) tx_sd_standsBefore_0 33 rfl
theorem d_sd_standsBefore_62 : decode prog_5_method_7_code 62 = .ok (.iconst 0, 1) := zD (q := (62, .iconst 0, 1)) tx_sd_standsBefore_0 34 rfl
theorem d_sd_standsBefore_63 : decode prog_5_method_7_code 63 = .ok (.ireturn, 1) := zD (q := (63, .ireturn, 1)) tx_sd_standsBefore_0 35 rfl
theorem d_sd_standsBefore_64 : decode prog_5_method_7_code 64 = .ok (.aload_n 0, 1) := zD (q := (64, .aload_n 0, 1)) tx_sd_standsBefore_0 36 rfl
theorem d_sd_standsBefore_65 : decode prog_5_method_7_code 65 = .ok (.getfield 21, 3) := zD (q := (65, .getfield 21, 3)) tx_sd_standsBefore_0 37 rfl
theorem d_sd_standsBefore_68 : decode prog_5_method_7_code 68 = .ok (.iload_n 1, 1) := zD (q := (68, .iload_n 1, 1)) tx_sd_standsBefore_0 38 rfl
theorem d_sd_standsBefore_69 : decode prog_5_method_7_code 69 = .ok (.iaload, 1) := zD (q := (69, .iaload, 1)) tx_sd_standsBefore_0 39 rfl
theorem d_sd_standsBefore_70 : decode prog_5_method_7_code 70 = .ok (.aload_n 0, 1) := zD (q := (70, .aload_n 0, 1)) tx_sd_standsBefore_0 40 rfl
theorem d_sd_standsBefore_71 : decode prog_5_method_7_code 71 = .ok (.getfield 21, 3) := zD (q := (71, .getfield 21, 3)) tx_sd_standsBefore_0 41 rfl
theorem d_sd_standsBefore_74 : decode prog_5_method_7_code 74 = .ok (.iload_n 2, 1) := zD (q := (74, .iload_n 2, 1)) tx_sd_standsBefore_0 42 rfl
theorem d_sd_standsBefore_75 : decode prog_5_method_7_code 75 = .ok (.iaload, 1) := zD (q := (75, .iaload, 1)) tx_sd_standsBefore_0 43 rfl
theorem d_sd_standsBefore_76 : decode prog_5_method_7_code 76 = .ok (.if_icmp .eq 24, 3) := zD (q := (76, .if_icmp .eq 24, 3)) tx_sd_standsBefore_0 44 rfl
theorem d_sd_standsBefore_79 : decode prog_5_method_7_code 79 = .ok (.aload_n 0, 1) := zD (q := (79, .aload_n 0, 1)) tx_sd_standsBefore_0 45 rfl
theorem d_sd_standsBefore_80 : decode prog_5_method_7_code 80 = .ok (.getfield 21, 3) := zD (q := (80, .getfield 21, 3)) tx_sd_standsBefore_0 46 rfl
theorem d_sd_standsBefore_83 : decode prog_5_method_7_code 83 = .ok (.iload_n 1, 1) := zD (q := (83, .iload_n 1, 1)) tx_sd_standsBefore_0 47 rfl
theorem d_sd_standsBefore_84 : decode prog_5_method_7_code 84 = .ok (.iaload, 1) := zD (q := (84, .iaload, 1)) tx_sd_standsBefore_0 48 rfl
theorem d_sd_standsBefore_85 : decode prog_5_method_7_code 85 = .ok (.aload_n 0, 1) := zD (q := (85, .aload_n 0, 1)) tx_sd_standsBefore_0 49 rfl
theorem d_sd_standsBefore_86 : decode prog_5_method_7_code 86 = .ok (.getfield 21, 3) := zD (q := (86, .getfield 21, 3)) tx_sd_standsBefore_0 50 rfl
theorem d_sd_standsBefore_89 : decode prog_5_method_7_code 89 = .ok (.iload_n 2, 1) := zD (q := (89, .iload_n 2, 1)) tx_sd_standsBefore_0 51 rfl
theorem d_sd_standsBefore_90 : decode prog_5_method_7_code 90 = .ok (.iaload, 1) := zD (q := (90, .iaload, 1)) tx_sd_standsBefore_0 52 rfl
theorem d_sd_standsBefore_91 : decode prog_5_method_7_code 91 = .ok (.if_icmp .le 7, 3) := zD (q := (91, .if_icmp .le 7, 3)) tx_sd_standsBefore_0 53 rfl
theorem d_sd_standsBefore_94 : decode prog_5_method_7_code 94 = .ok (.iconst 1, 1) := zD (q := (94, .iconst 1, 1)) tx_sd_standsBefore_0 54 rfl
theorem d_sd_standsBefore_95 : decode prog_5_method_7_code 95 = .ok (.goto 4, 3) := zD (q := (95, .goto 4, 3)) tx_sd_standsBefore_0 55 rfl
theorem d_sd_standsBefore_98 : decode prog_5_method_7_code 98 = .ok (.iconst 0, 1) := zD (q := (98, .iconst 0, 1)) tx_sd_standsBefore_0 56 rfl
theorem d_sd_standsBefore_99 : decode prog_5_method_7_code 99 = .ok (.ireturn, 1) := zD (q := (99, .ireturn, 1)) tx_sd_standsBefore_0 57 rfl
theorem d_sd_standsBefore_100 : decode prog_5_method_7_code 100 = .ok (.iload_n 1, 1) := zD (q := (100, .iload_n 1, 1)) tx_sd_standsBefore_0 58 rfl
theorem d_sd_standsBefore_101 : decode prog_5_method_7_code 101 = .ok (.iload_n 2, 1) := zD (q := (101, .iload_n 2, 1)) tx_sd_standsBefore_0 59 rfl
def T_sd_standsBefore_1 : List (Nat × Instr × Nat) := [(102, .if_icmp .ge 7, 3), (105, .iconst 1, 1), (106, .goto 4, 3), (109, .iconst 0, 1), (110, .ireturn, 1)]
theorem tx_sd_standsBefore_1 : zdec prog_5_method_7_code T_sd_standsBefore_1 = true := by decide +kernel
theorem d_sd_standsBefore_102 : decode prog_5_method_7_code 102 = .ok (.if_icmp .ge 7, 3) := zD (q := (102, .if_icmp .ge 7, 3)) tx_sd_standsBefore_1 0 rfl
theorem d_sd_standsBefore_105 : decode prog_5_method_7_code 105 = .ok (.iconst 1, 1) := zD (q := (105, .iconst 1, 1)) tx_sd_standsBefore_1 1 rfl
theorem d_sd_standsBefore_106 : decode prog_5_method_7_code 106 = .ok (.goto 4, 3) := zD (q := (106, .goto 4, 3)) tx_sd_standsBefore_1 2 rfl
theorem d_sd_standsBefore_109 : decode prog_5_method_7_code 109 = .ok (.iconst 0, 1) := zD (q := (109, .iconst 0, 1)) tx_sd_standsBefore_1 3 rfl
theorem d_sd_standsBefore_110 : decode prog_5_method_7_code 110 = .ok (.ireturn, 1) := zD (q := (110, .ireturn, 1)) tx_sd_standsBefore_1 4 rfl
def T_sd_points_0 : List (Nat × Instr × Nat) := [(0, .iconst 3, 1), (1, .aload_n 0, 1), (2, .getfield 9, 3), (5, .iload_n 1, 1), (6, .iaload, 1), (7, .imul, 1), (8, .aload_n 0, 1), (9, .getfield 15, 3), (12, .iload_n 1, 1), (13, .iaload, 1), (14, .iadd, 1), (15, .ireturn, 1)]
theorem tx_sd_points_0 : zdec prog_5_method_8_code T_sd_points_0 = true := by decide +kernel
theorem d_sd_points_0 : decode prog_5_method_8_code 0 = .ok (.iconst 3, 1) := zD (q := (0, .iconst 3, 1)) tx_sd_points_0 0 rfl
theorem d_sd_points_1 : decode prog_5_method_8_code 1 = .ok (.aload_n 0, 1) := zD (q := (1, .aload_n 0, 1)) tx_sd_points_0 1 rfl
theorem d_sd_points_2 : decode prog_5_method_8_code 2 = .ok (.getfield 9, 3) := zD (q := (2, .getfield 9, 3)) tx_sd_points_0 2 rfl
theorem d_sd_points_5 : decode prog_5_method_8_code 5 = .ok (.iload_n 1, 1) := zD (q := (5, .iload_n 1, 1)) tx_sd_points_0 3 rfl
theorem d_sd_points_6 : decode prog_5_method_8_code 6 = .ok (.iaload, 1) := zD (q := (6, .iaload, 1)) tx_sd_points_0 4 rfl
theorem d_sd_points_7 : decode prog_5_method_8_code 7 = .ok (.imul, 1) := zD (q := (7, .imul, 1)) tx_sd_points_0 5 rfl
theorem d_sd_points_8 : decode prog_5_method_8_code 8 = .ok (.aload_n 0, 1) := zD (q := (8, .aload_n 0, 1)) tx_sd_points_0 6 rfl
theorem d_sd_points_9 : decode prog_5_method_8_code 9 = .ok (.getfield 15, 3) := zD (q := (9, .getfield 15, 3)) tx_sd_points_0 7 rfl
theorem d_sd_points_12 : decode prog_5_method_8_code 12 = .ok (.iload_n 1, 1) := zD (q := (12, .iload_n 1, 1)) tx_sd_points_0 8 rfl
theorem d_sd_points_13 : decode prog_5_method_8_code 13 = .ok (.iaload, 1) := zD (q := (13, .iaload, 1)) tx_sd_points_0 9 rfl
theorem d_sd_points_14 : decode prog_5_method_8_code 14 = .ok (.iadd, 1) := zD (q := (14, .iadd, 1)) tx_sd_points_0 10 rfl
theorem d_sd_points_15 : decode prog_5_method_8_code 15 = .ok (.ireturn, 1) := zD (q := (15, .ireturn, 1)) tx_sd_points_0 11 rfl
def T_sd_difference_0 : List (Nat × Instr × Nat) := [(0, .aload_n 0, 1), (1, .getfield 21, 3), (4, .iload_n 1, 1), (5, .iaload, 1), (6, .aload_n 0, 1), (7, .getfield 24, 3), (10, .iload_n 1, 1), (11, .iaload, 1), (12, .isub, 1), (13, .ireturn, 1)]
theorem tx_sd_difference_0 : zdec prog_5_method_9_code T_sd_difference_0 = true := by decide +kernel
theorem d_sd_difference_0 : decode prog_5_method_9_code 0 = .ok (.aload_n 0, 1) := zD (q := (0, .aload_n 0, 1)) tx_sd_difference_0 0 rfl
theorem d_sd_difference_1 : decode prog_5_method_9_code 1 = .ok (.getfield 21, 3) := zD (q := (1, .getfield 21, 3)) tx_sd_difference_0 1 rfl
theorem d_sd_difference_4 : decode prog_5_method_9_code 4 = .ok (.iload_n 1, 1) := zD (q := (4, .iload_n 1, 1)) tx_sd_difference_0 2 rfl
theorem d_sd_difference_5 : decode prog_5_method_9_code 5 = .ok (.iaload, 1) := zD (q := (5, .iaload, 1)) tx_sd_difference_0 3 rfl
theorem d_sd_difference_6 : decode prog_5_method_9_code 6 = .ok (.aload_n 0, 1) := zD (q := (6, .aload_n 0, 1)) tx_sd_difference_0 4 rfl
theorem d_sd_difference_7 : decode prog_5_method_9_code 7 = .ok (.getfield 24, 3) := zD (q := (7, .getfield 24, 3)) tx_sd_difference_0 5 rfl
theorem d_sd_difference_10 : decode prog_5_method_9_code 10 = .ok (.iload_n 1, 1) := zD (q := (10, .iload_n 1, 1)) tx_sd_difference_0 6 rfl
theorem d_sd_difference_11 : decode prog_5_method_9_code 11 = .ok (.iaload, 1) := zD (q := (11, .iaload, 1)) tx_sd_difference_0 7 rfl
theorem d_sd_difference_12 : decode prog_5_method_9_code 12 = .ok (.isub, 1) := zD (q := (12, .isub, 1)) tx_sd_difference_0 8 rfl
theorem d_sd_difference_13 : decode prog_5_method_9_code 13 = .ok (.ireturn, 1) := zD (q := (13, .ireturn, 1)) tx_sd_difference_0 9 rfl
def T_sd_fieldOf_0 : List (Nat × Instr × Nat) := [(0, .iload_n 2, 1), (1, .tableswitch 101 0 6 #[43, 45, 66, 73, 80, 87, 94], 43), (44, .iload_n 1, 1), (45, .ireturn, 1), (46, .aload_n 0, 1), (47, .getfield 9, 3), (50, .iload_n 1, 1), (51, .iaload, 1), (52, .aload_n 0, 1), (53, .getfield 15, 3), (56, .iload_n 1, 1), (57, .iaload, 1), (58, .iadd, 1), (59, .aload_n 0, 1), (60, .getfield 18, 3), (63, .iload_n 1, 1), (64, .iaload, 1), (65, .iadd, 1), (66, .ireturn, 1), (67, .aload_n 0, 1), (68, .getfield 9, 3), (71, .iload_n 1, 1), (72, .iaload, 1), (73, .ireturn, 1), (74, .aload_n 0, 1), (75, .getfield 15, 3), (78, .iload_n 1, 1), (79, .iaload, 1), (80, .ireturn, 1), (81, .aload_n 0, 1), (82, .getfield 18, 3), (85, .iload_n 1, 1), (86, .iaload, 1), (87, .ireturn, 1), (88, .aload_n 0, 1), (89, .getfield 21, 3), (92, .iload_n 1, 1), (93, .iaload, 1), (94, .ireturn, 1), (95, .aload_n 0, 1), (96, .getfield 24, 3), (99, .iload_n 1, 1), (100, .iaload, 1), (101, .ireturn, 1), (102, .aload_n 0, 1), (103, .iload_n 1, 1), (104, .invokevirtual 45, 3), (107, .ireturn, 1)]
theorem tx_sd_fieldOf_0 : zdec prog_5_method_10_code T_sd_fieldOf_0 = true := by decide +kernel
theorem d_sd_fieldOf_0 : decode prog_5_method_10_code 0 = .ok (.iload_n 2, 1) := zD (q := (0, .iload_n 2, 1)) tx_sd_fieldOf_0 0 rfl
theorem d_sd_fieldOf_1 : decode prog_5_method_10_code 1 = .ok (.tableswitch 101 0 6 #[43, 45, 66, 73, 80, 87, 94], 43) := zD (q := (1, .tableswitch 101 0 6 #[43, 45, 66, 73, 80, 87, 94], 43)) tx_sd_fieldOf_0 1 rfl
theorem d_sd_fieldOf_44 : decode prog_5_method_10_code 44 = .ok (.iload_n 1, 1) := zD (q := (44, .iload_n 1, 1)) tx_sd_fieldOf_0 2 rfl
theorem d_sd_fieldOf_45 : decode prog_5_method_10_code 45 = .ok (.ireturn, 1) := zD (q := (45, .ireturn, 1)) tx_sd_fieldOf_0 3 rfl
theorem d_sd_fieldOf_46 : decode prog_5_method_10_code 46 = .ok (.aload_n 0, 1) := zD (q := (46, .aload_n 0, 1)) tx_sd_fieldOf_0 4 rfl
theorem d_sd_fieldOf_47 : decode prog_5_method_10_code 47 = .ok (.getfield 9, 3) := zD (q := (47, .getfield 9, 3)) tx_sd_fieldOf_0 5 rfl
theorem d_sd_fieldOf_50 : decode prog_5_method_10_code 50 = .ok (.iload_n 1, 1) := zD (q := (50, .iload_n 1, 1)) tx_sd_fieldOf_0 6 rfl
theorem d_sd_fieldOf_51 : decode prog_5_method_10_code 51 = .ok (.iaload, 1) := zD (q := (51, .iaload, 1)) tx_sd_fieldOf_0 7 rfl
theorem d_sd_fieldOf_52 : decode prog_5_method_10_code 52 = .ok (.aload_n 0, 1) := zD (q := (52, .aload_n 0, 1)) tx_sd_fieldOf_0 8 rfl
theorem d_sd_fieldOf_53 : decode prog_5_method_10_code 53 = .ok (.getfield 15, 3) := zD (q := (53, .getfield 15, 3)) tx_sd_fieldOf_0 9 rfl
theorem d_sd_fieldOf_56 : decode prog_5_method_10_code 56 = .ok (.iload_n 1, 1) := zD (q := (56, .iload_n 1, 1)) tx_sd_fieldOf_0 10 rfl
theorem d_sd_fieldOf_57 : decode prog_5_method_10_code 57 = .ok (.iaload, 1) := zD (q := (57, .iaload, 1)) tx_sd_fieldOf_0 11 rfl
theorem d_sd_fieldOf_58 : decode prog_5_method_10_code 58 = .ok (.iadd, 1) := zD (q := (58, .iadd, 1)) tx_sd_fieldOf_0 12 rfl
theorem d_sd_fieldOf_59 : decode prog_5_method_10_code 59 = .ok (.aload_n 0, 1) := zD (q := (59, .aload_n 0, 1)) tx_sd_fieldOf_0 13 rfl
theorem d_sd_fieldOf_60 : decode prog_5_method_10_code 60 = .ok (.getfield 18, 3) := zD (q := (60, .getfield 18, 3)) tx_sd_fieldOf_0 14 rfl
theorem d_sd_fieldOf_63 : decode prog_5_method_10_code 63 = .ok (.iload_n 1, 1) := zD (q := (63, .iload_n 1, 1)) tx_sd_fieldOf_0 15 rfl
theorem d_sd_fieldOf_64 : decode prog_5_method_10_code 64 = .ok (.iaload, 1) := zD (q := (64, .iaload, 1)) tx_sd_fieldOf_0 16 rfl
theorem d_sd_fieldOf_65 : decode prog_5_method_10_code 65 = .ok (.iadd, 1) := zD (q := (65, .iadd, 1)) tx_sd_fieldOf_0 17 rfl
theorem d_sd_fieldOf_66 : decode prog_5_method_10_code 66 = .ok (.ireturn, 1) := zD (q := (66, .ireturn, 1)) tx_sd_fieldOf_0 18 rfl
theorem d_sd_fieldOf_67 : decode prog_5_method_10_code 67 = .ok (.aload_n 0, 1) := zD (q := (67, .aload_n 0, 1)) tx_sd_fieldOf_0 19 rfl
theorem d_sd_fieldOf_68 : decode prog_5_method_10_code 68 = .ok (.getfield 9, 3) := zD (q := (68, .getfield 9, 3)) tx_sd_fieldOf_0 20 rfl
theorem d_sd_fieldOf_71 : decode prog_5_method_10_code 71 = .ok (.iload_n 1, 1) := zD (q := (71, .iload_n 1, 1)) tx_sd_fieldOf_0 21 rfl
theorem d_sd_fieldOf_72 : decode prog_5_method_10_code 72 = .ok (.iaload, 1) := zD (q := (72, .iaload, 1)) tx_sd_fieldOf_0 22 rfl
theorem d_sd_fieldOf_73 : decode prog_5_method_10_code 73 = .ok (.ireturn, 1) := zD (q := (73, .ireturn, 1)) tx_sd_fieldOf_0 23 rfl
theorem d_sd_fieldOf_74 : decode prog_5_method_10_code 74 = .ok (.aload_n 0, 1) := zD (q := (74, .aload_n 0, 1)) tx_sd_fieldOf_0 24 rfl
theorem d_sd_fieldOf_75 : decode prog_5_method_10_code 75 = .ok (.getfield 15, 3) := zD (q := (75, .getfield 15, 3)) tx_sd_fieldOf_0 25 rfl
theorem d_sd_fieldOf_78 : decode prog_5_method_10_code 78 = .ok (.iload_n 1, 1) := zD (q := (78, .iload_n 1, 1)) tx_sd_fieldOf_0 26 rfl
theorem d_sd_fieldOf_79 : decode prog_5_method_10_code 79 = .ok (.iaload, 1) := zD (q := (79, .iaload, 1)) tx_sd_fieldOf_0 27 rfl
theorem d_sd_fieldOf_80 : decode prog_5_method_10_code 80 = .ok (.ireturn, 1) := zD (q := (80, .ireturn, 1)) tx_sd_fieldOf_0 28 rfl
theorem d_sd_fieldOf_81 : decode prog_5_method_10_code 81 = .ok (.aload_n 0, 1) := zD (q := (81, .aload_n 0, 1)) tx_sd_fieldOf_0 29 rfl
theorem d_sd_fieldOf_82 : decode prog_5_method_10_code 82 = .ok (.getfield 18, 3) := zD (q := (82, .getfield 18, 3)) tx_sd_fieldOf_0 30 rfl
theorem d_sd_fieldOf_85 : decode prog_5_method_10_code 85 = .ok (.iload_n 1, 1) := zD (q := (85, .iload_n 1, 1)) tx_sd_fieldOf_0 31 rfl
theorem d_sd_fieldOf_86 : decode prog_5_method_10_code 86 = .ok (.iaload, 1) := zD (q := (86, .iaload, 1)) tx_sd_fieldOf_0 32 rfl
theorem d_sd_fieldOf_87 : decode prog_5_method_10_code 87 = .ok (.ireturn, 1) := zD (q := (87, .ireturn, 1)) tx_sd_fieldOf_0 33 rfl
theorem d_sd_fieldOf_88 : decode prog_5_method_10_code 88 = .ok (.aload_n 0, 1) := zD (q := (88, .aload_n 0, 1)) tx_sd_fieldOf_0 34 rfl
theorem d_sd_fieldOf_89 : decode prog_5_method_10_code 89 = .ok (.getfield 21, 3) := zD (q := (89, .getfield 21, 3)) tx_sd_fieldOf_0 35 rfl
theorem d_sd_fieldOf_92 : decode prog_5_method_10_code 92 = .ok (.iload_n 1, 1) := zD (q := (92, .iload_n 1, 1)) tx_sd_fieldOf_0 36 rfl
theorem d_sd_fieldOf_93 : decode prog_5_method_10_code 93 = .ok (.iaload, 1) := zD (q := (93, .iaload, 1)) tx_sd_fieldOf_0 37 rfl
theorem d_sd_fieldOf_94 : decode prog_5_method_10_code 94 = .ok (.ireturn, 1) := zD (q := (94, .ireturn, 1)) tx_sd_fieldOf_0 38 rfl
theorem d_sd_fieldOf_95 : decode prog_5_method_10_code 95 = .ok (.aload_n 0, 1) := zD (q := (95, .aload_n 0, 1)) tx_sd_fieldOf_0 39 rfl
theorem d_sd_fieldOf_96 : decode prog_5_method_10_code 96 = .ok (.getfield 24, 3) := zD (q := (96, .getfield 24, 3)) tx_sd_fieldOf_0 40 rfl
theorem d_sd_fieldOf_99 : decode prog_5_method_10_code 99 = .ok (.iload_n 1, 1) := zD (q := (99, .iload_n 1, 1)) tx_sd_fieldOf_0 41 rfl
theorem d_sd_fieldOf_100 : decode prog_5_method_10_code 100 = .ok (.iaload, 1) := zD (q := (100, .iaload, 1)) tx_sd_fieldOf_0 42 rfl
theorem d_sd_fieldOf_101 : decode prog_5_method_10_code 101 = .ok (.ireturn, 1) := zD (q := (101, .ireturn, 1)) tx_sd_fieldOf_0 43 rfl
theorem d_sd_fieldOf_102 : decode prog_5_method_10_code 102 = .ok (.aload_n 0, 1) := zD (q := (102, .aload_n 0, 1)) tx_sd_fieldOf_0 44 rfl
theorem d_sd_fieldOf_103 : decode prog_5_method_10_code 103 = .ok (.iload_n 1, 1) := zD (q := (103, .iload_n 1, 1)) tx_sd_fieldOf_0 45 rfl
theorem d_sd_fieldOf_104 : decode prog_5_method_10_code 104 = .ok (.invokevirtual 45, 3) := zD (q := (104, .invokevirtual 45, 3)) tx_sd_fieldOf_0 46 rfl
theorem d_sd_fieldOf_107 : decode prog_5_method_10_code 107 = .ok (.ireturn, 1) := zD (q := (107, .ireturn, 1)) tx_sd_fieldOf_0 47 rfl
