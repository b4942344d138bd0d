/-! decode rows (written by wip/gen/data.py) -/
def T_lw_teams_0 : List (Nat × Instr × Nat) := [(0, .aload_n 0, 1), (1, .iload_n 1, 1), (2, .invokevirtual 7, 3), (5, .goto 6, 3), (8, .astore_n 2, 1), (9, .iconst 1, 1), (10, .ireturn, 1), (11, .iconst 0, 1), (12, .ireturn, 1)]
theorem tx_lw_teams_0 : zdec method_3_code T_lw_teams_0 = true := by decide +kernel
theorem d_lw_teams_0 : decode method_3_code 0 = .ok (.aload_n 0, 1) := zD (q := (0, .aload_n 0, 1)) tx_lw_teams_0 0 rfl
theorem d_lw_teams_1 : decode method_3_code 1 = .ok (.iload_n 1, 1) := zD (q := (1, .iload_n 1, 1)) tx_lw_teams_0 1 rfl
theorem d_lw_teams_2 : decode method_3_code 2 = .ok (.invokevirtual 7, 3) := zD (q := (2, .invokevirtual 7, 3)) tx_lw_teams_0 2 rfl
theorem d_lw_teams_5 : decode method_3_code 5 = .ok (.goto 6, 3) := zD (q := (5, .goto 6, 3)) tx_lw_teams_0 3 rfl
theorem d_lw_teams_8 : decode method_3_code 8 = .ok (.astore_n 2, 1) := zD (q := (8, .astore_n 2, 1)) tx_lw_teams_0 4 rfl
theorem d_lw_teams_9 : decode method_3_code 9 = .ok (.iconst 1, 1) := zD (q := (9, .iconst 1, 1)) tx_lw_teams_0 5 rfl
theorem d_lw_teams_10 : decode method_3_code 10 = .ok (.ireturn, 1) := zD (q := (10, .ireturn, 1)) tx_lw_teams_0 6 rfl
theorem d_lw_teams_11 : decode method_3_code 11 = .ok (.iconst 0, 1) := zD (q := (11, .iconst 0, 1)) tx_lw_teams_0 7 rfl
theorem d_lw_teams_12 : decode method_3_code 12 = .ok (.ireturn, 1) := zD (q := (12, .ireturn, 1)) tx_lw_teams_0 8 rfl
def T_lw_ban_0 : List (Nat × Instr × Nat) := [(0, .aload 4, 2), (2, .iconst 0, 1), (3, .aload_n 0, 1), (4, .iload_n 1, 1), (5, .iload_n 2, 1), (6, .iload_n 3, 1), (7, .invokevirtual 15, 3), (10, .i2l, 1), (11, .lastore, 1), (12, .goto 7, 3), (15, .astore 5, 2), (17, .iconst 1, 1), (18, .ireturn, 1), (19, .iconst 0, 1), (20, .ireturn, 1)]
theorem tx_lw_ban_0 : zdec method_4_code T_lw_ban_0 = true := by decide +kernel
theorem d_lw_ban_0 : decode method_4_code 0 = .ok (.aload 4, 2) := zD (q := (0, .aload 4, 2)) tx_lw_ban_0 0 rfl
theorem d_lw_ban_2 : decode method_4_code 2 = .ok (.iconst 0, 1) := zD (q := (2, .iconst 0, 1)) tx_lw_ban_0 1 rfl
theorem d_lw_ban_3 : decode method_4_code 3 = .ok (.aload_n 0, 1) := zD (q := (3, .aload_n 0, 1)) tx_lw_ban_0 2 rfl
theorem d_lw_ban_4 : decode method_4_code 4 = .ok (.iload_n 1, 1) := zD (q := (4, .iload_n 1, 1)) tx_lw_ban_0 3 rfl
theorem d_lw_ban_5 : decode method_4_code 5 = .ok (.iload_n 2, 1) := zD (q := (5, .iload_n 2, 1)) tx_lw_ban_0 4 rfl
theorem d_lw_ban_6 : decode method_4_code 6 = .ok (.iload_n 3, 1) := zD (q := (6, .iload_n 3, 1)) tx_lw_ban_0 5 rfl
theorem d_lw_ban_7 : decode method_4_code 7 = .ok (.invokevirtual 15, 3) := zD (q := (7, .invokevirtual 15, 3)) tx_lw_ban_0 6 rfl
theorem d_lw_ban_10 : decode method_4_code 10 = .ok (.i2l, 1) := zD (q := (10, .i2l, 1)) tx_lw_ban_0 7 rfl
theorem d_lw_ban_11 : decode method_4_code 11 = .ok (.lastore, 1) := zD (q := (11, .lastore, 1)) tx_lw_ban_0 8 rfl
theorem d_lw_ban_12 : decode method_4_code 12 = .ok (.goto 7, 3) := zD (q := (12, .goto 7, 3)) tx_lw_ban_0 9 rfl
theorem d_lw_ban_15 : decode method_4_code 15 = .ok (.astore 5, 2) := zD (q := (15, .astore 5, 2)) tx_lw_ban_0 10 rfl
theorem d_lw_ban_17 : decode method_4_code 17 = .ok (.iconst 1, 1) := zD (q := (17, .iconst 1, 1)) tx_lw_ban_0 11 rfl
theorem d_lw_ban_18 : decode method_4_code 18 = .ok (.ireturn, 1) := zD (q := (18, .ireturn, 1)) tx_lw_ban_0 12 rfl
theorem d_lw_ban_19 : decode method_4_code 19 = .ok (.iconst 0, 1) := zD (q := (19, .iconst 0, 1)) tx_lw_ban_0 13 rfl
theorem d_lw_ban_20 : decode method_4_code 20 = .ok (.ireturn, 1) := zD (q := (20, .ireturn, 1)) tx_lw_ban_0 14 rfl
def T_lw_shareGround_0 : List (Nat × Instr × Nat) := [(0, .aload_n 3, 1), (1, .iconst 0, 1), (2, .aload_n 0, 1), (3, .iload_n 1, 1), (4, .iload_n 2, 1), (5, .invokevirtual 19, 3), (8, .i2l, 1), (9, .lastore, 1), (10, .goto 11, 3), (13, .astore 4, 2), (15, .iconst 1, 1), (16, .ireturn, 1), (17, .astore 4, 2), (19, .iconst 2, 1), (20, .ireturn, 1), (21, .iconst 0, 1), (22, .ireturn, 1)]
theorem tx_lw_shareGround_0 : zdec method_5_code T_lw_shareGround_0 = true := by decide +kernel
theorem d_lw_shareGround_0 : decode method_5_code 0 = .ok (.aload_n 3, 1) := zD (q := (0, .aload_n 3, 1)) tx_lw_shareGround_0 0 rfl
theorem d_lw_shareGround_1 : decode method_5_code 1 = .ok (.iconst 0, 1) := zD (q := (1, .iconst 0, 1)) tx_lw_shareGround_0 1 rfl
theorem d_lw_shareGround_2 : decode method_5_code 2 = .ok (.aload_n 0, 1) := zD (q := (2, .aload_n 0, 1)) tx_lw_shareGround_0 2 rfl
theorem d_lw_shareGround_3 : decode method_5_code 3 = .ok (.iload_n 1, 1) := zD (q := (3, .iload_n 1, 1)) tx_lw_shareGround_0 3 rfl
theorem d_lw_shareGround_4 : decode method_5_code 4 = .ok (.iload_n 2, 1) := zD (q := (4, .iload_n 2, 1)) tx_lw_shareGround_0 4 rfl
theorem d_lw_shareGround_5 : decode method_5_code 5 = .ok (.invokevirtual 19, 3) := zD (q := (5, .invokevirtual 19, 3)) tx_lw_shareGround_0 5 rfl
theorem d_lw_shareGround_8 : decode method_5_code 8 = .ok (.i2l, 1) := zD (q := (8, .i2l, 1)) tx_lw_shareGround_0 6 rfl
theorem d_lw_shareGround_9 : decode method_5_code 9 = .ok (.lastore, 1) := zD (q := (9, .lastore, 1)) tx_lw_shareGround_0 7 rfl
theorem d_lw_shareGround_10 : decode method_5_code 10 = .ok (.goto 11, 3) := zD (q := (10, .goto 11, 3)) tx_lw_shareGround_0 8 rfl
theorem d_lw_shareGround_13 : decode method_5_code 13 = .ok (.astore 4, 2) := zD (q := (13, .astore 4, 2)) tx_lw_shareGround_0 9 rfl
theorem d_lw_shareGround_15 : decode method_5_code 15 = .ok (.iconst 1, 1) := zD (q := (15, .iconst 1, 1)) tx_lw_shareGround_0 10 rfl
theorem d_lw_shareGround_16 : decode method_5_code 16 = .ok (.ireturn, 1) := zD (q := (16, .ireturn, 1)) tx_lw_shareGround_0 11 rfl
theorem d_lw_shareGround_17 : decode method_5_code 17 = .ok (.astore 4, 2) := zD (q := (17, .astore 4, 2)) tx_lw_shareGround_0 12 rfl
theorem d_lw_shareGround_19 : decode method_5_code 19 = .ok (.iconst 2, 1) := zD (q := (19, .iconst 2, 1)) tx_lw_shareGround_0 13 rfl
theorem d_lw_shareGround_20 : decode method_5_code 20 = .ok (.ireturn, 1) := zD (q := (20, .ireturn, 1)) tx_lw_shareGround_0 14 rfl
theorem d_lw_shareGround_21 : decode method_5_code 21 = .ok (.iconst 0, 1) := zD (q := (21, .iconst 0, 1)) tx_lw_shareGround_0 15 rfl
theorem d_lw_shareGround_22 : decode method_5_code 22 = .ok (.ireturn, 1) := zD (q := (22, .ireturn, 1)) tx_lw_shareGround_0 16 rfl
def T_lw_fixGame_0 : List (Nat × Instr × Nat) := [(0, .aload 4, 2), (2, .iconst 0, 1), (3, .aload_n 0, 1), (4, .iload_n 1, 1), (5, .iload_n 2, 1), (6, .iload_n 3, 1), (7, .invokevirtual 25, 3), (10, .i2l, 1), (11, .lastore, 1), (12, .goto 11, 3), (15, .astore 5, 2), (17, .iconst 1, 1), (18, .ireturn, 1), (19, .astore 5, 2), (21, .iconst 2, 1), (22, .ireturn, 1), (23, .iconst 0, 1), (24, .ireturn, 1)]
theorem tx_lw_fixGame_0 : zdec method_6_code T_lw_fixGame_0 = true := by decide +kernel
theorem d_lw_fixGame_0 : decode method_6_code 0 = .ok (.aload 4, 2) := zD (q := (0, .aload 4, 2)) tx_lw_fixGame_0 0 rfl
theorem d_lw_fixGame_2 : decode method_6_code 2 = .ok (.iconst 0, 1) := zD (q := (2, .iconst 0, 1)) tx_lw_fixGame_0 1 rfl
theorem d_lw_fixGame_3 : decode method_6_code 3 = .ok (.aload_n 0, 1) := zD (q := (3, .aload_n 0, 1)) tx_lw_fixGame_0 2 rfl
theorem d_lw_fixGame_4 : decode method_6_code 4 = .ok (.iload_n 1, 1) := zD (q := (4, .iload_n 1, 1)) tx_lw_fixGame_0 3 rfl
theorem d_lw_fixGame_5 : decode method_6_code 5 = .ok (.iload_n 2, 1) := zD (q := (5, .iload_n 2, 1)) tx_lw_fixGame_0 4 rfl
theorem d_lw_fixGame_6 : decode method_6_code 6 = .ok (.iload_n 3, 1) := zD (q := (6, .iload_n 3, 1)) tx_lw_fixGame_0 5 rfl
theorem d_lw_fixGame_7 : decode method_6_code 7 = .ok (.invokevirtual 25, 3) := zD (q := (7, .invokevirtual 25, 3)) tx_lw_fixGame_0 6 rfl
theorem d_lw_fixGame_10 : decode method_6_code 10 = .ok (.i2l, 1) := zD (q := (10, .i2l, 1)) tx_lw_fixGame_0 7 rfl
theorem d_lw_fixGame_11 : decode method_6_code 11 = .ok (.lastore, 1) := zD (q := (11, .lastore, 1)) tx_lw_fixGame_0 8 rfl
theorem d_lw_fixGame_12 : decode method_6_code 12 = .ok (.goto 11, 3) := zD (q := (12, .goto 11, 3)) tx_lw_fixGame_0 9 rfl
theorem d_lw_fixGame_15 : decode method_6_code 15 = .ok (.astore 5, 2) := zD (q := (15, .astore 5, 2)) tx_lw_fixGame_0 10 rfl
theorem d_lw_fixGame_17 : decode method_6_code 17 = .ok (.iconst 1, 1) := zD (q := (17, .iconst 1, 1)) tx_lw_fixGame_0 11 rfl
theorem d_lw_fixGame_18 : decode method_6_code 18 = .ok (.ireturn, 1) := zD (q := (18, .ireturn, 1)) tx_lw_fixGame_0 12 rfl
theorem d_lw_fixGame_19 : decode method_6_code 19 = .ok (.astore 5, 2) := zD (q := (19, .astore 5, 2)) tx_lw_fixGame_0 13 rfl
theorem d_lw_fixGame_21 : decode method_6_code 21 = .ok (.iconst 2, 1) := zD (q := (21, .iconst 2, 1)) tx_lw_fixGame_0 14 rfl
theorem d_lw_fixGame_22 : decode method_6_code 22 = .ok (.ireturn, 1) := zD (q := (22, .ireturn, 1)) tx_lw_fixGame_0 15 rfl
theorem d_lw_fixGame_23 : decode method_6_code 23 = .ok (.iconst 0, 1) := zD (q := (23, .iconst 0, 1)) tx_lw_fixGame_0 16 rfl
theorem d_lw_fixGame_24 : decode method_6_code 24 = .ok (.ireturn, 1) := zD (q := (24, .ireturn, 1)) tx_lw_fixGame_0 17 rfl
def T_lw_awayCap_0 : List (Nat × Instr × Nat) := [(0, .aload_n 0, 1), (1, .iload_n 1, 1), (2, .invokevirtual 28, 3), (5, .goto 6, 3), (8, .astore_n 2, 1), (9, .iconst 1, 1), (10, .ireturn, 1), (11, .iconst 0, 1), (12, .ireturn, 1)]
theorem tx_lw_awayCap_0 : zdec method_7_code T_lw_awayCap_0 = true := by decide +kernel
theorem d_lw_awayCap_0 : decode method_7_code 0 = .ok (.aload_n 0, 1) := zD (q := (0, .aload_n 0, 1)) tx_lw_awayCap_0 0 rfl
theorem d_lw_awayCap_1 : decode method_7_code 1 = .ok (.iload_n 1, 1) := zD (q := (1, .iload_n 1, 1)) tx_lw_awayCap_0 1 rfl
theorem d_lw_awayCap_2 : decode method_7_code 2 = .ok (.invokevirtual 28, 3) := zD (q := (2, .invokevirtual 28, 3)) tx_lw_awayCap_0 2 rfl
theorem d_lw_awayCap_5 : decode method_7_code 5 = .ok (.goto 6, 3) := zD (q := (5, .goto 6, 3)) tx_lw_awayCap_0 3 rfl
theorem d_lw_awayCap_8 : decode method_7_code 8 = .ok (.astore_n 2, 1) := zD (q := (8, .astore_n 2, 1)) tx_lw_awayCap_0 4 rfl
theorem d_lw_awayCap_9 : decode method_7_code 9 = .ok (.iconst 1, 1) := zD (q := (9, .iconst 1, 1)) tx_lw_awayCap_0 5 rfl
theorem d_lw_awayCap_10 : decode method_7_code 10 = .ok (.ireturn, 1) := zD (q := (10, .ireturn, 1)) tx_lw_awayCap_0 6 rfl
theorem d_lw_awayCap_11 : decode method_7_code 11 = .ok (.iconst 0, 1) := zD (q := (11, .iconst 0, 1)) tx_lw_awayCap_0 7 rfl
theorem d_lw_awayCap_12 : decode method_7_code 12 = .ok (.ireturn, 1) := zD (q := (12, .ireturn, 1)) tx_lw_awayCap_0 8 rfl
def T_lw_make_0 : List (Nat × Instr × Nat) := [(0, .aload_n 2, 1), (1, .iconst 0, 1), (2, .aload_n 0, 1), (3, .iload_n 1, 1), (4, .invokevirtual 31, 3), (7, .i2l, 1), (8, .lastore, 1), (9, .goto 9, 3), (12, .astore_n 3, 1), (13, .iconst 1, 1), (14, .ireturn, 1), (15, .astore_n 3, 1), (16, .iconst 2, 1), (17, .ireturn, 1), (18, .iconst 0, 1), (19, .ireturn, 1)]
theorem tx_lw_make_0 : zdec method_8_code T_lw_make_0 = true := by decide +kernel
theorem d_lw_make_0 : decode method_8_code 0 = .ok (.aload_n 2, 1) := zD (q := (0, .aload_n 2, 1)) tx_lw_make_0 0 rfl
theorem d_lw_make_1 : decode method_8_code 1 = .ok (.iconst 0, 1) := zD (q := (1, .iconst 0, 1)) tx_lw_make_0 1 rfl
theorem d_lw_make_2 : decode method_8_code 2 = .ok (.aload_n 0, 1) := zD (q := (2, .aload_n 0, 1)) tx_lw_make_0 2 rfl
theorem d_lw_make_3 : decode method_8_code 3 = .ok (.iload_n 1, 1) := zD (q := (3, .iload_n 1, 1)) tx_lw_make_0 3 rfl
theorem d_lw_make_4 : decode method_8_code 4 = .ok (.invokevirtual 31, 3) := zD (q := (4, .invokevirtual 31, 3)) tx_lw_make_0 4 rfl
theorem d_lw_make_7 : decode method_8_code 7 = .ok (.i2l, 1) := zD (q := (7, .i2l, 1)) tx_lw_make_0 5 rfl
theorem d_lw_make_8 : decode method_8_code 8 = .ok (.lastore, 1) := zD (q := (8, .lastore, 1)) tx_lw_make_0 6 rfl
theorem d_lw_make_9 : decode method_8_code 9 = .ok (.goto 9, 3) := zD (q := (9, .goto 9, 3)) tx_lw_make_0 7 rfl
theorem d_lw_make_12 : decode method_8_code 12 = .ok (.astore_n 3, 1) := zD (q := (12, .astore_n 3, 1)) tx_lw_make_0 8 rfl
theorem d_lw_make_13 : decode method_8_code 13 = .ok (.iconst 1, 1) := zD (q := (13, .iconst 1, 1)) tx_lw_make_0 9 rfl
theorem d_lw_make_14 : decode method_8_code 14 = .ok (.ireturn, 1) := zD (q := (14, .ireturn, 1)) tx_lw_make_0 10 rfl
theorem d_lw_make_15 : decode method_8_code 15 = .ok (.astore_n 3, 1) := zD (q := (15, .astore_n 3, 1)) tx_lw_make_0 11 rfl
theorem d_lw_make_16 : decode method_8_code 16 = .ok (.iconst 2, 1) := zD (q := (16, .iconst 2, 1)) tx_lw_make_0 12 rfl
theorem d_lw_make_17 : decode method_8_code 17 = .ok (.ireturn, 1) := zD (q := (17, .ireturn, 1)) tx_lw_make_0 13 rfl
theorem d_lw_make_18 : decode method_8_code 18 = .ok (.iconst 0, 1) := zD (q := (18, .iconst 0, 1)) tx_lw_make_0 14 rfl
theorem d_lw_make_19 : decode method_8_code 19 = .ok (.ireturn, 1) := zD (q := (19, .ireturn, 1)) tx_lw_make_0 15 rfl
def T_lw_opponent_0 : List (Nat × Instr × Nat) := [(0, .aload_n 3, 1), (1, .iconst 0, 1), (2, .aload_n 0, 1), (3, .iload_n 1, 1), (4, .iload_n 2, 1), (5, .invokevirtual 35, 3), (8, .i2l, 1), (9, .lastore, 1), (10, .goto 7, 3), (13, .astore 4, 2), (15, .iconst 1, 1), (16, .ireturn, 1), (17, .iconst 0, 1), (18, .ireturn, 1)]
theorem tx_lw_opponent_0 : zdec method_9_code T_lw_opponent_0 = true := by decide +kernel
theorem d_lw_opponent_0 : decode method_9_code 0 = .ok (.aload_n 3, 1) := zD (q := (0, .aload_n 3, 1)) tx_lw_opponent_0 0 rfl
theorem d_lw_opponent_1 : decode method_9_code 1 = .ok (.iconst 0, 1) := zD (q := (1, .iconst 0, 1)) tx_lw_opponent_0 1 rfl
theorem d_lw_opponent_2 : decode method_9_code 2 = .ok (.aload_n 0, 1) := zD (q := (2, .aload_n 0, 1)) tx_lw_opponent_0 2 rfl
theorem d_lw_opponent_3 : decode method_9_code 3 = .ok (.iload_n 1, 1) := zD (q := (3, .iload_n 1, 1)) tx_lw_opponent_0 3 rfl
theorem d_lw_opponent_4 : decode method_9_code 4 = .ok (.iload_n 2, 1) := zD (q := (4, .iload_n 2, 1)) tx_lw_opponent_0 4 rfl
theorem d_lw_opponent_5 : decode method_9_code 5 = .ok (.invokevirtual 35, 3) := zD (q := (5, .invokevirtual 35, 3)) tx_lw_opponent_0 5 rfl
theorem d_lw_opponent_8 : decode method_9_code 8 = .ok (.i2l, 1) := zD (q := (8, .i2l, 1)) tx_lw_opponent_0 6 rfl
theorem d_lw_opponent_9 : decode method_9_code 9 = .ok (.lastore, 1) := zD (q := (9, .lastore, 1)) tx_lw_opponent_0 7 rfl
theorem d_lw_opponent_10 : decode method_9_code 10 = .ok (.goto 7, 3) := zD (q := (10, .goto 7, 3)) tx_lw_opponent_0 8 rfl
theorem d_lw_opponent_13 : decode method_9_code 13 = .ok (.astore 4, 2) := zD (q := (13, .astore 4, 2)) tx_lw_opponent_0 9 rfl
theorem d_lw_opponent_15 : decode method_9_code 15 = .ok (.iconst 1, 1) := zD (q := (15, .iconst 1, 1)) tx_lw_opponent_0 10 rfl
theorem d_lw_opponent_16 : decode method_9_code 16 = .ok (.ireturn, 1) := zD (q := (16, .ireturn, 1)) tx_lw_opponent_0 11 rfl
theorem d_lw_opponent_17 : decode method_9_code 17 = .ok (.iconst 0, 1) := zD (q := (17, .iconst 0, 1)) tx_lw_opponent_0 12 rfl
theorem d_lw_opponent_18 : decode method_9_code 18 = .ok (.ireturn, 1) := zD (q := (18, .ireturn, 1)) tx_lw_opponent_0 13 rfl
def T_lw_venue_0 : List (Nat × Instr × Nat) := [(0, .aload_n 3, 1), (1, .iconst 0, 1), (2, .aload_n 0, 1), (3, .iload_n 1, 1), (4, .iload_n 2, 1), (5, .invokevirtual 40, 3), (8, .i2l, 1), (9, .lastore, 1), (10, .goto 7, 3), (13, .astore 4, 2), (15, .iconst 1, 1), (16, .ireturn, 1), (17, .iconst 0, 1), (18, .ireturn, 1)]
theorem tx_lw_venue_0 : zdec method_10_code T_lw_venue_0 = true := by decide +kernel
theorem d_lw_venue_0 : decode method_10_code 0 = .ok (.aload_n 3, 1) := zD (q := (0, .aload_n 3, 1)) tx_lw_venue_0 0 rfl
theorem d_lw_venue_1 : decode method_10_code 1 = .ok (.iconst 0, 1) := zD (q := (1, .iconst 0, 1)) tx_lw_venue_0 1 rfl
theorem d_lw_venue_2 : decode method_10_code 2 = .ok (.aload_n 0, 1) := zD (q := (2, .aload_n 0, 1)) tx_lw_venue_0 2 rfl
theorem d_lw_venue_3 : decode method_10_code 3 = .ok (.iload_n 1, 1) := zD (q := (3, .iload_n 1, 1)) tx_lw_venue_0 3 rfl
theorem d_lw_venue_4 : decode method_10_code 4 = .ok (.iload_n 2, 1) := zD (q := (4, .iload_n 2, 1)) tx_lw_venue_0 4 rfl
theorem d_lw_venue_5 : decode method_10_code 5 = .ok (.invokevirtual 40, 3) := zD (q := (5, .invokevirtual 40, 3)) tx_lw_venue_0 5 rfl
theorem d_lw_venue_8 : decode method_10_code 8 = .ok (.i2l, 1) := zD (q := (8, .i2l, 1)) tx_lw_venue_0 6 rfl
theorem d_lw_venue_9 : decode method_10_code 9 = .ok (.lastore, 1) := zD (q := (9, .lastore, 1)) tx_lw_venue_0 7 rfl
theorem d_lw_venue_10 : decode method_10_code 10 = .ok (.goto 7, 3) := zD (q := (10, .goto 7, 3)) tx_lw_venue_0 8 rfl
theorem d_lw_venue_13 : decode method_10_code 13 = .ok (.astore 4, 2) := zD (q := (13, .astore 4, 2)) tx_lw_venue_0 9 rfl
theorem d_lw_venue_15 : decode method_10_code 15 = .ok (.iconst 1, 1) := zD (q := (15, .iconst 1, 1)) tx_lw_venue_0 10 rfl
theorem d_lw_venue_16 : decode method_10_code 16 = .ok (.ireturn, 1) := zD (q := (16, .ireturn, 1)) tx_lw_venue_0 11 rfl
theorem d_lw_venue_17 : decode method_10_code 17 = .ok (.iconst 0, 1) := zD (q := (17, .iconst 0, 1)) tx_lw_venue_0 12 rfl
theorem d_lw_venue_18 : decode method_10_code 18 = .ok (.ireturn, 1) := zD (q := (18, .ireturn, 1)) tx_lw_venue_0 13 rfl
def T_lw_breaks_0 : List (Nat × Instr × Nat) := [(0, .aload_n 2, 1), (1, .iconst 0, 1), (2, .aload_n 0, 1), (3, .iload_n 1, 1), (4, .invokevirtual 43, 3), (7, .i2l, 1), (8, .lastore, 1), (9, .goto 6, 3), (12, .astore_n 3, 1), (13, .iconst 1, 1), (14, .ireturn, 1), (15, .iconst 0, 1), (16, .ireturn, 1)]
theorem tx_lw_breaks_0 : zdec method_11_code T_lw_breaks_0 = true := by decide +kernel
theorem d_lw_breaks_0 : decode method_11_code 0 = .ok (.aload_n 2, 1) := zD (q := (0, .aload_n 2, 1)) tx_lw_breaks_0 0 rfl
theorem d_lw_breaks_1 : decode method_11_code 1 = .ok (.iconst 0, 1) := zD (q := (1, .iconst 0, 1)) tx_lw_breaks_0 1 rfl
theorem d_lw_breaks_2 : decode method_11_code 2 = .ok (.aload_n 0, 1) := zD (q := (2, .aload_n 0, 1)) tx_lw_breaks_0 2 rfl
theorem d_lw_breaks_3 : decode method_11_code 3 = .ok (.iload_n 1, 1) := zD (q := (3, .iload_n 1, 1)) tx_lw_breaks_0 3 rfl
theorem d_lw_breaks_4 : decode method_11_code 4 = .ok (.invokevirtual 43, 3) := zD (q := (4, .invokevirtual 43, 3)) tx_lw_breaks_0 4 rfl
theorem d_lw_breaks_7 : decode method_11_code 7 = .ok (.i2l, 1) := zD (q := (7, .i2l, 1)) tx_lw_breaks_0 5 rfl
theorem d_lw_breaks_8 : decode method_11_code 8 = .ok (.lastore, 1) := zD (q := (8, .lastore, 1)) tx_lw_breaks_0 6 rfl
theorem d_lw_breaks_9 : decode method_11_code 9 = .ok (.goto 6, 3) := zD (q := (9, .goto 6, 3)) tx_lw_breaks_0 7 rfl
theorem d_lw_breaks_12 : decode method_11_code 12 = .ok (.astore_n 3, 1) := zD (q := (12, .astore_n 3, 1)) tx_lw_breaks_0 8 rfl
theorem d_lw_breaks_13 : decode method_11_code 13 = .ok (.iconst 1, 1) := zD (q := (13, .iconst 1, 1)) tx_lw_breaks_0 9 rfl
theorem d_lw_breaks_14 : decode method_11_code 14 = .ok (.ireturn, 1) := zD (q := (14, .ireturn, 1)) tx_lw_breaks_0 10 rfl
theorem d_lw_breaks_15 : decode method_11_code 15 = .ok (.iconst 0, 1) := zD (q := (15, .iconst 0, 1)) tx_lw_breaks_0 11 rfl
theorem d_lw_breaks_16 : decode method_11_code 16 = .ok (.ireturn, 1) := zD (q := (16, .ireturn, 1)) tx_lw_breaks_0 12 rfl
def T_lw_swapRounds_0 : List (Nat × Instr × Nat) := [(0, .aload_n 3, 1), (1, .iconst 0, 1), (2, .aload_n 0, 1), (3, .iload_n 1, 1), (4, .iload_n 2, 1), (5, .invokevirtual 46, 3), (8, .ifCond .eq 7, 3), (11, .lconst 1, 1), (12, .goto 4, 3), (15, .lconst 0, 1), (16, .lastore, 1), (17, .goto 11, 3), (20, .astore 4, 2), (22, .iconst 1, 1), (23, .ireturn, 1), (24, .astore 4, 2), (26, .iconst 2, 1), (27, .ireturn, 1), (28, .iconst 0, 1), (29, .ireturn, 1)]
theorem tx_lw_swapRounds_0 : zdec method_12_code T_lw_swapRounds_0 = true := by decide +kernel
theorem d_lw_swapRounds_0 : decode method_12_code 0 = .ok (.aload_n 3, 1) := zD (q := (0, .aload_n 3, 1)) tx_lw_swapRounds_0 0 rfl
theorem d_lw_swapRounds_1 : decode method_12_code 1 = .ok (.iconst 0, 1) := zD (q := (1, .iconst 0, 1)) tx_lw_swapRounds_0 1 rfl
theorem d_lw_swapRounds_2 : decode method_12_code 2 = .ok (.aload_n 0, 1) := zD (q := (2, .aload_n 0, 1)) tx_lw_swapRounds_0 2 rfl
theorem d_lw_swapRounds_3 : decode method_12_code 3 = .ok (.iload_n 1, 1) := zD (q := (3, .iload_n 1, 1)) tx_lw_swapRounds_0 3 rfl
theorem d_lw_swapRounds_4 : decode method_12_code 4 = .ok (.iload_n 2, 1) := zD (q := (4, .iload_n 2, 1)) tx_lw_swapRounds_0 4 rfl
theorem d_lw_swapRounds_5 : decode method_12_code 5 = .ok (.invokevirtual 46, 3) := zD (q := (5, .invokevirtual 46, 3)) tx_lw_swapRounds_0 5 rfl
theorem d_lw_swapRounds_8 : decode method_12_code 8 = .ok (.ifCond .eq 7, 3) := zD (q := (8, .ifCond .eq 7, 3)) tx_lw_swapRounds_0 6 rfl
theorem d_lw_swapRounds_11 : decode method_12_code 11 = .ok (.lconst 1, 1) := zD (q := (11, .lconst 1, 1)) tx_lw_swapRounds_0 7 rfl
theorem d_lw_swapRounds_12 : decode method_12_code 12 = .ok (.goto 4, 3) := zD (q := (12, .goto 4, 3)) tx_lw_swapRounds_0 8 rfl
theorem d_lw_swapRounds_15 : decode method_12_code 15 = .ok (.lconst 0, 1) := zD (q := (15, .lconst 0, 1)) tx_lw_swapRounds_0 9 rfl
theorem d_lw_swapRounds_16 : decode method_12_code 16 = .ok (.lastore, 1) := zD (q := (16, .lastore, 1)) tx_lw_swapRounds_0 10 rfl
theorem d_lw_swapRounds_17 : decode method_12_code 17 = .ok (.goto 11, 3) := zD (q := (17, .goto 11, 3)) tx_lw_swapRounds_0 11 rfl
theorem d_lw_swapRounds_20 : decode method_12_code 20 = .ok (.astore 4, 2) := zD (q := (20, .astore 4, 2)) tx_lw_swapRounds_0 12 rfl
theorem d_lw_swapRounds_22 : decode method_12_code 22 = .ok (.iconst 1, 1) := zD (q := (22, .iconst 1, 1)) tx_lw_swapRounds_0 13 rfl
theorem d_lw_swapRounds_23 : decode method_12_code 23 = .ok (.ireturn, 1) := zD (q := (23, .ireturn, 1)) tx_lw_swapRounds_0 14 rfl
theorem d_lw_swapRounds_24 : decode method_12_code 24 = .ok (.astore 4, 2) := zD (q := (24, .astore 4, 2)) tx_lw_swapRounds_0 15 rfl
theorem d_lw_swapRounds_26 : decode method_12_code 26 = .ok (.iconst 2, 1) := zD (q := (26, .iconst 2, 1)) tx_lw_swapRounds_0 16 rfl
theorem d_lw_swapRounds_27 : decode method_12_code 27 = .ok (.ireturn, 1) := zD (q := (27, .ireturn, 1)) tx_lw_swapRounds_0 17 rfl
theorem d_lw_swapRounds_28 : decode method_12_code 28 = .ok (.iconst 0, 1) := zD (q := (28, .iconst 0, 1)) tx_lw_swapRounds_0 18 rfl
theorem d_lw_swapRounds_29 : decode method_12_code 29 = .ok (.ireturn, 1) := zD (q := (29, .ireturn, 1)) tx_lw_swapRounds_0 19 rfl
def T_lw_result_0 : List (Nat × Instr × Nat) := [(0, .aload 5, 2), (2, .iconst 0, 1), (3, .aload_n 0, 1), (4, .iload_n 1, 1), (5, .iload_n 2, 1), (6, .iload_n 3, 1), (7, .iload 4, 2), (9, .invokevirtual 50, 3), (12, .i2l, 1), (13, .lastore, 1), (14, .goto 19, 3), (17, .astore 6, 2), (19, .iconst 1, 1), (20, .ireturn, 1), (21, .astore 6, 2), (23, .iconst 2, 1), (24, .ireturn, 1), (25, .astore 6, 2), (27, .iconst 3, 1), (28, .ireturn, 1), (29, .astore 6, 2), (31, .iconst 4, 1), (32, .ireturn, 1), (33, .iconst 0, 1), (34, .ireturn, 1)]
theorem tx_lw_result_0 : zdec method_13_code T_lw_result_0 = true := by decide +kernel
theorem d_lw_result_0 : decode method_13_code 0 = .ok (.aload 5, 2) := zD (q := (0, .aload 5, 2)) tx_lw_result_0 0 rfl
theorem d_lw_result_2 : decode method_13_code 2 = .ok (.iconst 0, 1) := zD (q := (2, .iconst 0, 1)) tx_lw_result_0 1 rfl
theorem d_lw_result_3 : decode method_13_code 3 = .ok (.aload_n 0, 1) := zD (q := (3, .aload_n 0, 1)) tx_lw_result_0 2 rfl
theorem d_lw_result_4 : decode method_13_code 4 = .ok (.iload_n 1, 1) := zD (q := (4, .iload_n 1, 1)) tx_lw_result_0 3 rfl
theorem d_lw_result_5 : decode method_13_code 5 = .ok (.iload_n 2, 1) := zD (q := (5, .iload_n 2, 1)) tx_lw_result_0 4 rfl
theorem d_lw_result_6 : decode method_13_code 6 = .ok (.iload_n 3, 1) := zD (q := (6, .iload_n 3, 1)) tx_lw_result_0 5 rfl
theorem d_lw_result_7 : decode method_13_code 7 = .ok (.iload 4, 2) := zD (q := (7, .iload 4, 2)) tx_lw_result_0 6 rfl
theorem d_lw_result_9 : decode method_13_code 9 = .ok (.invokevirtual 50, 3) := zD (q := (9, .invokevirtual 50, 3)) tx_lw_result_0 7 rfl
theorem d_lw_result_12 : decode method_13_code 12 = .ok (.i2l, 1) := zD (q := (12, .i2l, 1)) tx_lw_result_0 8 rfl
theorem d_lw_result_13 : decode method_13_code 13 = .ok (.lastore, 1) := zD (q := (13, .lastore, 1)) tx_lw_result_0 9 rfl
theorem d_lw_result_14 : decode method_13_code 14 = .ok (.goto 19, 3) := zD (q := (14, .goto 19, 3)) tx_lw_result_0 10 rfl
theorem d_lw_result_17 : decode method_13_code 17 = .ok (.astore 6, 2) := zD (q := (17, .astore 6, 2)) tx_lw_result_0 11 rfl
theorem d_lw_result_19 : decode method_13_code 19 = .ok (.iconst 1, 1) := zD (q := (19, .iconst 1, 1)) tx_lw_result_0 12 rfl
theorem d_lw_result_20 : decode method_13_code 20 = .ok (.ireturn, 1) := zD (q := (20, .ireturn, 1)) tx_lw_result_0 13 rfl
theorem d_lw_result_21 : decode method_13_code 21 = .ok (.astore 6, 2) := zD (q := (21, .astore 6, 2)) tx_lw_result_0 14 rfl
theorem d_lw_result_23 : decode method_13_code 23 = .ok (.iconst 2, 1) := zD (q := (23, .iconst 2, 1)) tx_lw_result_0 15 rfl
theorem d_lw_result_24 : decode method_13_code 24 = .ok (.ireturn, 1) := zD (q := (24, .ireturn, 1)) tx_lw_result_0 16 rfl
theorem d_lw_result_25 : decode method_13_code 25 = .ok (.astore 6, 2) := zD (q := (25, .astore 6, 2)) tx_lw_result_0 17 rfl
theorem d_lw_result_27 : decode method_13_code 27 = .ok (.iconst 3, 1) := zD (q := (27, .iconst 3, 1)) tx_lw_result_0 18 rfl
theorem d_lw_result_28 : decode method_13_code 28 = .ok (.ireturn, 1) := zD (q := (28, .ireturn, 1)) tx_lw_result_0 19 rfl
theorem d_lw_result_29 : decode method_13_code 29 = .ok (.astore 6, 2) := zD (q := (29, .astore 6, 2)) tx_lw_result_0 20 rfl
theorem d_lw_result_31 : decode method_13_code 31 = .ok (.iconst 4, 1) := zD (q := (31, .iconst 4, 1)) tx_lw_result_0 21 rfl
theorem d_lw_result_32 : decode method_13_code 32 = .ok (.ireturn, 1) := zD (q := (32, .ireturn, 1)) tx_lw_result_0 22 rfl
theorem d_lw_result_33 : decode method_13_code 33 = .ok (.iconst 0, 1) := zD (q := (33, .iconst 0, 1)) tx_lw_result_0 23 rfl
theorem d_lw_result_34 : decode method_13_code 34 = .ok (.ireturn, 1) := zD (q := (34, .ireturn, 1)) tx_lw_result_0 24 rfl
def T_lw_table_0 : List (Nat × Instr × Nat) := [(0, .aload_n 3, 1), (1, .iconst 0, 1), (2, .aload_n 0, 1), (3, .iload_n 1, 1), (4, .iload_n 2, 1), (5, .invokevirtual 56, 3), (8, .i2l, 1), (9, .lastore, 1), (10, .goto 7, 3), (13, .astore 4, 2), (15, .iconst 1, 1), (16, .ireturn, 1), (17, .iconst 0, 1), (18, .ireturn, 1)]
theorem tx_lw_table_0 : zdec method_14_code T_lw_table_0 = true := by decide +kernel
theorem d_lw_table_0 : decode method_14_code 0 = .ok (.aload_n 3, 1) := zD (q := (0, .aload_n 3, 1)) tx_lw_table_0 0 rfl
theorem d_lw_table_1 : decode method_14_code 1 = .ok (.iconst 0, 1) := zD (q := (1, .iconst 0, 1)) tx_lw_table_0 1 rfl
theorem d_lw_table_2 : decode method_14_code 2 = .ok (.aload_n 0, 1) := zD (q := (2, .aload_n 0, 1)) tx_lw_table_0 2 rfl
theorem d_lw_table_3 : decode method_14_code 3 = .ok (.iload_n 1, 1) := zD (q := (3, .iload_n 1, 1)) tx_lw_table_0 3 rfl
theorem d_lw_table_4 : decode method_14_code 4 = .ok (.iload_n 2, 1) := zD (q := (4, .iload_n 2, 1)) tx_lw_table_0 4 rfl
theorem d_lw_table_5 : decode method_14_code 5 = .ok (.invokevirtual 56, 3) := zD (q := (5, .invokevirtual 56, 3)) tx_lw_table_0 5 rfl
theorem d_lw_table_8 : decode method_14_code 8 = .ok (.i2l, 1) := zD (q := (8, .i2l, 1)) tx_lw_table_0 6 rfl
theorem d_lw_table_9 : decode method_14_code 9 = .ok (.lastore, 1) := zD (q := (9, .lastore, 1)) tx_lw_table_0 7 rfl
theorem d_lw_table_10 : decode method_14_code 10 = .ok (.goto 7, 3) := zD (q := (10, .goto 7, 3)) tx_lw_table_0 8 rfl
theorem d_lw_table_13 : decode method_14_code 13 = .ok (.astore 4, 2) := zD (q := (13, .astore 4, 2)) tx_lw_table_0 9 rfl
theorem d_lw_table_15 : decode method_14_code 15 = .ok (.iconst 1, 1) := zD (q := (15, .iconst 1, 1)) tx_lw_table_0 10 rfl
theorem d_lw_table_16 : decode method_14_code 16 = .ok (.ireturn, 1) := zD (q := (16, .ireturn, 1)) tx_lw_table_0 11 rfl
theorem d_lw_table_17 : decode method_14_code 17 = .ok (.iconst 0, 1) := zD (q := (17, .iconst 0, 1)) tx_lw_table_0 12 rfl
theorem d_lw_table_18 : decode method_14_code 18 = .ok (.ireturn, 1) := zD (q := (18, .ireturn, 1)) tx_lw_table_0 13 rfl
def T_lw_washOut_0 : List (Nat × Instr × Nat) := [(0, .aload_n 2, 1), (1, .iconst 0, 1), (2, .aload_n 0, 1), (3, .iload_n 1, 1), (4, .invokevirtual 59, 3), (7, .i2l, 1), (8, .lastore, 1), (9, .goto 9, 3), (12, .astore_n 3, 1), (13, .iconst 1, 1), (14, .ireturn, 1), (15, .astore_n 3, 1), (16, .iconst 2, 1), (17, .ireturn, 1), (18, .iconst 0, 1), (19, .ireturn, 1)]
theorem tx_lw_washOut_0 : zdec method_15_code T_lw_washOut_0 = true := by decide +kernel
theorem d_lw_washOut_0 : decode method_15_code 0 = .ok (.aload_n 2, 1) := zD (q := (0, .aload_n 2, 1)) tx_lw_washOut_0 0 rfl
theorem d_lw_washOut_1 : decode method_15_code 1 = .ok (.iconst 0, 1) := zD (q := (1, .iconst 0, 1)) tx_lw_washOut_0 1 rfl
theorem d_lw_washOut_2 : decode method_15_code 2 = .ok (.aload_n 0, 1) := zD (q := (2, .aload_n 0, 1)) tx_lw_washOut_0 2 rfl
theorem d_lw_washOut_3 : decode method_15_code 3 = .ok (.iload_n 1, 1) := zD (q := (3, .iload_n 1, 1)) tx_lw_washOut_0 3 rfl
theorem d_lw_washOut_4 : decode method_15_code 4 = .ok (.invokevirtual 59, 3) := zD (q := (4, .invokevirtual 59, 3)) tx_lw_washOut_0 4 rfl
theorem d_lw_washOut_7 : decode method_15_code 7 = .ok (.i2l, 1) := zD (q := (7, .i2l, 1)) tx_lw_washOut_0 5 rfl
theorem d_lw_washOut_8 : decode method_15_code 8 = .ok (.lastore, 1) := zD (q := (8, .lastore, 1)) tx_lw_washOut_0 6 rfl
theorem d_lw_washOut_9 : decode method_15_code 9 = .ok (.goto 9, 3) := zD (q := (9, .goto 9, 3)) tx_lw_washOut_0 7 rfl
theorem d_lw_washOut_12 : decode method_15_code 12 = .ok (.astore_n 3, 1) := zD (q := (12, .astore_n 3, 1)) tx_lw_washOut_0 8 rfl
theorem d_lw_washOut_13 : decode method_15_code 13 = .ok (.iconst 1, 1) := zD (q := (13, .iconst 1, 1)) tx_lw_washOut_0 9 rfl
theorem d_lw_washOut_14 : decode method_15_code 14 = .ok (.ireturn, 1) := zD (q := (14, .ireturn, 1)) tx_lw_washOut_0 10 rfl
theorem d_lw_washOut_15 : decode method_15_code 15 = .ok (.astore_n 3, 1) := zD (q := (15, .astore_n 3, 1)) tx_lw_washOut_0 11 rfl
theorem d_lw_washOut_16 : decode method_15_code 16 = .ok (.iconst 2, 1) := zD (q := (16, .iconst 2, 1)) tx_lw_washOut_0 12 rfl
theorem d_lw_washOut_17 : decode method_15_code 17 = .ok (.ireturn, 1) := zD (q := (17, .ireturn, 1)) tx_lw_washOut_0 13 rfl
theorem d_lw_washOut_18 : decode method_15_code 18 = .ok (.iconst 0, 1) := zD (q := (18, .iconst 0, 1)) tx_lw_washOut_0 14 rfl
theorem d_lw_washOut_19 : decode method_15_code 19 = .ok (.ireturn, 1) := zD (q := (19, .ireturn, 1)) tx_lw_washOut_0 15 rfl
def T_lw_reserve_0 : List (Nat × Instr × Nat) := [(0, .aload_n 2, 1), (1, .iconst 0, 1), (2, .aload_n 0, 1), (3, .iload_n 1, 1), (4, .invokevirtual 62, 3), (7, .i2l, 1), (8, .lastore, 1), (9, .goto 9, 3), (12, .astore_n 3, 1), (13, .iconst 1, 1), (14, .ireturn, 1), (15, .astore_n 3, 1), (16, .iconst 2, 1), (17, .ireturn, 1), (18, .iconst 0, 1), (19, .ireturn, 1)]
theorem tx_lw_reserve_0 : zdec method_16_code T_lw_reserve_0 = true := by decide +kernel
theorem d_lw_reserve_0 : decode method_16_code 0 = .ok (.aload_n 2, 1) := zD (q := (0, .aload_n 2, 1)) tx_lw_reserve_0 0 rfl
theorem d_lw_reserve_1 : decode method_16_code 1 = .ok (.iconst 0, 1) := zD (q := (1, .iconst 0, 1)) tx_lw_reserve_0 1 rfl
theorem d_lw_reserve_2 : decode method_16_code 2 = .ok (.aload_n 0, 1) := zD (q := (2, .aload_n 0, 1)) tx_lw_reserve_0 2 rfl
theorem d_lw_reserve_3 : decode method_16_code 3 = .ok (.iload_n 1, 1) := zD (q := (3, .iload_n 1, 1)) tx_lw_reserve_0 3 rfl
theorem d_lw_reserve_4 : decode method_16_code 4 = .ok (.invokevirtual 62, 3) := zD (q := (4, .invokevirtual 62, 3)) tx_lw_reserve_0 4 rfl
theorem d_lw_reserve_7 : decode method_16_code 7 = .ok (.i2l, 1) := zD (q := (7, .i2l, 1)) tx_lw_reserve_0 5 rfl
theorem d_lw_reserve_8 : decode method_16_code 8 = .ok (.lastore, 1) := zD (q := (8, .lastore, 1)) tx_lw_reserve_0 6 rfl
theorem d_lw_reserve_9 : decode method_16_code 9 = .ok (.goto 9, 3) := zD (q := (9, .goto 9, 3)) tx_lw_reserve_0 7 rfl
theorem d_lw_reserve_12 : decode method_16_code 12 = .ok (.astore_n 3, 1) := zD (q := (12, .astore_n 3, 1)) tx_lw_reserve_0 8 rfl
theorem d_lw_reserve_13 : decode method_16_code 13 = .ok (.iconst 1, 1) := zD (q := (13, .iconst 1, 1)) tx_lw_reserve_0 9 rfl
theorem d_lw_reserve_14 : decode method_16_code 14 = .ok (.ireturn, 1) := zD (q := (14, .ireturn, 1)) tx_lw_reserve_0 10 rfl
theorem d_lw_reserve_15 : decode method_16_code 15 = .ok (.astore_n 3, 1) := zD (q := (15, .astore_n 3, 1)) tx_lw_reserve_0 11 rfl
theorem d_lw_reserve_16 : decode method_16_code 16 = .ok (.iconst 2, 1) := zD (q := (16, .iconst 2, 1)) tx_lw_reserve_0 12 rfl
theorem d_lw_reserve_17 : decode method_16_code 17 = .ok (.ireturn, 1) := zD (q := (17, .ireturn, 1)) tx_lw_reserve_0 13 rfl
theorem d_lw_reserve_18 : decode method_16_code 18 = .ok (.iconst 0, 1) := zD (q := (18, .iconst 0, 1)) tx_lw_reserve_0 14 rfl
theorem d_lw_reserve_19 : decode method_16_code 19 = .ok (.ireturn, 1) := zD (q := (19, .ireturn, 1)) tx_lw_reserve_0 15 rfl
def T_lw_catchUp_0 : List (Nat × Instr × Nat) := [(0, .aload_n 1, 1), (1, .iconst 0, 1), (2, .aload_n 0, 1), (3, .invokevirtual 65, 3), (6, .i2l, 1), (7, .lastore, 1), (8, .goto 6, 3), (11, .astore_n 2, 1), (12, .iconst 1, 1), (13, .ireturn, 1), (14, .iconst 0, 1), (15, .ireturn, 1)]
theorem tx_lw_catchUp_0 : zdec method_17_code T_lw_catchUp_0 = true := by decide +kernel
theorem d_lw_catchUp_0 : decode method_17_code 0 = .ok (.aload_n 1, 1) := zD (q := (0, .aload_n 1, 1)) tx_lw_catchUp_0 0 rfl
theorem d_lw_catchUp_1 : decode method_17_code 1 = .ok (.iconst 0, 1) := zD (q := (1, .iconst 0, 1)) tx_lw_catchUp_0 1 rfl
theorem d_lw_catchUp_2 : decode method_17_code 2 = .ok (.aload_n 0, 1) := zD (q := (2, .aload_n 0, 1)) tx_lw_catchUp_0 2 rfl
theorem d_lw_catchUp_3 : decode method_17_code 3 = .ok (.invokevirtual 65, 3) := zD (q := (3, .invokevirtual 65, 3)) tx_lw_catchUp_0 3 rfl
theorem d_lw_catchUp_6 : decode method_17_code 6 = .ok (.i2l, 1) := zD (q := (6, .i2l, 1)) tx_lw_catchUp_0 4 rfl
theorem d_lw_catchUp_7 : decode method_17_code 7 = .ok (.lastore, 1) := zD (q := (7, .lastore, 1)) tx_lw_catchUp_0 5 rfl
theorem d_lw_catchUp_8 : decode method_17_code 8 = .ok (.goto 6, 3) := zD (q := (8, .goto 6, 3)) tx_lw_catchUp_0 6 rfl
theorem d_lw_catchUp_11 : decode method_17_code 11 = .ok (.astore_n 2, 1) := zD (q := (11, .astore_n 2, 1)) tx_lw_catchUp_0 7 rfl
theorem d_lw_catchUp_12 : decode method_17_code 12 = .ok (.iconst 1, 1) := zD (q := (12, .iconst 1, 1)) tx_lw_catchUp_0 8 rfl
theorem d_lw_catchUp_13 : decode method_17_code 13 = .ok (.ireturn, 1) := zD (q := (13, .ireturn, 1)) tx_lw_catchUp_0 9 rfl
theorem d_lw_catchUp_14 : decode method_17_code 14 = .ok (.iconst 0, 1) := zD (q := (14, .iconst 0, 1)) tx_lw_catchUp_0 10 rfl
theorem d_lw_catchUp_15 : decode method_17_code 15 = .ok (.ireturn, 1) := zD (q := (15, .ireturn, 1)) tx_lw_catchUp_0 11 rfl
def T_lw_catchDate_0 : List (Nat × Instr × Nat) := [(0, .aload_n 3, 1), (1, .iconst 0, 1), (2, .aload_n 0, 1), (3, .iload_n 1, 1), (4, .iload_n 2, 1), (5, .invokevirtual 69, 3), (8, .i2l, 1), (9, .lastore, 1), (10, .goto 11, 3), (13, .astore 4, 2), (15, .iconst 1, 1), (16, .ireturn, 1), (17, .astore 4, 2), (19, .iconst 2, 1), (20, .ireturn, 1), (21, .iconst 0, 1), (22, .ireturn, 1)]
theorem tx_lw_catchDate_0 : zdec method_18_code T_lw_catchDate_0 = true := by decide +kernel
theorem d_lw_catchDate_0 : decode method_18_code 0 = .ok (.aload_n 3, 1) := zD (q := (0, .aload_n 3, 1)) tx_lw_catchDate_0 0 rfl
theorem d_lw_catchDate_1 : decode method_18_code 1 = .ok (.iconst 0, 1) := zD (q := (1, .iconst 0, 1)) tx_lw_catchDate_0 1 rfl
theorem d_lw_catchDate_2 : decode method_18_code 2 = .ok (.aload_n 0, 1) := zD (q := (2, .aload_n 0, 1)) tx_lw_catchDate_0 2 rfl
theorem d_lw_catchDate_3 : decode method_18_code 3 = .ok (.iload_n 1, 1) := zD (q := (3, .iload_n 1, 1)) tx_lw_catchDate_0 3 rfl
theorem d_lw_catchDate_4 : decode method_18_code 4 = .ok (.iload_n 2, 1) := zD (q := (4, .iload_n 2, 1)) tx_lw_catchDate_0 4 rfl
theorem d_lw_catchDate_5 : decode method_18_code 5 = .ok (.invokevirtual 69, 3) := zD (q := (5, .invokevirtual 69, 3)) tx_lw_catchDate_0 5 rfl
theorem d_lw_catchDate_8 : decode method_18_code 8 = .ok (.i2l, 1) := zD (q := (8, .i2l, 1)) tx_lw_catchDate_0 6 rfl
theorem d_lw_catchDate_9 : decode method_18_code 9 = .ok (.lastore, 1) := zD (q := (9, .lastore, 1)) tx_lw_catchDate_0 7 rfl
theorem d_lw_catchDate_10 : decode method_18_code 10 = .ok (.goto 11, 3) := zD (q := (10, .goto 11, 3)) tx_lw_catchDate_0 8 rfl
theorem d_lw_catchDate_13 : decode method_18_code 13 = .ok (.astore 4, 2) := zD (q := (13, .astore 4, 2)) tx_lw_catchDate_0 9 rfl
theorem d_lw_catchDate_15 : decode method_18_code 15 = .ok (.iconst 1, 1) := zD (q := (15, .iconst 1, 1)) tx_lw_catchDate_0 10 rfl
theorem d_lw_catchDate_16 : decode method_18_code 16 = .ok (.ireturn, 1) := zD (q := (16, .ireturn, 1)) tx_lw_catchDate_0 11 rfl
theorem d_lw_catchDate_17 : decode method_18_code 17 = .ok (.astore 4, 2) := zD (q := (17, .astore 4, 2)) tx_lw_catchDate_0 12 rfl
theorem d_lw_catchDate_19 : decode method_18_code 19 = .ok (.iconst 2, 1) := zD (q := (19, .iconst 2, 1)) tx_lw_catchDate_0 13 rfl
theorem d_lw_catchDate_20 : decode method_18_code 20 = .ok (.ireturn, 1) := zD (q := (20, .ireturn, 1)) tx_lw_catchDate_0 14 rfl
theorem d_lw_catchDate_21 : decode method_18_code 21 = .ok (.iconst 0, 1) := zD (q := (21, .iconst 0, 1)) tx_lw_catchDate_0 15 rfl
theorem d_lw_catchDate_22 : decode method_18_code 22 = .ok (.ireturn, 1) := zD (q := (22, .ireturn, 1)) tx_lw_catchDate_0 16 rfl
def T_lw_law_0 : List (Nat × Instr × Nat) := [(0, .new 8, 3), (3, .dup, 1), (4, .invokespecial 72, 3), (7, .astore_n 1, 1), (8, .new 73, 3), (11, .dup, 1), (12, .invokespecial 75, 3), (15, .astore_n 2, 1), (16, .iconst 1, 1), (17, .newarray .long, 2), (19, .astore_n 3, 1), (20, .iconst 0, 1), (21, .istore 4, 2), (23, .iload 4, 2), (25, .aload_n 0, 1), (26, .arraylength, 1), (27, .iconst 5, 1), (28, .isub, 1), (29, .if_icmp .gt 1196, 3), (32, .aload_n 0, 1), (33, .iload 4, 2), (35, .iaload, 1), (36, .bipush 31, 2), (38, .iand, 1), (39, .tableswitch 1180 0 19 #[93, 129, 209, 277, 357, 393, 434, 490, 503, 571, 639, 695, 708, 783, 875, 943, 999, 1055, 1068, 1112], 93), (132, .aload_n 1, 1), (133, .aload_n 0, 1), (134, .iload 4, 2), (136, .iconst 1, 1), (137, .iadd, 1), (138, .iaload, 1), (139, .invokestatic 76, 3), (142, .istore 5, 2), (144, .aload_n 2, 1), (145, .aload_n 0, 1), (146, .iload 4, 2), (148, .iconst 1, 1), (149, .iadd, 1), (150, .iaload, 1), (151, .invokevirtual 81, 3), (154, .aload_n 2, 1), (155, .invokevirtual 82, 3), (158, .iload 5, 2), (160, .if_icmp .eq 5, 3), (163, .iconst 0, 1), (164, .ireturn, 1), (165, .goto 1054, 3), (168, .aload_n 1, 1), (169, .aload_n 0, 1), (170, .iload 4, 2), (172, .iconst 1, 1), (173, .iadd, 1), (174, .iaload, 1), (175, .aload_n 0, 1), (176, .iload 4, 2), (178, .iconst 2, 1), (179, .iadd, 1), (180, .iaload, 1), (181, .aload_n 0, 1), (182, .iload 4, 2)]
theorem tx_lw_law_0 : zdec code T_lw_law_0 = true := by decide +kernel
theorem d_lw_law_0 : decode code 0 = .ok (.new 8, 3) := zD (q := (0, .new 8, 3)) tx_lw_law_0 0 rfl
theorem d_lw_law_3 : decode code 3 = .ok (.dup, 1) := zD (q := (3, .dup, 1)) tx_lw_law_0 1 rfl
theorem d_lw_law_4 : decode code 4 = .ok (.invokespecial 72, 3) := zD (q := (4, .invokespecial 72, 3)) tx_lw_law_0 2 rfl
theorem d_lw_law_7 : decode code 7 = .ok (.astore_n 1, 1) := zD (q := (7, .astore_n 1, 1)) tx_lw_law_0 3 rfl
theorem d_lw_law_8 : decode code 8 = .ok (.new 73, 3) := zD (q := (8, .new 73, 3)) tx_lw_law_0 4 rfl
theorem d_lw_law_11 : decode code 11 = .ok (.dup, 1) := zD (q := (11, .dup, 1)) tx_lw_law_0 5 rfl
theorem d_lw_law_12 : decode code 12 = .ok (.invokespecial 75, 3) := zD (q := (12, .invokespecial 75, 3)) tx_lw_law_0 6 rfl
theorem d_lw_law_15 : decode code 15 = .ok (.astore_n 2, 1) := zD (q := (15, .astore_n 2, 1)) tx_lw_law_0 7 rfl
theorem d_lw_law_16 : decode code 16 = .ok (.iconst 1, 1) := zD (q := (16, .iconst 1, 1)) tx_lw_law_0 8 rfl
theorem d_lw_law_17 : decode code 17 = .ok (.newarray .long, 2) := zD (q := (17, .newarray .long, 2)) tx_lw_law_0 9 rfl
theorem d_lw_law_19 : decode code 19 = .ok (.astore_n 3, 1) := zD (q := (19, .astore_n 3, 1)) tx_lw_law_0 10 rfl
theorem d_lw_law_20 : decode code 20 = .ok (.iconst 0, 1) := zD (q := (20, .iconst 0, 1)) tx_lw_law_0 11 rfl
theorem d_lw_law_21 : decode code 21 = .ok (.istore 4, 2) := zD (q := (21, .istore 4, 2)) tx_lw_law_0 12 rfl
theorem d_lw_law_23 : decode code 23 = .ok (.iload 4, 2) := zD (q := (23, .iload 4, 2)) tx_lw_law_0 13 rfl
theorem d_lw_law_25 : decode code 25 = .ok (.aload_n 0, 1) := zD (q := (25, .aload_n 0, 1)) tx_lw_law_0 14 rfl
theorem d_lw_law_26 : decode code 26 = .ok (.arraylength, 1) := zD (q := (26, .arraylength, 1)) tx_lw_law_0 15 rfl
theorem d_lw_law_27 : decode code 27 = .ok (.iconst 5, 1) := zD (q := (27, .iconst 5, 1)) tx_lw_law_0 16 rfl
theorem d_lw_law_28 : decode code 28 = .ok (.isub, 1) := zD (q := (28, .isub, 1)) tx_lw_law_0 17 rfl
theorem d_lw_law_29 : decode code 29 = .ok (.if_icmp .gt 1196, 3) := zD (q := (29, .if_icmp .gt 1196, 3)) tx_lw_law_0 18 rfl
theorem d_lw_law_32 : decode code 32 = .ok (.aload_n 0, 1) := zD (q := (32, .aload_n 0, 1)) tx_lw_law_0 19 rfl
theorem d_lw_law_33 : decode code 33 = .ok (.iload 4, 2) := zD (q := (33, .iload 4, 2)) tx_lw_law_0 20 rfl
theorem d_lw_law_35 : decode code 35 = .ok (.iaload, 1) := zD (q := (35, .iaload, 1)) tx_lw_law_0 21 rfl
theorem d_lw_law_36 : decode code 36 = .ok (.bipush 31, 2) := zD (q := (36, .bipush 31, 2)) tx_lw_law_0 22 rfl
theorem d_lw_law_38 : decode code 38 = .ok (.iand, 1) := zD (q := (38, .iand, 1)) tx_lw_law_0 23 rfl
theorem d_lw_law_39 : decode code 39 = .ok (.tableswitch 1180 0 19 #[93, 129, 209, 277, 357, 393, 434, 490, 503, 571, 639, 695, 708, 783, 875, 943, 999, 1055, 1068, 1112], 93) := zD (q := (39, .tableswitch 1180 0 19 #[93, 129, 209, 277, 357, 393, 434, 490, 503, 571, 639, 695, 708, 783, 875, 943, 999, 1055, 1068, 1112], 93)) tx_lw_law_0 24 rfl
theorem d_lw_law_132 : decode code 132 = .ok (.aload_n 1, 1) := zD (q := (132, .aload_n 1, 1)) tx_lw_law_0 25 rfl
theorem d_lw_law_133 : decode code 133 = .ok (.aload_n 0, 1) := zD (q := (133, .aload_n 0, 1)) tx_lw_law_0 26 rfl
theorem d_lw_law_134 : decode code 134 = .ok (.iload 4, 2) := zD (q := (134, .iload 4, 2)) tx_lw_law_0 27 rfl
theorem d_lw_law_136 : decode code 136 = .ok (.iconst 1, 1) := zD (q := (136, .iconst 1, 1)) tx_lw_law_0 28 rfl
theorem d_lw_law_137 : decode code 137 = .ok (.iadd, 1) := zD (q := (137, .iadd, 1)) tx_lw_law_0 29 rfl
theorem d_lw_law_138 : decode code 138 = .ok (.iaload, 1) := zD (q := (138, .iaload, 1)) tx_lw_law_0 30 rfl
theorem d_lw_law_139 : decode code 139 = .ok (.invokestatic 76, 3) := zD (q := (139, .invokestatic 76, 3)) tx_lw_law_0 31 rfl
theorem d_lw_law_142 : decode code 142 = .ok (.istore 5, 2) := zD (q := (142, .istore 5, 2)) tx_lw_law_0 32 rfl
theorem d_lw_law_144 : decode code 144 = .ok (.aload_n 2, 1) := zD (q := (144, .aload_n 2, 1)) tx_lw_law_0 33 rfl
theorem d_lw_law_145 : decode code 145 = .ok (.aload_n 0, 1) := zD (q := (145, .aload_n 0, 1)) tx_lw_law_0 34 rfl
theorem d_lw_law_146 : decode code 146 = .ok (.iload 4, 2) := zD (q := (146, .iload 4, 2)) tx_lw_law_0 35 rfl
theorem d_lw_law_148 : decode code 148 = .ok (.iconst 1, 1) := zD (q := (148, .iconst 1, 1)) tx_lw_law_0 36 rfl
theorem d_lw_law_149 : decode code 149 = .ok (.iadd, 1) := zD (q := (149, .iadd, 1)) tx_lw_law_0 37 rfl
theorem d_lw_law_150 : decode code 150 = .ok (.iaload, 1) := zD (q := (150, .iaload, 1)) tx_lw_law_0 38 rfl
theorem d_lw_law_151 : decode code 151 = .ok (.invokevirtual 81, 3) := zD (q := (151, .invokevirtual 81, 3)) tx_lw_law_0 39 rfl
theorem d_lw_law_154 : decode code 154 = .ok (.aload_n 2, 1) := zD (q := (154, .aload_n 2, 1)) tx_lw_law_0 40 rfl
theorem d_lw_law_155 : decode code 155 = .ok (.invokevirtual 82, 3) := zD (q := (155, .invokevirtual 82, 3)) tx_lw_law_0 41 rfl
theorem d_lw_law_158 : decode code 158 = .ok (.iload 5, 2) := zD (q := (158, .iload 5, 2)) tx_lw_law_0 42 rfl
theorem d_lw_law_160 : decode code 160 = .ok (.if_icmp .eq 5, 3) := zD (q := (160, .if_icmp .eq 5, 3)) tx_lw_law_0 43 rfl
theorem d_lw_law_163 : decode code 163 = .ok (.iconst 0, 1) := zD (q := (163, .iconst 0, 1)) tx_lw_law_0 44 rfl
theorem d_lw_law_164 : decode code 164 = .ok (.ireturn, 1) := zD (q := (164, .ireturn, 1)) tx_lw_law_0 45 rfl
theorem d_lw_law_165 : decode code 165 = .ok (.goto 1054, 3) := zD (q := (165, .goto 1054, 3)) tx_lw_law_0 46 rfl
theorem d_lw_law_168 : decode code 168 = .ok (.aload_n 1, 1) := zD (q := (168, .aload_n 1, 1)) tx_lw_law_0 47 rfl
theorem d_lw_law_169 : decode code 169 = .ok (.aload_n 0, 1) := zD (q := (169, .aload_n 0, 1)) tx_lw_law_0 48 rfl
theorem d_lw_law_170 : decode code 170 = .ok (.iload 4, 2) := zD (q := (170, .iload 4, 2)) tx_lw_law_0 49 rfl
theorem d_lw_law_172 : decode code 172 = .ok (.iconst 1, 1) := zD (q := (172, .iconst 1, 1)) tx_lw_law_0 50 rfl
theorem d_lw_law_173 : decode code 173 = .ok (.iadd, 1) := zD (q := (173, .iadd, 1)) tx_lw_law_0 51 rfl
theorem d_lw_law_174 : decode code 174 = .ok (.iaload, 1) := zD (q := (174, .iaload, 1)) tx_lw_law_0 52 rfl
theorem d_lw_law_175 : decode code 175 = .ok (.aload_n 0, 1) := zD (q := (175, .aload_n 0, 1)) tx_lw_law_0 53 rfl
theorem d_lw_law_176 : decode code 176 = .ok (.iload 4, 2) := zD (q := (176, .iload 4, 2)) tx_lw_law_0 54 rfl
theorem d_lw_law_178 : decode code 178 = .ok (.iconst 2, 1) := zD (q := (178, .iconst 2, 1)) tx_lw_law_0 55 rfl
theorem d_lw_law_179 : decode code 179 = .ok (.iadd, 1) := zD (q := (179, .iadd, 1)) tx_lw_law_0 56 rfl
theorem d_lw_law_180 : decode code 180 = .ok (.iaload, 1) := zD (q := (180, .iaload, 1)) tx_lw_law_0 57 rfl
theorem d_lw_law_181 : decode code 181 = .ok (.aload_n 0, 1) := zD (q := (181, .aload_n 0, 1)) tx_lw_law_0 58 rfl
theorem d_lw_law_182 : decode code 182 = .ok (.iload 4, 2) := zD (q := (182, .iload 4, 2)) tx_lw_law_0 59 rfl
def T_lw_law_1 : List (Nat × Instr × Nat) := [(184, .iconst 3, 1), (185, .iadd, 1), (186, .iaload, 1), (187, .aload_n 3, 1), (188, .invokestatic 85, 3), (191, .istore 5, 2), (193, .aload_n 2, 1), (194, .aload_n 0, 1), (195, .iload 4, 2), (197, .iconst 1, 1), (198, .iadd, 1), (199, .iaload, 1), (200, .aload_n 0, 1), (201, .iload 4, 2), (203, .iconst 2, 1), (204, .iadd, 1), (205, .iaload, 1), (206, .aload_n 0, 1), (207, .iload 4, 2), (209, .iconst 3, 1), (210, .iadd, 1), (211, .iaload, 1), (212, .invokevirtual 88, 3), (215, .istore 6, 2), (217, .aload_n 2, 1), (218, .invokevirtual 82, 3), (221, .iload 5, 2), (223, .if_icmp .eq 5, 3), (226, .iconst 0, 1), (227, .ireturn, 1), (228, .iload 5, 2), (230, .ifCond .ne 15, 3), (233, .aload_n 3, 1), (234, .iconst 0, 1), (235, .laload, 1), (236, .iload 6, 2), (238, .i2l, 1), (239, .lcmp, 1), (240, .ifCond .eq 5, 3), (243, .iconst 0, 1), (244, .ireturn, 1), (245, .goto 974, 3), (248, .aload_n 1, 1), (249, .aload_n 0, 1), (250, .iload 4, 2), (252, .iconst 1, 1), (253, .iadd, 1), (254, .iaload, 1), (255, .aload_n 0, 1), (256, .iload 4, 2), (258, .iconst 2, 1), (259, .iadd, 1), (260, .iaload, 1), (261, .aload_n 3, 1), (262, .invokestatic 89, 3), (265, .istore 5, 2), (267, .aload_n 2, 1), (268, .aload_n 0, 1), (269, .iload 4, 2), (271, .iconst 1, 1)]
theorem tx_lw_law_1 : zdec code T_lw_law_1 = true := by decide +kernel
theorem d_lw_law_184 : decode code 184 = .ok (.iconst 3, 1) := zD (q := (184, .iconst 3, 1)) tx_lw_law_1 0 rfl
theorem d_lw_law_185 : decode code 185 = .ok (.iadd, 1) := zD (q := (185, .iadd, 1)) tx_lw_law_1 1 rfl
theorem d_lw_law_186 : decode code 186 = .ok (.iaload, 1) := zD (q := (186, .iaload, 1)) tx_lw_law_1 2 rfl
theorem d_lw_law_187 : decode code 187 = .ok (.aload_n 3, 1) := zD (q := (187, .aload_n 3, 1)) tx_lw_law_1 3 rfl
theorem d_lw_law_188 : decode code 188 = .ok (.invokestatic 85, 3) := zD (q := (188, .invokestatic 85, 3)) tx_lw_law_1 4 rfl
theorem d_lw_law_191 : decode code 191 = .ok (.istore 5, 2) := zD (q := (191, .istore 5, 2)) tx_lw_law_1 5 rfl
theorem d_lw_law_193 : decode code 193 = .ok (.aload_n 2, 1) := zD (q := (193, .aload_n 2, 1)) tx_lw_law_1 6 rfl
theorem d_lw_law_194 : decode code 194 = .ok (.aload_n 0, 1) := zD (q := (194, .aload_n 0, 1)) tx_lw_law_1 7 rfl
theorem d_lw_law_195 : decode code 195 = .ok (.iload 4, 2) := zD (q := (195, .iload 4, 2)) tx_lw_law_1 8 rfl
theorem d_lw_law_197 : decode code 197 = .ok (.iconst 1, 1) := zD (q := (197, .iconst 1, 1)) tx_lw_law_1 9 rfl
theorem d_lw_law_198 : decode code 198 = .ok (.iadd, 1) := zD (q := (198, .iadd, 1)) tx_lw_law_1 10 rfl
theorem d_lw_law_199 : decode code 199 = .ok (.iaload, 1) := zD (q := (199, .iaload, 1)) tx_lw_law_1 11 rfl
theorem d_lw_law_200 : decode code 200 = .ok (.aload_n 0, 1) := zD (q := (200, .aload_n 0, 1)) tx_lw_law_1 12 rfl
theorem d_lw_law_201 : decode code 201 = .ok (.iload 4, 2) := zD (q := (201, .iload 4, 2)) tx_lw_law_1 13 rfl
theorem d_lw_law_203 : decode code 203 = .ok (.iconst 2, 1) := zD (q := (203, .iconst 2, 1)) tx_lw_law_1 14 rfl
theorem d_lw_law_204 : decode code 204 = .ok (.iadd, 1) := zD (q := (204, .iadd, 1)) tx_lw_law_1 15 rfl
theorem d_lw_law_205 : decode code 205 = .ok (.iaload, 1) := zD (q := (205, .iaload, 1)) tx_lw_law_1 16 rfl
theorem d_lw_law_206 : decode code 206 = .ok (.aload_n 0, 1) := zD (q := (206, .aload_n 0, 1)) tx_lw_law_1 17 rfl
theorem d_lw_law_207 : decode code 207 = .ok (.iload 4, 2) := zD (q := (207, .iload 4, 2)) tx_lw_law_1 18 rfl
theorem d_lw_law_209 : decode code 209 = .ok (.iconst 3, 1) := zD (q := (209, .iconst 3, 1)) tx_lw_law_1 19 rfl
theorem d_lw_law_210 : decode code 210 = .ok (.iadd, 1) := zD (q := (210, .iadd, 1)) tx_lw_law_1 20 rfl
theorem d_lw_law_211 : decode code 211 = .ok (.iaload, 1) := zD (q := (211, .iaload, 1)) tx_lw_law_1 21 rfl
theorem d_lw_law_212 : decode code 212 = .ok (.invokevirtual 88, 3) := zD (q := (212, .invokevirtual 88, 3)) tx_lw_law_1 22 rfl
theorem d_lw_law_215 : decode code 215 = .ok (.istore 6, 2) := zD (q := (215, .istore 6, 2)) tx_lw_law_1 23 rfl
theorem d_lw_law_217 : decode code 217 = .ok (.aload_n 2, 1) := zD (q := (217, .aload_n 2, 1)) tx_lw_law_1 24 rfl
theorem d_lw_law_218 : decode code 218 = .ok (.invokevirtual 82, 3) := zD (q := (218, .invokevirtual 82, 3)) tx_lw_law_1 25 rfl
theorem d_lw_law_221 : decode code 221 = .ok (.iload 5, 2) := zD (q := (221, .iload 5, 2)) tx_lw_law_1 26 rfl
theorem d_lw_law_223 : decode code 223 = .ok (.if_icmp .eq 5, 3) := zD (q := (223, .if_icmp .eq 5, 3)) tx_lw_law_1 27 rfl
theorem d_lw_law_226 : decode code 226 = .ok (.iconst 0, 1) := zD (q := (226, .iconst 0, 1)) tx_lw_law_1 28 rfl
theorem d_lw_law_227 : decode code 227 = .ok (.ireturn, 1) := zD (q := (227, .ireturn, 1)) tx_lw_law_1 29 rfl
theorem d_lw_law_228 : decode code 228 = .ok (.iload 5, 2) := zD (q := (228, .iload 5, 2)) tx_lw_law_1 30 rfl
theorem d_lw_law_230 : decode code 230 = .ok (.ifCond .ne 15, 3) := zD (q := (230, .ifCond .ne 15, 3)) tx_lw_law_1 31 rfl
theorem d_lw_law_233 : decode code 233 = .ok (.aload_n 3, 1) := zD (q := (233, .aload_n 3, 1)) tx_lw_law_1 32 rfl
theorem d_lw_law_234 : decode code 234 = .ok (.iconst 0, 1) := zD (q := (234, .iconst 0, 1)) tx_lw_law_1 33 rfl
theorem d_lw_law_235 : decode code 235 = .ok (.laload, 1) := zD (q := (235, .laload, 1)) tx_lw_law_1 34 rfl
theorem d_lw_law_236 : decode code 236 = .ok (.iload 6, 2) := zD (q := (236, .iload 6, 2)) tx_lw_law_1 35 rfl
theorem d_lw_law_238 : decode code 238 = .ok (.i2l, 1) := zD (q := (238, .i2l, 1)) tx_lw_law_1 36 rfl
theorem d_lw_law_239 : decode code 239 = .ok (.lcmp, 1) := zD (q := (239, .lcmp, 1)) tx_lw_law_1 37 rfl
theorem d_lw_law_240 : decode code 240 = .ok (.ifCond .eq 5, 3) := zD (q := (240, .ifCond .eq 5, 3)) tx_lw_law_1 38 rfl
theorem d_lw_law_243 : decode code 243 = .ok (.iconst 0, 1) := zD (q := (243, .iconst 0, 1)) tx_lw_law_1 39 rfl
theorem d_lw_law_244 : decode code 244 = .ok (.ireturn, 1) := zD (q := (244, .ireturn, 1)) tx_lw_law_1 40 rfl
theorem d_lw_law_245 : decode code 245 = .ok (.goto 974, 3) := zD (q := (245, .goto 974, 3)) tx_lw_law_1 41 rfl
theorem d_lw_law_248 : decode code 248 = .ok (.aload_n 1, 1) := zD (q := (248, .aload_n 1, 1)) tx_lw_law_1 42 rfl
theorem d_lw_law_249 : decode code 249 = .ok (.aload_n 0, 1) := zD (q := (249, .aload_n 0, 1)) tx_lw_law_1 43 rfl
theorem d_lw_law_250 : decode code 250 = .ok (.iload 4, 2) := zD (q := (250, .iload 4, 2)) tx_lw_law_1 44 rfl
theorem d_lw_law_252 : decode code 252 = .ok (.iconst 1, 1) := zD (q := (252, .iconst 1, 1)) tx_lw_law_1 45 rfl
theorem d_lw_law_253 : decode code 253 = .ok (.iadd, 1) := zD (q := (253, .iadd, 1)) tx_lw_law_1 46 rfl
theorem d_lw_law_254 : decode code 254 = .ok (.iaload, 1) := zD (q := (254, .iaload, 1)) tx_lw_law_1 47 rfl
theorem d_lw_law_255 : decode code 255 = .ok (.aload_n 0, 1) := zD (q := (255, .aload_n 0, 1)) tx_lw_law_1 48 rfl
theorem d_lw_law_256 : decode code 256 = .ok (.iload 4, 2) := zD (q := (256, .iload 4, 2)) tx_lw_law_1 49 rfl
theorem d_lw_law_258 : decode code 258 = .ok (.iconst 2, 1) := zD (q := (258, .iconst 2, 1)) tx_lw_law_1 50 rfl
theorem d_lw_law_259 : decode code 259 = .ok (.iadd, 1) := zD (q := (259, .iadd, 1)) tx_lw_law_1 51 rfl
theorem d_lw_law_260 : decode code 260 = .ok (.iaload, 1) := zD (q := (260, .iaload, 1)) tx_lw_law_1 52 rfl
theorem d_lw_law_261 : decode code 261 = .ok (.aload_n 3, 1) := zD (q := (261, .aload_n 3, 1)) tx_lw_law_1 53 rfl
theorem d_lw_law_262 : decode code 262 = .ok (.invokestatic 89, 3) := zD (q := (262, .invokestatic 89, 3)) tx_lw_law_1 54 rfl
theorem d_lw_law_265 : decode code 265 = .ok (.istore 5, 2) := zD (q := (265, .istore 5, 2)) tx_lw_law_1 55 rfl
theorem d_lw_law_267 : decode code 267 = .ok (.aload_n 2, 1) := zD (q := (267, .aload_n 2, 1)) tx_lw_law_1 56 rfl
theorem d_lw_law_268 : decode code 268 = .ok (.aload_n 0, 1) := zD (q := (268, .aload_n 0, 1)) tx_lw_law_1 57 rfl
theorem d_lw_law_269 : decode code 269 = .ok (.iload 4, 2) := zD (q := (269, .iload 4, 2)) tx_lw_law_1 58 rfl
theorem d_lw_law_271 : decode code 271 = .ok (.iconst 1, 1) := zD (q := (271, .iconst 1, 1)) tx_lw_law_1 59 rfl
def T_lw_law_2 : List (Nat × Instr × Nat) := [(272, .iadd, 1), (273, .iaload, 1), (274, .aload_n 0, 1), (275, .iload 4, 2), (277, .iconst 2, 1), (278, .iadd, 1), (279, .iaload, 1), (280, .invokevirtual 92, 3), (283, .istore 6, 2), (285, .aload_n 2, 1), (286, .invokevirtual 82, 3), (289, .iload 5, 2), (291, .if_icmp .eq 5, 3), (294, .iconst 0, 1), (295, .ireturn, 1), (296, .iload 5, 2), (298, .ifCond .ne 15, 3), (301, .aload_n 3, 1), (302, .iconst 0, 1), (303, .laload, 1), (304, .iload 6, 2), (306, .i2l, 1), (307, .lcmp, 1), (308, .ifCond .eq 5, 3), (311, .iconst 0, 1), (312, .ireturn, 1), (313, .goto 906, 3), (316, .aload_n 1, 1), (317, .aload_n 0, 1), (318, .iload 4, 2), (320, .iconst 1, 1), (321, .iadd, 1), (322, .iaload, 1), (323, .aload_n 0, 1), (324, .iload 4, 2), (326, .iconst 2, 1), (327, .iadd, 1), (328, .iaload, 1), (329, .aload_n 0, 1), (330, .iload 4, 2), (332, .iconst 3, 1), (333, .iadd, 1), (334, .iaload, 1), (335, .aload_n 3, 1), (336, .invokestatic 93, 3), (339, .istore 5, 2), (341, .aload_n 2, 1), (342, .aload_n 0, 1), (343, .iload 4, 2), (345, .iconst 1, 1), (346, .iadd, 1), (347, .iaload, 1), (348, .aload_n 0, 1), (349, .iload 4, 2), (351, .iconst 2, 1), (352, .iadd, 1), (353, .iaload, 1), (354, .aload_n 0, 1), (355, .iload 4, 2), (357, .iconst 3, 1)]
theorem tx_lw_law_2 : zdec code T_lw_law_2 = true := by decide +kernel
theorem d_lw_law_272 : decode code 272 = .ok (.iadd, 1) := zD (q := (272, .iadd, 1)) tx_lw_law_2 0 rfl
theorem d_lw_law_273 : decode code 273 = .ok (.iaload, 1) := zD (q := (273, .iaload, 1)) tx_lw_law_2 1 rfl
theorem d_lw_law_274 : decode code 274 = .ok (.aload_n 0, 1) := zD (q := (274, .aload_n 0, 1)) tx_lw_law_2 2 rfl
theorem d_lw_law_275 : decode code 275 = .ok (.iload 4, 2) := zD (q := (275, .iload 4, 2)) tx_lw_law_2 3 rfl
theorem d_lw_law_277 : decode code 277 = .ok (.iconst 2, 1) := zD (q := (277, .iconst 2, 1)) tx_lw_law_2 4 rfl
theorem d_lw_law_278 : decode code 278 = .ok (.iadd, 1) := zD (q := (278, .iadd, 1)) tx_lw_law_2 5 rfl
theorem d_lw_law_279 : decode code 279 = .ok (.iaload, 1) := zD (q := (279, .iaload, 1)) tx_lw_law_2 6 rfl
theorem d_lw_law_280 : decode code 280 = .ok (.invokevirtual 92, 3) := zD (q := (280, .invokevirtual 92, 3)) tx_lw_law_2 7 rfl
theorem d_lw_law_283 : decode code 283 = .ok (.istore 6, 2) := zD (q := (283, .istore 6, 2)) tx_lw_law_2 8 rfl
theorem d_lw_law_285 : decode code 285 = .ok (.aload_n 2, 1) := zD (q := (285, .aload_n 2, 1)) tx_lw_law_2 9 rfl
theorem d_lw_law_286 : decode code 286 = .ok (.invokevirtual 82, 3) := zD (q := (286, .invokevirtual 82, 3)) tx_lw_law_2 10 rfl
theorem d_lw_law_289 : decode code 289 = .ok (.iload 5, 2) := zD (q := (289, .iload 5, 2)) tx_lw_law_2 11 rfl
theorem d_lw_law_291 : decode code 291 = .ok (.if_icmp .eq 5, 3) := zD (q := (291, .if_icmp .eq 5, 3)) tx_lw_law_2 12 rfl
theorem d_lw_law_294 : decode code 294 = .ok (.iconst 0, 1) := zD (q := (294, .iconst 0, 1)) tx_lw_law_2 13 rfl
theorem d_lw_law_295 : decode code 295 = .ok (.ireturn, 1) := zD (q := (295, .ireturn, 1)) tx_lw_law_2 14 rfl
theorem d_lw_law_296 : decode code 296 = .ok (.iload 5, 2) := zD (q := (296, .iload 5, 2)) tx_lw_law_2 15 rfl
theorem d_lw_law_298 : decode code 298 = .ok (.ifCond .ne 15, 3) := zD (q := (298, .ifCond .ne 15, 3)) tx_lw_law_2 16 rfl
theorem d_lw_law_301 : decode code 301 = .ok (.aload_n 3, 1) := zD (q := (301, .aload_n 3, 1)) tx_lw_law_2 17 rfl
theorem d_lw_law_302 : decode code 302 = .ok (.iconst 0, 1) := zD (q := (302, .iconst 0, 1)) tx_lw_law_2 18 rfl
theorem d_lw_law_303 : decode code 303 = .ok (.laload, 1) := zD (q := (303, .laload, 1)) tx_lw_law_2 19 rfl
theorem d_lw_law_304 : decode code 304 = .ok (.iload 6, 2) := zD (q := (304, .iload 6, 2)) tx_lw_law_2 20 rfl
theorem d_lw_law_306 : decode code 306 = .ok (.i2l, 1) := zD (q := (306, .i2l, 1)) tx_lw_law_2 21 rfl
theorem d_lw_law_307 : decode code 307 = .ok (.lcmp, 1) := zD (q := (307, .lcmp, 1)) tx_lw_law_2 22 rfl
theorem d_lw_law_308 : decode code 308 = .ok (.ifCond .eq 5, 3) := zD (q := (308, .ifCond .eq 5, 3)) tx_lw_law_2 23 rfl
theorem d_lw_law_311 : decode code 311 = .ok (.iconst 0, 1) := zD (q := (311, .iconst 0, 1)) tx_lw_law_2 24 rfl
theorem d_lw_law_312 : decode code 312 = .ok (.ireturn, 1) := zD (q := (312, .ireturn, 1)) tx_lw_law_2 25 rfl
theorem d_lw_law_313 : decode code 313 = .ok (.goto 906, 3) := zD (q := (313, .goto 906, 3)) tx_lw_law_2 26 rfl
theorem d_lw_law_316 : decode code 316 = .ok (.aload_n 1, 1) := zD (q := (316, .aload_n 1, 1)) tx_lw_law_2 27 rfl
theorem d_lw_law_317 : decode code 317 = .ok (.aload_n 0, 1) := zD (q := (317, .aload_n 0, 1)) tx_lw_law_2 28 rfl
theorem d_lw_law_318 : decode code 318 = .ok (.iload 4, 2) := zD (q := (318, .iload 4, 2)) tx_lw_law_2 29 rfl
theorem d_lw_law_320 : decode code 320 = .ok (.iconst 1, 1) := zD (q := (320, .iconst 1, 1)) tx_lw_law_2 30 rfl
theorem d_lw_law_321 : decode code 321 = .ok (.iadd, 1) := zD (q := (321, .iadd, 1)) tx_lw_law_2 31 rfl
theorem d_lw_law_322 : decode code 322 = .ok (.iaload, 1) := zD (q := (322, .iaload, 1)) tx_lw_law_2 32 rfl
theorem d_lw_law_323 : decode code 323 = .ok (.aload_n 0, 1) := zD (q := (323, .aload_n 0, 1)) tx_lw_law_2 33 rfl
theorem d_lw_law_324 : decode code 324 = .ok (.iload 4, 2) := zD (q := (324, .iload 4, 2)) tx_lw_law_2 34 rfl
theorem d_lw_law_326 : decode code 326 = .ok (.iconst 2, 1) := zD (q := (326, .iconst 2, 1)) tx_lw_law_2 35 rfl
theorem d_lw_law_327 : decode code 327 = .ok (.iadd, 1) := zD (q := (327, .iadd, 1)) tx_lw_law_2 36 rfl
theorem d_lw_law_328 : decode code 328 = .ok (.iaload, 1) := zD (q := (328, .iaload, 1)) tx_lw_law_2 37 rfl
theorem d_lw_law_329 : decode code 329 = .ok (.aload_n 0, 1) := zD (q := (329, .aload_n 0, 1)) tx_lw_law_2 38 rfl
theorem d_lw_law_330 : decode code 330 = .ok (.iload 4, 2) := zD (q := (330, .iload 4, 2)) tx_lw_law_2 39 rfl
theorem d_lw_law_332 : decode code 332 = .ok (.iconst 3, 1) := zD (q := (332, .iconst 3, 1)) tx_lw_law_2 40 rfl
theorem d_lw_law_333 : decode code 333 = .ok (.iadd, 1) := zD (q := (333, .iadd, 1)) tx_lw_law_2 41 rfl
theorem d_lw_law_334 : decode code 334 = .ok (.iaload, 1) := zD (q := (334, .iaload, 1)) tx_lw_law_2 42 rfl
theorem d_lw_law_335 : decode code 335 = .ok (.aload_n 3, 1) := zD (q := (335, .aload_n 3, 1)) tx_lw_law_2 43 rfl
theorem d_lw_law_336 : decode code 336 = .ok (.invokestatic 93, 3) := zD (q := (336, .invokestatic 93, 3)) tx_lw_law_2 44 rfl
theorem d_lw_law_339 : decode code 339 = .ok (.istore 5, 2) := zD (q := (339, .istore 5, 2)) tx_lw_law_2 45 rfl
theorem d_lw_law_341 : decode code 341 = .ok (.aload_n 2, 1) := zD (q := (341, .aload_n 2, 1)) tx_lw_law_2 46 rfl
theorem d_lw_law_342 : decode code 342 = .ok (.aload_n 0, 1) := zD (q := (342, .aload_n 0, 1)) tx_lw_law_2 47 rfl
theorem d_lw_law_343 : decode code 343 = .ok (.iload 4, 2) := zD (q := (343, .iload 4, 2)) tx_lw_law_2 48 rfl
theorem d_lw_law_345 : decode code 345 = .ok (.iconst 1, 1) := zD (q := (345, .iconst 1, 1)) tx_lw_law_2 49 rfl
theorem d_lw_law_346 : decode code 346 = .ok (.iadd, 1) := zD (q := (346, .iadd, 1)) tx_lw_law_2 50 rfl
theorem d_lw_law_347 : decode code 347 = .ok (.iaload, 1) := zD (q := (347, .iaload, 1)) tx_lw_law_2 51 rfl
theorem d_lw_law_348 : decode code 348 = .ok (.aload_n 0, 1) := zD (q := (348, .aload_n 0, 1)) tx_lw_law_2 52 rfl
theorem d_lw_law_349 : decode code 349 = .ok (.iload 4, 2) := zD (q := (349, .iload 4, 2)) tx_lw_law_2 53 rfl
theorem d_lw_law_351 : decode code 351 = .ok (.iconst 2, 1) := zD (q := (351, .iconst 2, 1)) tx_lw_law_2 54 rfl
theorem d_lw_law_352 : decode code 352 = .ok (.iadd, 1) := zD (q := (352, .iadd, 1)) tx_lw_law_2 55 rfl
theorem d_lw_law_353 : decode code 353 = .ok (.iaload, 1) := zD (q := (353, .iaload, 1)) tx_lw_law_2 56 rfl
theorem d_lw_law_354 : decode code 354 = .ok (.aload_n 0, 1) := zD (q := (354, .aload_n 0, 1)) tx_lw_law_2 57 rfl
theorem d_lw_law_355 : decode code 355 = .ok (.iload 4, 2) := zD (q := (355, .iload 4, 2)) tx_lw_law_2 58 rfl
theorem d_lw_law_357 : decode code 357 = .ok (.iconst 3, 1) := zD (q := (357, .iconst 3, 1)) tx_lw_law_2 59 rfl
def T_lw_law_3 : List (Nat × Instr × Nat) := [(358, .iadd, 1), (359, .iaload, 1), (360, .invokevirtual 95, 3), (363, .istore 6, 2), (365, .aload_n 2, 1), (366, .invokevirtual 82, 3), (369, .iload 5, 2), (371, .if_icmp .eq 5, 3), (374, .iconst 0, 1), (375, .ireturn, 1), (376, .iload 5, 2), (378, .ifCond .ne 15, 3), (381, .aload_n 3, 1), (382, .iconst 0, 1), (383, .laload, 1), (384, .iload 6, 2), (386, .i2l, 1), (387, .lcmp, 1), (388, .ifCond .eq 5, 3), (391, .iconst 0, 1), (392, .ireturn, 1), (393, .goto 826, 3), (396, .aload_n 1, 1), (397, .aload_n 0, 1), (398, .iload 4, 2), (400, .iconst 1, 1), (401, .iadd, 1), (402, .iaload, 1), (403, .invokestatic 96, 3), (406, .istore 5, 2), (408, .aload_n 2, 1), (409, .aload_n 0, 1), (410, .iload 4, 2), (412, .iconst 1, 1), (413, .iadd, 1), (414, .iaload, 1), (415, .invokevirtual 98, 3), (418, .aload_n 2, 1), (419, .invokevirtual 82, 3), (422, .iload 5, 2), (424, .if_icmp .eq 5, 3), (427, .iconst 0, 1), (428, .ireturn, 1), (429, .goto 790, 3), (432, .aload_n 1, 1), (433, .aload_n 0, 1), (434, .iload 4, 2), (436, .iconst 1, 1), (437, .iadd, 1), (438, .iaload, 1), (439, .ifCond .eq 7, 3), (442, .iconst 1, 1), (443, .goto 4, 3), (446, .iconst 0, 1), (447, .invokevirtual 99, 3), (450, .aload_n 2, 1), (451, .aload_n 0, 1), (452, .iload 4, 2), (454, .iconst 1, 1), (455, .iadd, 1)]
theorem tx_lw_law_3 : zdec code T_lw_law_3 = true := by decide +kernel
theorem d_lw_law_358 : decode code 358 = .ok (.iadd, 1) := zD (q := (358, .iadd, 1)) tx_lw_law_3 0 rfl
theorem d_lw_law_359 : decode code 359 = .ok (.iaload, 1) := zD (q := (359, .iaload, 1)) tx_lw_law_3 1 rfl
theorem d_lw_law_360 : decode code 360 = .ok (.invokevirtual 95, 3) := zD (q := (360, .invokevirtual 95, 3)) tx_lw_law_3 2 rfl
theorem d_lw_law_363 : decode code 363 = .ok (.istore 6, 2) := zD (q := (363, .istore 6, 2)) tx_lw_law_3 3 rfl
theorem d_lw_law_365 : decode code 365 = .ok (.aload_n 2, 1) := zD (q := (365, .aload_n 2, 1)) tx_lw_law_3 4 rfl
theorem d_lw_law_366 : decode code 366 = .ok (.invokevirtual 82, 3) := zD (q := (366, .invokevirtual 82, 3)) tx_lw_law_3 5 rfl
theorem d_lw_law_369 : decode code 369 = .ok (.iload 5, 2) := zD (q := (369, .iload 5, 2)) tx_lw_law_3 6 rfl
theorem d_lw_law_371 : decode code 371 = .ok (.if_icmp .eq 5, 3) := zD (q := (371, .if_icmp .eq 5, 3)) tx_lw_law_3 7 rfl
theorem d_lw_law_374 : decode code 374 = .ok (.iconst 0, 1) := zD (q := (374, .iconst 0, 1)) tx_lw_law_3 8 rfl
theorem d_lw_law_375 : decode code 375 = .ok (.ireturn, 1) := zD (q := (375, .ireturn, 1)) tx_lw_law_3 9 rfl
theorem d_lw_law_376 : decode code 376 = .ok (.iload 5, 2) := zD (q := (376, .iload 5, 2)) tx_lw_law_3 10 rfl
theorem d_lw_law_378 : decode code 378 = .ok (.ifCond .ne 15, 3) := zD (q := (378, .ifCond .ne 15, 3)) tx_lw_law_3 11 rfl
theorem d_lw_law_381 : decode code 381 = .ok (.aload_n 3, 1) := zD (q := (381, .aload_n 3, 1)) tx_lw_law_3 12 rfl
theorem d_lw_law_382 : decode code 382 = .ok (.iconst 0, 1) := zD (q := (382, .iconst 0, 1)) tx_lw_law_3 13 rfl
theorem d_lw_law_383 : decode code 383 = .ok (.laload, 1) := zD (q := (383, .laload, 1)) tx_lw_law_3 14 rfl
theorem d_lw_law_384 : decode code 384 = .ok (.iload 6, 2) := zD (q := (384, .iload 6, 2)) tx_lw_law_3 15 rfl
theorem d_lw_law_386 : decode code 386 = .ok (.i2l, 1) := zD (q := (386, .i2l, 1)) tx_lw_law_3 16 rfl
theorem d_lw_law_387 : decode code 387 = .ok (.lcmp, 1) := zD (q := (387, .lcmp, 1)) tx_lw_law_3 17 rfl
theorem d_lw_law_388 : decode code 388 = .ok (.ifCond .eq 5, 3) := zD (q := (388, .ifCond .eq 5, 3)) tx_lw_law_3 18 rfl
theorem d_lw_law_391 : decode code 391 = .ok (.iconst 0, 1) := zD (q := (391, .iconst 0, 1)) tx_lw_law_3 19 rfl
theorem d_lw_law_392 : decode code 392 = .ok (.ireturn, 1) := zD (q := (392, .ireturn, 1)) tx_lw_law_3 20 rfl
theorem d_lw_law_393 : decode code 393 = .ok (.goto 826, 3) := zD (q := (393, .goto 826, 3)) tx_lw_law_3 21 rfl
theorem d_lw_law_396 : decode code 396 = .ok (.aload_n 1, 1) := zD (q := (396, .aload_n 1, 1)) tx_lw_law_3 22 rfl
theorem d_lw_law_397 : decode code 397 = .ok (.aload_n 0, 1) := zD (q := (397, .aload_n 0, 1)) tx_lw_law_3 23 rfl
theorem d_lw_law_398 : decode code 398 = .ok (.iload 4, 2) := zD (q := (398, .iload 4, 2)) tx_lw_law_3 24 rfl
theorem d_lw_law_400 : decode code 400 = .ok (.iconst 1, 1) := zD (q := (400, .iconst 1, 1)) tx_lw_law_3 25 rfl
theorem d_lw_law_401 : decode code 401 = .ok (.iadd, 1) := zD (q := (401, .iadd, 1)) tx_lw_law_3 26 rfl
theorem d_lw_law_402 : decode code 402 = .ok (.iaload, 1) := zD (q := (402, .iaload, 1)) tx_lw_law_3 27 rfl
theorem d_lw_law_403 : decode code 403 = .ok (.invokestatic 96, 3) := zD (q := (403, .invokestatic 96, 3)) tx_lw_law_3 28 rfl
theorem d_lw_law_406 : decode code 406 = .ok (.istore 5, 2) := zD (q := (406, .istore 5, 2)) tx_lw_law_3 29 rfl
theorem d_lw_law_408 : decode code 408 = .ok (.aload_n 2, 1) := zD (q := (408, .aload_n 2, 1)) tx_lw_law_3 30 rfl
theorem d_lw_law_409 : decode code 409 = .ok (.aload_n 0, 1) := zD (q := (409, .aload_n 0, 1)) tx_lw_law_3 31 rfl
theorem d_lw_law_410 : decode code 410 = .ok (.iload 4, 2) := zD (q := (410, .iload 4, 2)) tx_lw_law_3 32 rfl
theorem d_lw_law_412 : decode code 412 = .ok (.iconst 1, 1) := zD (q := (412, .iconst 1, 1)) tx_lw_law_3 33 rfl
theorem d_lw_law_413 : decode code 413 = .ok (.iadd, 1) := zD (q := (413, .iadd, 1)) tx_lw_law_3 34 rfl
theorem d_lw_law_414 : decode code 414 = .ok (.iaload, 1) := zD (q := (414, .iaload, 1)) tx_lw_law_3 35 rfl
theorem d_lw_law_415 : decode code 415 = .ok (.invokevirtual 98, 3) := zD (q := (415, .invokevirtual 98, 3)) tx_lw_law_3 36 rfl
theorem d_lw_law_418 : decode code 418 = .ok (.aload_n 2, 1) := zD (q := (418, .aload_n 2, 1)) tx_lw_law_3 37 rfl
theorem d_lw_law_419 : decode code 419 = .ok (.invokevirtual 82, 3) := zD (q := (419, .invokevirtual 82, 3)) tx_lw_law_3 38 rfl
theorem d_lw_law_422 : decode code 422 = .ok (.iload 5, 2) := zD (q := (422, .iload 5, 2)) tx_lw_law_3 39 rfl
theorem d_lw_law_424 : decode code 424 = .ok (.if_icmp .eq 5, 3) := zD (q := (424, .if_icmp .eq 5, 3)) tx_lw_law_3 40 rfl
theorem d_lw_law_427 : decode code 427 = .ok (.iconst 0, 1) := zD (q := (427, .iconst 0, 1)) tx_lw_law_3 41 rfl
theorem d_lw_law_428 : decode code 428 = .ok (.ireturn, 1) := zD (q := (428, .ireturn, 1)) tx_lw_law_3 42 rfl
theorem d_lw_law_429 : decode code 429 = .ok (.goto 790, 3) := zD (q := (429, .goto 790, 3)) tx_lw_law_3 43 rfl
theorem d_lw_law_432 : decode code 432 = .ok (.aload_n 1, 1) := zD (q := (432, .aload_n 1, 1)) tx_lw_law_3 44 rfl
theorem d_lw_law_433 : decode code 433 = .ok (.aload_n 0, 1) := zD (q := (433, .aload_n 0, 1)) tx_lw_law_3 45 rfl
theorem d_lw_law_434 : decode code 434 = .ok (.iload 4, 2) := zD (q := (434, .iload 4, 2)) tx_lw_law_3 46 rfl
theorem d_lw_law_436 : decode code 436 = .ok (.iconst 1, 1) := zD (q := (436, .iconst 1, 1)) tx_lw_law_3 47 rfl
theorem d_lw_law_437 : decode code 437 = .ok (.iadd, 1) := zD (q := (437, .iadd, 1)) tx_lw_law_3 48 rfl
theorem d_lw_law_438 : decode code 438 = .ok (.iaload, 1) := zD (q := (438, .iaload, 1)) tx_lw_law_3 49 rfl
theorem d_lw_law_439 : decode code 439 = .ok (.ifCond .eq 7, 3) := zD (q := (439, .ifCond .eq 7, 3)) tx_lw_law_3 50 rfl
theorem d_lw_law_442 : decode code 442 = .ok (.iconst 1, 1) := zD (q := (442, .iconst 1, 1)) tx_lw_law_3 51 rfl
theorem d_lw_law_443 : decode code 443 = .ok (.goto 4, 3) := zD (q := (443, .goto 4, 3)) tx_lw_law_3 52 rfl
theorem d_lw_law_446 : decode code 446 = .ok (.iconst 0, 1) := zD (q := (446, .iconst 0, 1)) tx_lw_law_3 53 rfl
theorem d_lw_law_447 : decode code 447 = .ok (.invokevirtual 99, 3) := zD (q := (447, .invokevirtual 99, 3)) tx_lw_law_3 54 rfl
theorem d_lw_law_450 : decode code 450 = .ok (.aload_n 2, 1) := zD (q := (450, .aload_n 2, 1)) tx_lw_law_3 55 rfl
theorem d_lw_law_451 : decode code 451 = .ok (.aload_n 0, 1) := zD (q := (451, .aload_n 0, 1)) tx_lw_law_3 56 rfl
theorem d_lw_law_452 : decode code 452 = .ok (.iload 4, 2) := zD (q := (452, .iload 4, 2)) tx_lw_law_3 57 rfl
theorem d_lw_law_454 : decode code 454 = .ok (.iconst 1, 1) := zD (q := (454, .iconst 1, 1)) tx_lw_law_3 58 rfl
theorem d_lw_law_455 : decode code 455 = .ok (.iadd, 1) := zD (q := (455, .iadd, 1)) tx_lw_law_3 59 rfl
def T_lw_law_4 : List (Nat × Instr × Nat) := [(456, .iaload, 1), (457, .ifCond .eq 7, 3), (460, .iconst 1, 1), (461, .goto 4, 3), (464, .iconst 0, 1), (465, .invokevirtual 103, 3), (468, .if_icmp .eq 751, 3), (471, .iconst 0, 1), (472, .ireturn, 1), (473, .aload_n 1, 1), (474, .aload_n 0, 1), (475, .iload 4, 2), (477, .iconst 1, 1), (478, .iadd, 1), (479, .iaload, 1), (480, .aload_n 3, 1), (481, .invokestatic 104, 3), (484, .istore 5, 2), (486, .aload_n 2, 1), (487, .aload_n 0, 1), (488, .iload 4, 2), (490, .iconst 1, 1), (491, .iadd, 1), (492, .iaload, 1), (493, .invokevirtual 107, 3), (496, .istore 6, 2), (498, .aload_n 2, 1), (499, .invokevirtual 82, 3), (502, .iload 5, 2), (504, .if_icmp .eq 5, 3), (507, .iconst 0, 1), (508, .ireturn, 1), (509, .iload 5, 2), (511, .ifCond .ne 15, 3), (514, .aload_n 3, 1), (515, .iconst 0, 1), (516, .laload, 1), (517, .iload 6, 2), (519, .i2l, 1), (520, .lcmp, 1), (521, .ifCond .eq 5, 3), (524, .iconst 0, 1), (525, .ireturn, 1), (526, .goto 693, 3), (529, .aload_n 1, 1), (530, .invokevirtual 108, 3), (533, .aload_n 2, 1), (534, .invokevirtual 111, 3), (537, .if_icmp .eq 682, 3), (540, .iconst 0, 1), (541, .ireturn, 1), (542, .aload_n 1, 1), (543, .aload_n 0, 1), (544, .iload 4, 2), (546, .iconst 1, 1), (547, .iadd, 1), (548, .iaload, 1), (549, .aload_n 0, 1), (550, .iload 4, 2), (552, .iconst 2, 1)]
theorem tx_lw_law_4 : zdec code T_lw_law_4 = true := by decide +kernel
theorem d_lw_law_456 : decode code 456 = .ok (.iaload, 1) := zD (q := (456, .iaload, 1)) tx_lw_law_4 0 rfl
theorem d_lw_law_457 : decode code 457 = .ok (.ifCond .eq 7, 3) := zD (q := (457, .ifCond .eq 7, 3)) tx_lw_law_4 1 rfl
theorem d_lw_law_460 : decode code 460 = .ok (.iconst 1, 1) := zD (q := (460, .iconst 1, 1)) tx_lw_law_4 2 rfl
theorem d_lw_law_461 : decode code 461 = .ok (.goto 4, 3) := zD (q := (461, .goto 4, 3)) tx_lw_law_4 3 rfl
theorem d_lw_law_464 : decode code 464 = .ok (.iconst 0, 1) := zD (q := (464, .iconst 0, 1)) tx_lw_law_4 4 rfl
theorem d_lw_law_465 : decode code 465 = .ok (.invokevirtual 103, 3) := zD (q := (465, .invokevirtual 103, 3)) tx_lw_law_4 5 rfl
theorem d_lw_law_468 : decode code 468 = .ok (.if_icmp .eq 751, 3) := zD (q := (468, .if_icmp .eq 751, 3)) tx_lw_law_4 6 rfl
theorem d_lw_law_471 : decode code 471 = .ok (.iconst 0, 1) := zD (q := (471, .iconst 0, 1)) tx_lw_law_4 7 rfl
theorem d_lw_law_472 : decode code 472 = .ok (.ireturn, 1) := zD (q := (472, .ireturn, 1)) tx_lw_law_4 8 rfl
theorem d_lw_law_473 : decode code 473 = .ok (.aload_n 1, 1) := zD (q := (473, .aload_n 1, 1)) tx_lw_law_4 9 rfl
theorem d_lw_law_474 : decode code 474 = .ok (.aload_n 0, 1) := zD (q := (474, .aload_n 0, 1)) tx_lw_law_4 10 rfl
theorem d_lw_law_475 : decode code 475 = .ok (.iload 4, 2) := zD (q := (475, .iload 4, 2)) tx_lw_law_4 11 rfl
theorem d_lw_law_477 : decode code 477 = .ok (.iconst 1, 1) := zD (q := (477, .iconst 1, 1)) tx_lw_law_4 12 rfl
theorem d_lw_law_478 : decode code 478 = .ok (.iadd, 1) := zD (q := (478, .iadd, 1)) tx_lw_law_4 13 rfl
theorem d_lw_law_479 : decode code 479 = .ok (.iaload, 1) := zD (q := (479, .iaload, 1)) tx_lw_law_4 14 rfl
theorem d_lw_law_480 : decode code 480 = .ok (.aload_n 3, 1) := zD (q := (480, .aload_n 3, 1)) tx_lw_law_4 15 rfl
theorem d_lw_law_481 : decode code 481 = .ok (.invokestatic 104, 3) := zD (q := (481, .invokestatic 104, 3)) tx_lw_law_4 16 rfl
theorem d_lw_law_484 : decode code 484 = .ok (.istore 5, 2) := zD (q := (484, .istore 5, 2)) tx_lw_law_4 17 rfl
theorem d_lw_law_486 : decode code 486 = .ok (.aload_n 2, 1) := zD (q := (486, .aload_n 2, 1)) tx_lw_law_4 18 rfl
theorem d_lw_law_487 : decode code 487 = .ok (.aload_n 0, 1) := zD (q := (487, .aload_n 0, 1)) tx_lw_law_4 19 rfl
theorem d_lw_law_488 : decode code 488 = .ok (.iload 4, 2) := zD (q := (488, .iload 4, 2)) tx_lw_law_4 20 rfl
theorem d_lw_law_490 : decode code 490 = .ok (.iconst 1, 1) := zD (q := (490, .iconst 1, 1)) tx_lw_law_4 21 rfl
theorem d_lw_law_491 : decode code 491 = .ok (.iadd, 1) := zD (q := (491, .iadd, 1)) tx_lw_law_4 22 rfl
theorem d_lw_law_492 : decode code 492 = .ok (.iaload, 1) := zD (q := (492, .iaload, 1)) tx_lw_law_4 23 rfl
theorem d_lw_law_493 : decode code 493 = .ok (.invokevirtual 107, 3) := zD (q := (493, .invokevirtual 107, 3)) tx_lw_law_4 24 rfl
theorem d_lw_law_496 : decode code 496 = .ok (.istore 6, 2) := zD (q := (496, .istore 6, 2)) tx_lw_law_4 25 rfl
theorem d_lw_law_498 : decode code 498 = .ok (.aload_n 2, 1) := zD (q := (498, .aload_n 2, 1)) tx_lw_law_4 26 rfl
theorem d_lw_law_499 : decode code 499 = .ok (.invokevirtual 82, 3) := zD (q := (499, .invokevirtual 82, 3)) tx_lw_law_4 27 rfl
theorem d_lw_law_502 : decode code 502 = .ok (.iload 5, 2) := zD (q := (502, .iload 5, 2)) tx_lw_law_4 28 rfl
theorem d_lw_law_504 : decode code 504 = .ok (.if_icmp .eq 5, 3) := zD (q := (504, .if_icmp .eq 5, 3)) tx_lw_law_4 29 rfl
theorem d_lw_law_507 : decode code 507 = .ok (.iconst 0, 1) := zD (q := (507, .iconst 0, 1)) tx_lw_law_4 30 rfl
theorem d_lw_law_508 : decode code 508 = .ok (.ireturn, 1) := zD (q := (508, .ireturn, 1)) tx_lw_law_4 31 rfl
theorem d_lw_law_509 : decode code 509 = .ok (.iload 5, 2) := zD (q := (509, .iload 5, 2)) tx_lw_law_4 32 rfl
theorem d_lw_law_511 : decode code 511 = .ok (.ifCond .ne 15, 3) := zD (q := (511, .ifCond .ne 15, 3)) tx_lw_law_4 33 rfl
theorem d_lw_law_514 : decode code 514 = .ok (.aload_n 3, 1) := zD (q := (514, .aload_n 3, 1)) tx_lw_law_4 34 rfl
theorem d_lw_law_515 : decode code 515 = .ok (.iconst 0, 1) := zD (q := (515, .iconst 0, 1)) tx_lw_law_4 35 rfl
theorem d_lw_law_516 : decode code 516 = .ok (.laload, 1) := zD (q := (516, .laload, 1)) tx_lw_law_4 36 rfl
theorem d_lw_law_517 : decode code 517 = .ok (.iload 6, 2) := zD (q := (517, .iload 6, 2)) tx_lw_law_4 37 rfl
theorem d_lw_law_519 : decode code 519 = .ok (.i2l, 1) := zD (q := (519, .i2l, 1)) tx_lw_law_4 38 rfl
theorem d_lw_law_520 : decode code 520 = .ok (.lcmp, 1) := zD (q := (520, .lcmp, 1)) tx_lw_law_4 39 rfl
theorem d_lw_law_521 : decode code 521 = .ok (.ifCond .eq 5, 3) := zD (q := (521, .ifCond .eq 5, 3)) tx_lw_law_4 40 rfl
theorem d_lw_law_524 : decode code 524 = .ok (.iconst 0, 1) := zD (q := (524, .iconst 0, 1)) tx_lw_law_4 41 rfl
theorem d_lw_law_525 : decode code 525 = .ok (.ireturn, 1) := zD (q := (525, .ireturn, 1)) tx_lw_law_4 42 rfl
theorem d_lw_law_526 : decode code 526 = .ok (.goto 693, 3) := zD (q := (526, .goto 693, 3)) tx_lw_law_4 43 rfl
theorem d_lw_law_529 : decode code 529 = .ok (.aload_n 1, 1) := zD (q := (529, .aload_n 1, 1)) tx_lw_law_4 44 rfl
theorem d_lw_law_530 : decode code 530 = .ok (.invokevirtual 108, 3) := zD (q := (530, .invokevirtual 108, 3)) tx_lw_law_4 45 rfl
theorem d_lw_law_533 : decode code 533 = .ok (.aload_n 2, 1) := zD (q := (533, .aload_n 2, 1)) tx_lw_law_4 46 rfl
theorem d_lw_law_534 : decode code 534 = .ok (.invokevirtual 111, 3) := zD (q := (534, .invokevirtual 111, 3)) tx_lw_law_4 47 rfl
theorem d_lw_law_537 : decode code 537 = .ok (.if_icmp .eq 682, 3) := zD (q := (537, .if_icmp .eq 682, 3)) tx_lw_law_4 48 rfl
theorem d_lw_law_540 : decode code 540 = .ok (.iconst 0, 1) := zD (q := (540, .iconst 0, 1)) tx_lw_law_4 49 rfl
theorem d_lw_law_541 : decode code 541 = .ok (.ireturn, 1) := zD (q := (541, .ireturn, 1)) tx_lw_law_4 50 rfl
theorem d_lw_law_542 : decode code 542 = .ok (.aload_n 1, 1) := zD (q := (542, .aload_n 1, 1)) tx_lw_law_4 51 rfl
theorem d_lw_law_543 : decode code 543 = .ok (.aload_n 0, 1) := zD (q := (543, .aload_n 0, 1)) tx_lw_law_4 52 rfl
theorem d_lw_law_544 : decode code 544 = .ok (.iload 4, 2) := zD (q := (544, .iload 4, 2)) tx_lw_law_4 53 rfl
theorem d_lw_law_546 : decode code 546 = .ok (.iconst 1, 1) := zD (q := (546, .iconst 1, 1)) tx_lw_law_4 54 rfl
theorem d_lw_law_547 : decode code 547 = .ok (.iadd, 1) := zD (q := (547, .iadd, 1)) tx_lw_law_4 55 rfl
theorem d_lw_law_548 : decode code 548 = .ok (.iaload, 1) := zD (q := (548, .iaload, 1)) tx_lw_law_4 56 rfl
theorem d_lw_law_549 : decode code 549 = .ok (.aload_n 0, 1) := zD (q := (549, .aload_n 0, 1)) tx_lw_law_4 57 rfl
theorem d_lw_law_550 : decode code 550 = .ok (.iload 4, 2) := zD (q := (550, .iload 4, 2)) tx_lw_law_4 58 rfl
theorem d_lw_law_552 : decode code 552 = .ok (.iconst 2, 1) := zD (q := (552, .iconst 2, 1)) tx_lw_law_4 59 rfl
def T_lw_law_5 : List (Nat × Instr × Nat) := [(553, .iadd, 1), (554, .iaload, 1), (555, .aload_n 3, 1), (556, .invokestatic 112, 3), (559, .istore 5, 2), (561, .aload_n 2, 1), (562, .aload_n 0, 1), (563, .iload 4, 2), (565, .iconst 1, 1), (566, .iadd, 1), (567, .iaload, 1), (568, .aload_n 0, 1), (569, .iload 4, 2), (571, .iconst 2, 1), (572, .iadd, 1), (573, .iaload, 1), (574, .invokevirtual 114, 3), (577, .istore 6, 2), (579, .aload_n 2, 1), (580, .invokevirtual 82, 3), (583, .iload 5, 2), (585, .if_icmp .eq 5, 3), (588, .iconst 0, 1), (589, .ireturn, 1), (590, .iload 5, 2), (592, .ifCond .ne 15, 3), (595, .aload_n 3, 1), (596, .iconst 0, 1), (597, .laload, 1), (598, .iload 6, 2), (600, .i2l, 1), (601, .lcmp, 1), (602, .ifCond .eq 5, 3), (605, .iconst 0, 1), (606, .ireturn, 1), (607, .goto 612, 3), (610, .aload_n 1, 1), (611, .aload_n 0, 1), (612, .iload 4, 2), (614, .iconst 1, 1), (615, .iadd, 1), (616, .iaload, 1), (617, .aload_n 0, 1), (618, .iload 4, 2), (620, .iconst 2, 1), (621, .iadd, 1), (622, .iaload, 1), (623, .aload_n 3, 1), (624, .invokestatic 115, 3), (627, .istore 5, 2), (629, .aload_n 2, 1), (630, .aload_n 0, 1), (631, .iload 4, 2), (633, .iconst 1, 1), (634, .iadd, 1), (635, .iaload, 1), (636, .aload_n 0, 1), (637, .iload 4, 2), (639, .iconst 2, 1), (640, .iadd, 1)]
theorem tx_lw_law_5 : zdec code T_lw_law_5 = true := by decide +kernel
theorem d_lw_law_553 : decode code 553 = .ok (.iadd, 1) := zD (q := (553, .iadd, 1)) tx_lw_law_5 0 rfl
theorem d_lw_law_554 : decode code 554 = .ok (.iaload, 1) := zD (q := (554, .iaload, 1)) tx_lw_law_5 1 rfl
theorem d_lw_law_555 : decode code 555 = .ok (.aload_n 3, 1) := zD (q := (555, .aload_n 3, 1)) tx_lw_law_5 2 rfl
theorem d_lw_law_556 : decode code 556 = .ok (.invokestatic 112, 3) := zD (q := (556, .invokestatic 112, 3)) tx_lw_law_5 3 rfl
theorem d_lw_law_559 : decode code 559 = .ok (.istore 5, 2) := zD (q := (559, .istore 5, 2)) tx_lw_law_5 4 rfl
theorem d_lw_law_561 : decode code 561 = .ok (.aload_n 2, 1) := zD (q := (561, .aload_n 2, 1)) tx_lw_law_5 5 rfl
theorem d_lw_law_562 : decode code 562 = .ok (.aload_n 0, 1) := zD (q := (562, .aload_n 0, 1)) tx_lw_law_5 6 rfl
theorem d_lw_law_563 : decode code 563 = .ok (.iload 4, 2) := zD (q := (563, .iload 4, 2)) tx_lw_law_5 7 rfl
theorem d_lw_law_565 : decode code 565 = .ok (.iconst 1, 1) := zD (q := (565, .iconst 1, 1)) tx_lw_law_5 8 rfl
theorem d_lw_law_566 : decode code 566 = .ok (.iadd, 1) := zD (q := (566, .iadd, 1)) tx_lw_law_5 9 rfl
theorem d_lw_law_567 : decode code 567 = .ok (.iaload, 1) := zD (q := (567, .iaload, 1)) tx_lw_law_5 10 rfl
theorem d_lw_law_568 : decode code 568 = .ok (.aload_n 0, 1) := zD (q := (568, .aload_n 0, 1)) tx_lw_law_5 11 rfl
theorem d_lw_law_569 : decode code 569 = .ok (.iload 4, 2) := zD (q := (569, .iload 4, 2)) tx_lw_law_5 12 rfl
theorem d_lw_law_571 : decode code 571 = .ok (.iconst 2, 1) := zD (q := (571, .iconst 2, 1)) tx_lw_law_5 13 rfl
theorem d_lw_law_572 : decode code 572 = .ok (.iadd, 1) := zD (q := (572, .iadd, 1)) tx_lw_law_5 14 rfl
theorem d_lw_law_573 : decode code 573 = .ok (.iaload, 1) := zD (q := (573, .iaload, 1)) tx_lw_law_5 15 rfl
theorem d_lw_law_574 : decode code 574 = .ok (.invokevirtual 114, 3) := zD (q := (574, .invokevirtual 114, 3)) tx_lw_law_5 16 rfl
theorem d_lw_law_577 : decode code 577 = .ok (.istore 6, 2) := zD (q := (577, .istore 6, 2)) tx_lw_law_5 17 rfl
theorem d_lw_law_579 : decode code 579 = .ok (.aload_n 2, 1) := zD (q := (579, .aload_n 2, 1)) tx_lw_law_5 18 rfl
theorem d_lw_law_580 : decode code 580 = .ok (.invokevirtual 82, 3) := zD (q := (580, .invokevirtual 82, 3)) tx_lw_law_5 19 rfl
theorem d_lw_law_583 : decode code 583 = .ok (.iload 5, 2) := zD (q := (583, .iload 5, 2)) tx_lw_law_5 20 rfl
theorem d_lw_law_585 : decode code 585 = .ok (.if_icmp .eq 5, 3) := zD (q := (585, .if_icmp .eq 5, 3)) tx_lw_law_5 21 rfl
theorem d_lw_law_588 : decode code 588 = .ok (.iconst 0, 1) := zD (q := (588, .iconst 0, 1)) tx_lw_law_5 22 rfl
theorem d_lw_law_589 : decode code 589 = .ok (.ireturn, 1) := zD (q := (589, .ireturn, 1)) tx_lw_law_5 23 rfl
theorem d_lw_law_590 : decode code 590 = .ok (.iload 5, 2) := zD (q := (590, .iload 5, 2)) tx_lw_law_5 24 rfl
theorem d_lw_law_592 : decode code 592 = .ok (.ifCond .ne 15, 3) := zD (q := (592, .ifCond .ne 15, 3)) tx_lw_law_5 25 rfl
theorem d_lw_law_595 : decode code 595 = .ok (.aload_n 3, 1) := zD (q := (595, .aload_n 3, 1)) tx_lw_law_5 26 rfl
theorem d_lw_law_596 : decode code 596 = .ok (.iconst 0, 1) := zD (q := (596, .iconst 0, 1)) tx_lw_law_5 27 rfl
theorem d_lw_law_597 : decode code 597 = .ok (.laload, 1) := zD (q := (597, .laload, 1)) tx_lw_law_5 28 rfl
theorem d_lw_law_598 : decode code 598 = .ok (.iload 6, 2) := zD (q := (598, .iload 6, 2)) tx_lw_law_5 29 rfl
theorem d_lw_law_600 : decode code 600 = .ok (.i2l, 1) := zD (q := (600, .i2l, 1)) tx_lw_law_5 30 rfl
theorem d_lw_law_601 : decode code 601 = .ok (.lcmp, 1) := zD (q := (601, .lcmp, 1)) tx_lw_law_5 31 rfl
theorem d_lw_law_602 : decode code 602 = .ok (.ifCond .eq 5, 3) := zD (q := (602, .ifCond .eq 5, 3)) tx_lw_law_5 32 rfl
theorem d_lw_law_605 : decode code 605 = .ok (.iconst 0, 1) := zD (q := (605, .iconst 0, 1)) tx_lw_law_5 33 rfl
theorem d_lw_law_606 : decode code 606 = .ok (.ireturn, 1) := zD (q := (606, .ireturn, 1)) tx_lw_law_5 34 rfl
theorem d_lw_law_607 : decode code 607 = .ok (.goto 612, 3) := zD (q := (607, .goto 612, 3)) tx_lw_law_5 35 rfl
theorem d_lw_law_610 : decode code 610 = .ok (.aload_n 1, 1) := zD (q := (610, .aload_n 1, 1)) tx_lw_law_5 36 rfl
theorem d_lw_law_611 : decode code 611 = .ok (.aload_n 0, 1) := zD (q := (611, .aload_n 0, 1)) tx_lw_law_5 37 rfl
theorem d_lw_law_612 : decode code 612 = .ok (.iload 4, 2) := zD (q := (612, .iload 4, 2)) tx_lw_law_5 38 rfl
theorem d_lw_law_614 : decode code 614 = .ok (.iconst 1, 1) := zD (q := (614, .iconst 1, 1)) tx_lw_law_5 39 rfl
theorem d_lw_law_615 : decode code 615 = .ok (.iadd, 1) := zD (q := (615, .iadd, 1)) tx_lw_law_5 40 rfl
theorem d_lw_law_616 : decode code 616 = .ok (.iaload, 1) := zD (q := (616, .iaload, 1)) tx_lw_law_5 41 rfl
theorem d_lw_law_617 : decode code 617 = .ok (.aload_n 0, 1) := zD (q := (617, .aload_n 0, 1)) tx_lw_law_5 42 rfl
theorem d_lw_law_618 : decode code 618 = .ok (.iload 4, 2) := zD (q := (618, .iload 4, 2)) tx_lw_law_5 43 rfl
theorem d_lw_law_620 : decode code 620 = .ok (.iconst 2, 1) := zD (q := (620, .iconst 2, 1)) tx_lw_law_5 44 rfl
theorem d_lw_law_621 : decode code 621 = .ok (.iadd, 1) := zD (q := (621, .iadd, 1)) tx_lw_law_5 45 rfl
theorem d_lw_law_622 : decode code 622 = .ok (.iaload, 1) := zD (q := (622, .iaload, 1)) tx_lw_law_5 46 rfl
theorem d_lw_law_623 : decode code 623 = .ok (.aload_n 3, 1) := zD (q := (623, .aload_n 3, 1)) tx_lw_law_5 47 rfl
theorem d_lw_law_624 : decode code 624 = .ok (.invokestatic 115, 3) := zD (q := (624, .invokestatic 115, 3)) tx_lw_law_5 48 rfl
theorem d_lw_law_627 : decode code 627 = .ok (.istore 5, 2) := zD (q := (627, .istore 5, 2)) tx_lw_law_5 49 rfl
theorem d_lw_law_629 : decode code 629 = .ok (.aload_n 2, 1) := zD (q := (629, .aload_n 2, 1)) tx_lw_law_5 50 rfl
theorem d_lw_law_630 : decode code 630 = .ok (.aload_n 0, 1) := zD (q := (630, .aload_n 0, 1)) tx_lw_law_5 51 rfl
theorem d_lw_law_631 : decode code 631 = .ok (.iload 4, 2) := zD (q := (631, .iload 4, 2)) tx_lw_law_5 52 rfl
theorem d_lw_law_633 : decode code 633 = .ok (.iconst 1, 1) := zD (q := (633, .iconst 1, 1)) tx_lw_law_5 53 rfl
theorem d_lw_law_634 : decode code 634 = .ok (.iadd, 1) := zD (q := (634, .iadd, 1)) tx_lw_law_5 54 rfl
theorem d_lw_law_635 : decode code 635 = .ok (.iaload, 1) := zD (q := (635, .iaload, 1)) tx_lw_law_5 55 rfl
theorem d_lw_law_636 : decode code 636 = .ok (.aload_n 0, 1) := zD (q := (636, .aload_n 0, 1)) tx_lw_law_5 56 rfl
theorem d_lw_law_637 : decode code 637 = .ok (.iload 4, 2) := zD (q := (637, .iload 4, 2)) tx_lw_law_5 57 rfl
theorem d_lw_law_639 : decode code 639 = .ok (.iconst 2, 1) := zD (q := (639, .iconst 2, 1)) tx_lw_law_5 58 rfl
theorem d_lw_law_640 : decode code 640 = .ok (.iadd, 1) := zD (q := (640, .iadd, 1)) tx_lw_law_5 59 rfl
def T_lw_law_6 : List (Nat × Instr × Nat) := [(641, .iaload, 1), (642, .invokevirtual 117, 3), (645, .istore 6, 2), (647, .aload_n 2, 1), (648, .invokevirtual 82, 3), (651, .iload 5, 2), (653, .if_icmp .eq 5, 3), (656, .iconst 0, 1), (657, .ireturn, 1), (658, .iload 5, 2), (660, .ifCond .ne 15, 3), (663, .aload_n 3, 1), (664, .iconst 0, 1), (665, .laload, 1), (666, .iload 6, 2), (668, .i2l, 1), (669, .lcmp, 1), (670, .ifCond .eq 5, 3), (673, .iconst 0, 1), (674, .ireturn, 1), (675, .goto 544, 3), (678, .aload_n 1, 1), (679, .aload_n 0, 1), (680, .iload 4, 2), (682, .iconst 1, 1), (683, .iadd, 1), (684, .iaload, 1), (685, .aload_n 3, 1), (686, .invokestatic 118, 3), (689, .istore 5, 2), (691, .aload_n 2, 1), (692, .aload_n 0, 1), (693, .iload 4, 2), (695, .iconst 1, 1), (696, .iadd, 1), (697, .iaload, 1), (698, .invokevirtual 120, 3), (701, .istore 6, 2), (703, .aload_n 2, 1), (704, .invokevirtual 82, 3), (707, .iload 5, 2), (709, .if_icmp .eq 5, 3), (712, .iconst 0, 1), (713, .ireturn, 1), (714, .iload 5, 2), (716, .ifCond .ne 15, 3), (719, .aload_n 3, 1), (720, .iconst 0, 1), (721, .laload, 1), (722, .iload 6, 2), (724, .i2l, 1), (725, .lcmp, 1), (726, .ifCond .eq 5, 3), (729, .iconst 0, 1), (730, .ireturn, 1), (731, .goto 488, 3), (734, .aload_n 1, 1), (735, .invokevirtual 121, 3), (738, .aload_n 2, 1), (739, .invokevirtual 124, 3)]
theorem tx_lw_law_6 : zdec code T_lw_law_6 = true := by decide +kernel
theorem d_lw_law_641 : decode code 641 = .ok (.iaload, 1) := zD (q := (641, .iaload, 1)) tx_lw_law_6 0 rfl
theorem d_lw_law_642 : decode code 642 = .ok (.invokevirtual 117, 3) := zD (q := (642, .invokevirtual 117, 3)) tx_lw_law_6 1 rfl
theorem d_lw_law_645 : decode code 645 = .ok (.istore 6, 2) := zD (q := (645, .istore 6, 2)) tx_lw_law_6 2 rfl
theorem d_lw_law_647 : decode code 647 = .ok (.aload_n 2, 1) := zD (q := (647, .aload_n 2, 1)) tx_lw_law_6 3 rfl
theorem d_lw_law_648 : decode code 648 = .ok (.invokevirtual 82, 3) := zD (q := (648, .invokevirtual 82, 3)) tx_lw_law_6 4 rfl
theorem d_lw_law_651 : decode code 651 = .ok (.iload 5, 2) := zD (q := (651, .iload 5, 2)) tx_lw_law_6 5 rfl
theorem d_lw_law_653 : decode code 653 = .ok (.if_icmp .eq 5, 3) := zD (q := (653, .if_icmp .eq 5, 3)) tx_lw_law_6 6 rfl
theorem d_lw_law_656 : decode code 656 = .ok (.iconst 0, 1) := zD (q := (656, .iconst 0, 1)) tx_lw_law_6 7 rfl
theorem d_lw_law_657 : decode code 657 = .ok (.ireturn, 1) := zD (q := (657, .ireturn, 1)) tx_lw_law_6 8 rfl
theorem d_lw_law_658 : decode code 658 = .ok (.iload 5, 2) := zD (q := (658, .iload 5, 2)) tx_lw_law_6 9 rfl
theorem d_lw_law_660 : decode code 660 = .ok (.ifCond .ne 15, 3) := zD (q := (660, .ifCond .ne 15, 3)) tx_lw_law_6 10 rfl
theorem d_lw_law_663 : decode code 663 = .ok (.aload_n 3, 1) := zD (q := (663, .aload_n 3, 1)) tx_lw_law_6 11 rfl
theorem d_lw_law_664 : decode code 664 = .ok (.iconst 0, 1) := zD (q := (664, .iconst 0, 1)) tx_lw_law_6 12 rfl
theorem d_lw_law_665 : decode code 665 = .ok (.laload, 1) := zD (q := (665, .laload, 1)) tx_lw_law_6 13 rfl
theorem d_lw_law_666 : decode code 666 = .ok (.iload 6, 2) := zD (q := (666, .iload 6, 2)) tx_lw_law_6 14 rfl
theorem d_lw_law_668 : decode code 668 = .ok (.i2l, 1) := zD (q := (668, .i2l, 1)) tx_lw_law_6 15 rfl
theorem d_lw_law_669 : decode code 669 = .ok (.lcmp, 1) := zD (q := (669, .lcmp, 1)) tx_lw_law_6 16 rfl
theorem d_lw_law_670 : decode code 670 = .ok (.ifCond .eq 5, 3) := zD (q := (670, .ifCond .eq 5, 3)) tx_lw_law_6 17 rfl
theorem d_lw_law_673 : decode code 673 = .ok (.iconst 0, 1) := zD (q := (673, .iconst 0, 1)) tx_lw_law_6 18 rfl
theorem d_lw_law_674 : decode code 674 = .ok (.ireturn, 1) := zD (q := (674, .ireturn, 1)) tx_lw_law_6 19 rfl
theorem d_lw_law_675 : decode code 675 = .ok (.goto 544, 3) := zD (q := (675, .goto 544, 3)) tx_lw_law_6 20 rfl
theorem d_lw_law_678 : decode code 678 = .ok (.aload_n 1, 1) := zD (q := (678, .aload_n 1, 1)) tx_lw_law_6 21 rfl
theorem d_lw_law_679 : decode code 679 = .ok (.aload_n 0, 1) := zD (q := (679, .aload_n 0, 1)) tx_lw_law_6 22 rfl
theorem d_lw_law_680 : decode code 680 = .ok (.iload 4, 2) := zD (q := (680, .iload 4, 2)) tx_lw_law_6 23 rfl
theorem d_lw_law_682 : decode code 682 = .ok (.iconst 1, 1) := zD (q := (682, .iconst 1, 1)) tx_lw_law_6 24 rfl
theorem d_lw_law_683 : decode code 683 = .ok (.iadd, 1) := zD (q := (683, .iadd, 1)) tx_lw_law_6 25 rfl
theorem d_lw_law_684 : decode code 684 = .ok (.iaload, 1) := zD (q := (684, .iaload, 1)) tx_lw_law_6 26 rfl
theorem d_lw_law_685 : decode code 685 = .ok (.aload_n 3, 1) := zD (q := (685, .aload_n 3, 1)) tx_lw_law_6 27 rfl
theorem d_lw_law_686 : decode code 686 = .ok (.invokestatic 118, 3) := zD (q := (686, .invokestatic 118, 3)) tx_lw_law_6 28 rfl
theorem d_lw_law_689 : decode code 689 = .ok (.istore 5, 2) := zD (q := (689, .istore 5, 2)) tx_lw_law_6 29 rfl
theorem d_lw_law_691 : decode code 691 = .ok (.aload_n 2, 1) := zD (q := (691, .aload_n 2, 1)) tx_lw_law_6 30 rfl
theorem d_lw_law_692 : decode code 692 = .ok (.aload_n 0, 1) := zD (q := (692, .aload_n 0, 1)) tx_lw_law_6 31 rfl
theorem d_lw_law_693 : decode code 693 = .ok (.iload 4, 2) := zD (q := (693, .iload 4, 2)) tx_lw_law_6 32 rfl
theorem d_lw_law_695 : decode code 695 = .ok (.iconst 1, 1) := zD (q := (695, .iconst 1, 1)) tx_lw_law_6 33 rfl
theorem d_lw_law_696 : decode code 696 = .ok (.iadd, 1) := zD (q := (696, .iadd, 1)) tx_lw_law_6 34 rfl
theorem d_lw_law_697 : decode code 697 = .ok (.iaload, 1) := zD (q := (697, .iaload, 1)) tx_lw_law_6 35 rfl
theorem d_lw_law_698 : decode code 698 = .ok (.invokevirtual 120, 3) := zD (q := (698, .invokevirtual 120, 3)) tx_lw_law_6 36 rfl
theorem d_lw_law_701 : decode code 701 = .ok (.istore 6, 2) := zD (q := (701, .istore 6, 2)) tx_lw_law_6 37 rfl
theorem d_lw_law_703 : decode code 703 = .ok (.aload_n 2, 1) := zD (q := (703, .aload_n 2, 1)) tx_lw_law_6 38 rfl
theorem d_lw_law_704 : decode code 704 = .ok (.invokevirtual 82, 3) := zD (q := (704, .invokevirtual 82, 3)) tx_lw_law_6 39 rfl
theorem d_lw_law_707 : decode code 707 = .ok (.iload 5, 2) := zD (q := (707, .iload 5, 2)) tx_lw_law_6 40 rfl
theorem d_lw_law_709 : decode code 709 = .ok (.if_icmp .eq 5, 3) := zD (q := (709, .if_icmp .eq 5, 3)) tx_lw_law_6 41 rfl
theorem d_lw_law_712 : decode code 712 = .ok (.iconst 0, 1) := zD (q := (712, .iconst 0, 1)) tx_lw_law_6 42 rfl
theorem d_lw_law_713 : decode code 713 = .ok (.ireturn, 1) := zD (q := (713, .ireturn, 1)) tx_lw_law_6 43 rfl
theorem d_lw_law_714 : decode code 714 = .ok (.iload 5, 2) := zD (q := (714, .iload 5, 2)) tx_lw_law_6 44 rfl
theorem d_lw_law_716 : decode code 716 = .ok (.ifCond .ne 15, 3) := zD (q := (716, .ifCond .ne 15, 3)) tx_lw_law_6 45 rfl
theorem d_lw_law_719 : decode code 719 = .ok (.aload_n 3, 1) := zD (q := (719, .aload_n 3, 1)) tx_lw_law_6 46 rfl
theorem d_lw_law_720 : decode code 720 = .ok (.iconst 0, 1) := zD (q := (720, .iconst 0, 1)) tx_lw_law_6 47 rfl
theorem d_lw_law_721 : decode code 721 = .ok (.laload, 1) := zD (q := (721, .laload, 1)) tx_lw_law_6 48 rfl
theorem d_lw_law_722 : decode code 722 = .ok (.iload 6, 2) := zD (q := (722, .iload 6, 2)) tx_lw_law_6 49 rfl
theorem d_lw_law_724 : decode code 724 = .ok (.i2l, 1) := zD (q := (724, .i2l, 1)) tx_lw_law_6 50 rfl
theorem d_lw_law_725 : decode code 725 = .ok (.lcmp, 1) := zD (q := (725, .lcmp, 1)) tx_lw_law_6 51 rfl
theorem d_lw_law_726 : decode code 726 = .ok (.ifCond .eq 5, 3) := zD (q := (726, .ifCond .eq 5, 3)) tx_lw_law_6 52 rfl
theorem d_lw_law_729 : decode code 729 = .ok (.iconst 0, 1) := zD (q := (729, .iconst 0, 1)) tx_lw_law_6 53 rfl
theorem d_lw_law_730 : decode code 730 = .ok (.ireturn, 1) := zD (q := (730, .ireturn, 1)) tx_lw_law_6 54 rfl
theorem d_lw_law_731 : decode code 731 = .ok (.goto 488, 3) := zD (q := (731, .goto 488, 3)) tx_lw_law_6 55 rfl
theorem d_lw_law_734 : decode code 734 = .ok (.aload_n 1, 1) := zD (q := (734, .aload_n 1, 1)) tx_lw_law_6 56 rfl
theorem d_lw_law_735 : decode code 735 = .ok (.invokevirtual 121, 3) := zD (q := (735, .invokevirtual 121, 3)) tx_lw_law_6 57 rfl
theorem d_lw_law_738 : decode code 738 = .ok (.aload_n 2, 1) := zD (q := (738, .aload_n 2, 1)) tx_lw_law_6 58 rfl
theorem d_lw_law_739 : decode code 739 = .ok (.invokevirtual 124, 3) := zD (q := (739, .invokevirtual 124, 3)) tx_lw_law_6 59 rfl
def T_lw_law_7 : List (Nat × Instr × Nat) := [(742, .if_icmp .eq 477, 3), (745, .iconst 0, 1), (746, .ireturn, 1), (747, .aload_n 1, 1), (748, .aload_n 0, 1), (749, .iload 4, 2), (751, .iconst 1, 1), (752, .iadd, 1), (753, .iaload, 1), (754, .aload_n 0, 1), (755, .iload 4, 2), (757, .iconst 2, 1), (758, .iadd, 1), (759, .iaload, 1), (760, .aload_n 3, 1), (761, .invokestatic 125, 3), (764, .istore 5, 2), (766, .aload_n 2, 1), (767, .aload_n 0, 1), (768, .iload 4, 2), (770, .iconst 1, 1), (771, .iadd, 1), (772, .iaload, 1), (773, .aload_n 0, 1), (774, .iload 4, 2), (776, .iconst 2, 1), (777, .iadd, 1), (778, .iaload, 1), (779, .invokevirtual 127, 3), (782, .istore 6, 2), (784, .aload_n 2, 1), (785, .invokevirtual 82, 3), (788, .iload 5, 2), (790, .if_icmp .eq 5, 3), (793, .iconst 0, 1), (794, .ireturn, 1), (795, .iload 5, 2), (797, .ifCond .ne 22, 3), (800, .aload_n 3, 1), (801, .iconst 0, 1), (802, .laload, 1), (803, .iload 6, 2), (805, .ifCond .eq 7, 3), (808, .lconst 1, 1), (809, .goto 4, 3), (812, .lconst 0, 1), (813, .lcmp, 1), (814, .ifCond .eq 5, 3), (817, .iconst 0, 1), (818, .ireturn, 1), (819, .goto 400, 3), (822, .aload_n 1, 1), (823, .aload_n 0, 1), (824, .iload 4, 2), (826, .iconst 1, 1), (827, .iadd, 1), (828, .iaload, 1), (829, .aload_n 0, 1), (830, .iload 4, 2), (832, .iconst 2, 1)]
theorem tx_lw_law_7 : zdec code T_lw_law_7 = true := by decide +kernel
theorem d_lw_law_742 : decode code 742 = .ok (.if_icmp .eq 477, 3) := zD (q := (742, .if_icmp .eq 477, 3)) tx_lw_law_7 0 rfl
theorem d_lw_law_745 : decode code 745 = .ok (.iconst 0, 1) := zD (q := (745, .iconst 0, 1)) tx_lw_law_7 1 rfl
theorem d_lw_law_746 : decode code 746 = .ok (.ireturn, 1) := zD (q := (746, .ireturn, 1)) tx_lw_law_7 2 rfl
theorem d_lw_law_747 : decode code 747 = .ok (.aload_n 1, 1) := zD (q := (747, .aload_n 1, 1)) tx_lw_law_7 3 rfl
theorem d_lw_law_748 : decode code 748 = .ok (.aload_n 0, 1) := zD (q := (748, .aload_n 0, 1)) tx_lw_law_7 4 rfl
theorem d_lw_law_749 : decode code 749 = .ok (.iload 4, 2) := zD (q := (749, .iload 4, 2)) tx_lw_law_7 5 rfl
theorem d_lw_law_751 : decode code 751 = .ok (.iconst 1, 1) := zD (q := (751, .iconst 1, 1)) tx_lw_law_7 6 rfl
theorem d_lw_law_752 : decode code 752 = .ok (.iadd, 1) := zD (q := (752, .iadd, 1)) tx_lw_law_7 7 rfl
theorem d_lw_law_753 : decode code 753 = .ok (.iaload, 1) := zD (q := (753, .iaload, 1)) tx_lw_law_7 8 rfl
theorem d_lw_law_754 : decode code 754 = .ok (.aload_n 0, 1) := zD (q := (754, .aload_n 0, 1)) tx_lw_law_7 9 rfl
theorem d_lw_law_755 : decode code 755 = .ok (.iload 4, 2) := zD (q := (755, .iload 4, 2)) tx_lw_law_7 10 rfl
theorem d_lw_law_757 : decode code 757 = .ok (.iconst 2, 1) := zD (q := (757, .iconst 2, 1)) tx_lw_law_7 11 rfl
theorem d_lw_law_758 : decode code 758 = .ok (.iadd, 1) := zD (q := (758, .iadd, 1)) tx_lw_law_7 12 rfl
theorem d_lw_law_759 : decode code 759 = .ok (.iaload, 1) := zD (q := (759, .iaload, 1)) tx_lw_law_7 13 rfl
theorem d_lw_law_760 : decode code 760 = .ok (.aload_n 3, 1) := zD (q := (760, .aload_n 3, 1)) tx_lw_law_7 14 rfl
theorem d_lw_law_761 : decode code 761 = .ok (.invokestatic 125, 3) := zD (q := (761, .invokestatic 125, 3)) tx_lw_law_7 15 rfl
theorem d_lw_law_764 : decode code 764 = .ok (.istore 5, 2) := zD (q := (764, .istore 5, 2)) tx_lw_law_7 16 rfl
theorem d_lw_law_766 : decode code 766 = .ok (.aload_n 2, 1) := zD (q := (766, .aload_n 2, 1)) tx_lw_law_7 17 rfl
theorem d_lw_law_767 : decode code 767 = .ok (.aload_n 0, 1) := zD (q := (767, .aload_n 0, 1)) tx_lw_law_7 18 rfl
theorem d_lw_law_768 : decode code 768 = .ok (.iload 4, 2) := zD (q := (768, .iload 4, 2)) tx_lw_law_7 19 rfl
theorem d_lw_law_770 : decode code 770 = .ok (.iconst 1, 1) := zD (q := (770, .iconst 1, 1)) tx_lw_law_7 20 rfl
theorem d_lw_law_771 : decode code 771 = .ok (.iadd, 1) := zD (q := (771, .iadd, 1)) tx_lw_law_7 21 rfl
theorem d_lw_law_772 : decode code 772 = .ok (.iaload, 1) := zD (q := (772, .iaload, 1)) tx_lw_law_7 22 rfl
theorem d_lw_law_773 : decode code 773 = .ok (.aload_n 0, 1) := zD (q := (773, .aload_n 0, 1)) tx_lw_law_7 23 rfl
theorem d_lw_law_774 : decode code 774 = .ok (.iload 4, 2) := zD (q := (774, .iload 4, 2)) tx_lw_law_7 24 rfl
theorem d_lw_law_776 : decode code 776 = .ok (.iconst 2, 1) := zD (q := (776, .iconst 2, 1)) tx_lw_law_7 25 rfl
theorem d_lw_law_777 : decode code 777 = .ok (.iadd, 1) := zD (q := (777, .iadd, 1)) tx_lw_law_7 26 rfl
theorem d_lw_law_778 : decode code 778 = .ok (.iaload, 1) := zD (q := (778, .iaload, 1)) tx_lw_law_7 27 rfl
theorem d_lw_law_779 : decode code 779 = .ok (.invokevirtual 127, 3) := zD (q := (779, .invokevirtual 127, 3)) tx_lw_law_7 28 rfl
theorem d_lw_law_782 : decode code 782 = .ok (.istore 6, 2) := zD (q := (782, .istore 6, 2)) tx_lw_law_7 29 rfl
theorem d_lw_law_784 : decode code 784 = .ok (.aload_n 2, 1) := zD (q := (784, .aload_n 2, 1)) tx_lw_law_7 30 rfl
theorem d_lw_law_785 : decode code 785 = .ok (.invokevirtual 82, 3) := zD (q := (785, .invokevirtual 82, 3)) tx_lw_law_7 31 rfl
theorem d_lw_law_788 : decode code 788 = .ok (.iload 5, 2) := zD (q := (788, .iload 5, 2)) tx_lw_law_7 32 rfl
theorem d_lw_law_790 : decode code 790 = .ok (.if_icmp .eq 5, 3) := zD (q := (790, .if_icmp .eq 5, 3)) tx_lw_law_7 33 rfl
theorem d_lw_law_793 : decode code 793 = .ok (.iconst 0, 1) := zD (q := (793, .iconst 0, 1)) tx_lw_law_7 34 rfl
theorem d_lw_law_794 : decode code 794 = .ok (.ireturn, 1) := zD (q := (794, .ireturn, 1)) tx_lw_law_7 35 rfl
theorem d_lw_law_795 : decode code 795 = .ok (.iload 5, 2) := zD (q := (795, .iload 5, 2)) tx_lw_law_7 36 rfl
theorem d_lw_law_797 : decode code 797 = .ok (.ifCond .ne 22, 3) := zD (q := (797, .ifCond .ne 22, 3)) tx_lw_law_7 37 rfl
theorem d_lw_law_800 : decode code 800 = .ok (.aload_n 3, 1) := zD (q := (800, .aload_n 3, 1)) tx_lw_law_7 38 rfl
theorem d_lw_law_801 : decode code 801 = .ok (.iconst 0, 1) := zD (q := (801, .iconst 0, 1)) tx_lw_law_7 39 rfl
theorem d_lw_law_802 : decode code 802 = .ok (.laload, 1) := zD (q := (802, .laload, 1)) tx_lw_law_7 40 rfl
theorem d_lw_law_803 : decode code 803 = .ok (.iload 6, 2) := zD (q := (803, .iload 6, 2)) tx_lw_law_7 41 rfl
theorem d_lw_law_805 : decode code 805 = .ok (.ifCond .eq 7, 3) := zD (q := (805, .ifCond .eq 7, 3)) tx_lw_law_7 42 rfl
theorem d_lw_law_808 : decode code 808 = .ok (.lconst 1, 1) := zD (q := (808, .lconst 1, 1)) tx_lw_law_7 43 rfl
theorem d_lw_law_809 : decode code 809 = .ok (.goto 4, 3) := zD (q := (809, .goto 4, 3)) tx_lw_law_7 44 rfl
theorem d_lw_law_812 : decode code 812 = .ok (.lconst 0, 1) := zD (q := (812, .lconst 0, 1)) tx_lw_law_7 45 rfl
theorem d_lw_law_813 : decode code 813 = .ok (.lcmp, 1) := zD (q := (813, .lcmp, 1)) tx_lw_law_7 46 rfl
theorem d_lw_law_814 : decode code 814 = .ok (.ifCond .eq 5, 3) := zD (q := (814, .ifCond .eq 5, 3)) tx_lw_law_7 47 rfl
theorem d_lw_law_817 : decode code 817 = .ok (.iconst 0, 1) := zD (q := (817, .iconst 0, 1)) tx_lw_law_7 48 rfl
theorem d_lw_law_818 : decode code 818 = .ok (.ireturn, 1) := zD (q := (818, .ireturn, 1)) tx_lw_law_7 49 rfl
theorem d_lw_law_819 : decode code 819 = .ok (.goto 400, 3) := zD (q := (819, .goto 400, 3)) tx_lw_law_7 50 rfl
theorem d_lw_law_822 : decode code 822 = .ok (.aload_n 1, 1) := zD (q := (822, .aload_n 1, 1)) tx_lw_law_7 51 rfl
theorem d_lw_law_823 : decode code 823 = .ok (.aload_n 0, 1) := zD (q := (823, .aload_n 0, 1)) tx_lw_law_7 52 rfl
theorem d_lw_law_824 : decode code 824 = .ok (.iload 4, 2) := zD (q := (824, .iload 4, 2)) tx_lw_law_7 53 rfl
theorem d_lw_law_826 : decode code 826 = .ok (.iconst 1, 1) := zD (q := (826, .iconst 1, 1)) tx_lw_law_7 54 rfl
theorem d_lw_law_827 : decode code 827 = .ok (.iadd, 1) := zD (q := (827, .iadd, 1)) tx_lw_law_7 55 rfl
theorem d_lw_law_828 : decode code 828 = .ok (.iaload, 1) := zD (q := (828, .iaload, 1)) tx_lw_law_7 56 rfl
theorem d_lw_law_829 : decode code 829 = .ok (.aload_n 0, 1) := zD (q := (829, .aload_n 0, 1)) tx_lw_law_7 57 rfl
theorem d_lw_law_830 : decode code 830 = .ok (.iload 4, 2) := zD (q := (830, .iload 4, 2)) tx_lw_law_7 58 rfl
theorem d_lw_law_832 : decode code 832 = .ok (.iconst 2, 1) := zD (q := (832, .iconst 2, 1)) tx_lw_law_7 59 rfl
def T_lw_law_8 : List (Nat × Instr × Nat) := [(833, .iadd, 1), (834, .iaload, 1), (835, .aload_n 0, 1), (836, .iload 4, 2), (838, .iconst 3, 1), (839, .iadd, 1), (840, .iaload, 1), (841, .aload_n 0, 1), (842, .iload 4, 2), (844, .iconst 4, 1), (845, .iadd, 1), (846, .iaload, 1), (847, .aload_n 3, 1), (848, .invokestatic 128, 3), (851, .istore 5, 2), (853, .aload_n 2, 1), (854, .aload_n 0, 1), (855, .iload 4, 2), (857, .iconst 1, 1), (858, .iadd, 1), (859, .iaload, 1), (860, .aload_n 0, 1), (861, .iload 4, 2), (863, .iconst 2, 1), (864, .iadd, 1), (865, .iaload, 1), (866, .aload_n 0, 1), (867, .iload 4, 2), (869, .iconst 3, 1), (870, .iadd, 1), (871, .iaload, 1), (872, .aload_n 0, 1), (873, .iload 4, 2), (875, .iconst 4, 1), (876, .iadd, 1), (877, .iaload, 1), (878, .invokevirtual 131, 3), (881, .istore 6, 2), (883, .aload_n 2, 1), (884, .invokevirtual 82, 3), (887, .iload 5, 2), (889, .if_icmp .eq 5, 3), (892, .iconst 0, 1), (893, .ireturn, 1), (894, .iload 5, 2), (896, .ifCond .ne 15, 3), (899, .aload_n 3, 1), (900, .iconst 0, 1), (901, .laload, 1), (902, .iload 6, 2), (904, .i2l, 1), (905, .lcmp, 1), (906, .ifCond .eq 5, 3), (909, .iconst 0, 1), (910, .ireturn, 1), (911, .goto 308, 3), (914, .aload_n 1, 1), (915, .aload_n 0, 1), (916, .iload 4, 2), (918, .iconst 1, 1)]
theorem tx_lw_law_8 : zdec code T_lw_law_8 = true := by decide +kernel
theorem d_lw_law_833 : decode code 833 = .ok (.iadd, 1) := zD (q := (833, .iadd, 1)) tx_lw_law_8 0 rfl
theorem d_lw_law_834 : decode code 834 = .ok (.iaload, 1) := zD (q := (834, .iaload, 1)) tx_lw_law_8 1 rfl
theorem d_lw_law_835 : decode code 835 = .ok (.aload_n 0, 1) := zD (q := (835, .aload_n 0, 1)) tx_lw_law_8 2 rfl
theorem d_lw_law_836 : decode code 836 = .ok (.iload 4, 2) := zD (q := (836, .iload 4, 2)) tx_lw_law_8 3 rfl
theorem d_lw_law_838 : decode code 838 = .ok (.iconst 3, 1) := zD (q := (838, .iconst 3, 1)) tx_lw_law_8 4 rfl
theorem d_lw_law_839 : decode code 839 = .ok (.iadd, 1) := zD (q := (839, .iadd, 1)) tx_lw_law_8 5 rfl
theorem d_lw_law_840 : decode code 840 = .ok (.iaload, 1) := zD (q := (840, .iaload, 1)) tx_lw_law_8 6 rfl
theorem d_lw_law_841 : decode code 841 = .ok (.aload_n 0, 1) := zD (q := (841, .aload_n 0, 1)) tx_lw_law_8 7 rfl
theorem d_lw_law_842 : decode code 842 = .ok (.iload 4, 2) := zD (q := (842, .iload 4, 2)) tx_lw_law_8 8 rfl
theorem d_lw_law_844 : decode code 844 = .ok (.iconst 4, 1) := zD (q := (844, .iconst 4, 1)) tx_lw_law_8 9 rfl
theorem d_lw_law_845 : decode code 845 = .ok (.iadd, 1) := zD (q := (845, .iadd, 1)) tx_lw_law_8 10 rfl
theorem d_lw_law_846 : decode code 846 = .ok (.iaload, 1) := zD (q := (846, .iaload, 1)) tx_lw_law_8 11 rfl
theorem d_lw_law_847 : decode code 847 = .ok (.aload_n 3, 1) := zD (q := (847, .aload_n 3, 1)) tx_lw_law_8 12 rfl
theorem d_lw_law_848 : decode code 848 = .ok (.invokestatic 128, 3) := zD (q := (848, .invokestatic 128, 3)) tx_lw_law_8 13 rfl
theorem d_lw_law_851 : decode code 851 = .ok (.istore 5, 2) := zD (q := (851, .istore 5, 2)) tx_lw_law_8 14 rfl
theorem d_lw_law_853 : decode code 853 = .ok (.aload_n 2, 1) := zD (q := (853, .aload_n 2, 1)) tx_lw_law_8 15 rfl
theorem d_lw_law_854 : decode code 854 = .ok (.aload_n 0, 1) := zD (q := (854, .aload_n 0, 1)) tx_lw_law_8 16 rfl
theorem d_lw_law_855 : decode code 855 = .ok (.iload 4, 2) := zD (q := (855, .iload 4, 2)) tx_lw_law_8 17 rfl
theorem d_lw_law_857 : decode code 857 = .ok (.iconst 1, 1) := zD (q := (857, .iconst 1, 1)) tx_lw_law_8 18 rfl
theorem d_lw_law_858 : decode code 858 = .ok (.iadd, 1) := zD (q := (858, .iadd, 1)) tx_lw_law_8 19 rfl
theorem d_lw_law_859 : decode code 859 = .ok (.iaload, 1) := zD (q := (859, .iaload, 1)) tx_lw_law_8 20 rfl
theorem d_lw_law_860 : decode code 860 = .ok (.aload_n 0, 1) := zD (q := (860, .aload_n 0, 1)) tx_lw_law_8 21 rfl
theorem d_lw_law_861 : decode code 861 = .ok (.iload 4, 2) := zD (q := (861, .iload 4, 2)) tx_lw_law_8 22 rfl
theorem d_lw_law_863 : decode code 863 = .ok (.iconst 2, 1) := zD (q := (863, .iconst 2, 1)) tx_lw_law_8 23 rfl
theorem d_lw_law_864 : decode code 864 = .ok (.iadd, 1) := zD (q := (864, .iadd, 1)) tx_lw_law_8 24 rfl
theorem d_lw_law_865 : decode code 865 = .ok (.iaload, 1) := zD (q := (865, .iaload, 1)) tx_lw_law_8 25 rfl
theorem d_lw_law_866 : decode code 866 = .ok (.aload_n 0, 1) := zD (q := (866, .aload_n 0, 1)) tx_lw_law_8 26 rfl
theorem d_lw_law_867 : decode code 867 = .ok (.iload 4, 2) := zD (q := (867, .iload 4, 2)) tx_lw_law_8 27 rfl
theorem d_lw_law_869 : decode code 869 = .ok (.iconst 3, 1) := zD (q := (869, .iconst 3, 1)) tx_lw_law_8 28 rfl
theorem d_lw_law_870 : decode code 870 = .ok (.iadd, 1) := zD (q := (870, .iadd, 1)) tx_lw_law_8 29 rfl
theorem d_lw_law_871 : decode code 871 = .ok (.iaload, 1) := zD (q := (871, .iaload, 1)) tx_lw_law_8 30 rfl
theorem d_lw_law_872 : decode code 872 = .ok (.aload_n 0, 1) := zD (q := (872, .aload_n 0, 1)) tx_lw_law_8 31 rfl
theorem d_lw_law_873 : decode code 873 = .ok (.iload 4, 2) := zD (q := (873, .iload 4, 2)) tx_lw_law_8 32 rfl
theorem d_lw_law_875 : decode code 875 = .ok (.iconst 4, 1) := zD (q := (875, .iconst 4, 1)) tx_lw_law_8 33 rfl
theorem d_lw_law_876 : decode code 876 = .ok (.iadd, 1) := zD (q := (876, .iadd, 1)) tx_lw_law_8 34 rfl
theorem d_lw_law_877 : decode code 877 = .ok (.iaload, 1) := zD (q := (877, .iaload, 1)) tx_lw_law_8 35 rfl
theorem d_lw_law_878 : decode code 878 = .ok (.invokevirtual 131, 3) := zD (q := (878, .invokevirtual 131, 3)) tx_lw_law_8 36 rfl
theorem d_lw_law_881 : decode code 881 = .ok (.istore 6, 2) := zD (q := (881, .istore 6, 2)) tx_lw_law_8 37 rfl
theorem d_lw_law_883 : decode code 883 = .ok (.aload_n 2, 1) := zD (q := (883, .aload_n 2, 1)) tx_lw_law_8 38 rfl
theorem d_lw_law_884 : decode code 884 = .ok (.invokevirtual 82, 3) := zD (q := (884, .invokevirtual 82, 3)) tx_lw_law_8 39 rfl
theorem d_lw_law_887 : decode code 887 = .ok (.iload 5, 2) := zD (q := (887, .iload 5, 2)) tx_lw_law_8 40 rfl
theorem d_lw_law_889 : decode code 889 = .ok (.if_icmp .eq 5, 3) := zD (q := (889, .if_icmp .eq 5, 3)) tx_lw_law_8 41 rfl
theorem d_lw_law_892 : decode code 892 = .ok (.iconst 0, 1) := zD (q := (892, .iconst 0, 1)) tx_lw_law_8 42 rfl
theorem d_lw_law_893 : decode code 893 = .ok (.ireturn, 1) := zD (q := (893, .ireturn, 1)) tx_lw_law_8 43 rfl
theorem d_lw_law_894 : decode code 894 = .ok (.iload 5, 2) := zD (q := (894, .iload 5, 2)) tx_lw_law_8 44 rfl
theorem d_lw_law_896 : decode code 896 = .ok (.ifCond .ne 15, 3) := zD (q := (896, .ifCond .ne 15, 3)) tx_lw_law_8 45 rfl
theorem d_lw_law_899 : decode code 899 = .ok (.aload_n 3, 1) := zD (q := (899, .aload_n 3, 1)) tx_lw_law_8 46 rfl
theorem d_lw_law_900 : decode code 900 = .ok (.iconst 0, 1) := zD (q := (900, .iconst 0, 1)) tx_lw_law_8 47 rfl
theorem d_lw_law_901 : decode code 901 = .ok (.laload, 1) := zD (q := (901, .laload, 1)) tx_lw_law_8 48 rfl
theorem d_lw_law_902 : decode code 902 = .ok (.iload 6, 2) := zD (q := (902, .iload 6, 2)) tx_lw_law_8 49 rfl
theorem d_lw_law_904 : decode code 904 = .ok (.i2l, 1) := zD (q := (904, .i2l, 1)) tx_lw_law_8 50 rfl
theorem d_lw_law_905 : decode code 905 = .ok (.lcmp, 1) := zD (q := (905, .lcmp, 1)) tx_lw_law_8 51 rfl
theorem d_lw_law_906 : decode code 906 = .ok (.ifCond .eq 5, 3) := zD (q := (906, .ifCond .eq 5, 3)) tx_lw_law_8 52 rfl
theorem d_lw_law_909 : decode code 909 = .ok (.iconst 0, 1) := zD (q := (909, .iconst 0, 1)) tx_lw_law_8 53 rfl
theorem d_lw_law_910 : decode code 910 = .ok (.ireturn, 1) := zD (q := (910, .ireturn, 1)) tx_lw_law_8 54 rfl
theorem d_lw_law_911 : decode code 911 = .ok (.goto 308, 3) := zD (q := (911, .goto 308, 3)) tx_lw_law_8 55 rfl
theorem d_lw_law_914 : decode code 914 = .ok (.aload_n 1, 1) := zD (q := (914, .aload_n 1, 1)) tx_lw_law_8 56 rfl
theorem d_lw_law_915 : decode code 915 = .ok (.aload_n 0, 1) := zD (q := (915, .aload_n 0, 1)) tx_lw_law_8 57 rfl
theorem d_lw_law_916 : decode code 916 = .ok (.iload 4, 2) := zD (q := (916, .iload 4, 2)) tx_lw_law_8 58 rfl
theorem d_lw_law_918 : decode code 918 = .ok (.iconst 1, 1) := zD (q := (918, .iconst 1, 1)) tx_lw_law_8 59 rfl
def T_lw_law_9 : List (Nat × Instr × Nat) := [(919, .iadd, 1), (920, .iaload, 1), (921, .aload_n 0, 1), (922, .iload 4, 2), (924, .iconst 2, 1), (925, .iadd, 1), (926, .iaload, 1), (927, .aload_n 3, 1), (928, .invokestatic 132, 3), (931, .istore 5, 2), (933, .aload_n 2, 1), (934, .aload_n 0, 1), (935, .iload 4, 2), (937, .iconst 1, 1), (938, .iadd, 1), (939, .iaload, 1), (940, .aload_n 0, 1), (941, .iload 4, 2), (943, .iconst 2, 1), (944, .iadd, 1), (945, .iaload, 1), (946, .invokevirtual 134, 3), (949, .istore 6, 2), (951, .aload_n 2, 1), (952, .invokevirtual 82, 3), (955, .iload 5, 2), (957, .if_icmp .eq 5, 3), (960, .iconst 0, 1), (961, .ireturn, 1), (962, .iload 5, 2), (964, .ifCond .ne 15, 3), (967, .aload_n 3, 1), (968, .iconst 0, 1), (969, .laload, 1), (970, .iload 6, 2), (972, .i2l, 1), (973, .lcmp, 1), (974, .ifCond .eq 5, 3), (977, .iconst 0, 1), (978, .ireturn, 1), (979, .goto 240, 3), (982, .aload_n 1, 1), (983, .aload_n 0, 1), (984, .iload 4, 2), (986, .iconst 1, 1), (987, .iadd, 1), (988, .iaload, 1), (989, .aload_n 3, 1), (990, .invokestatic 135, 3), (993, .istore 5, 2), (995, .aload_n 2, 1), (996, .aload_n 0, 1), (997, .iload 4, 2), (999, .iconst 1, 1), (1000, .iadd, 1), (1001, .iaload, 1), (1002, .invokevirtual 137, 3), (1005, .istore 6, 2), (1007, .aload_n 2, 1), (1008, .invokevirtual 82, 3)]
theorem tx_lw_law_9 : zdec code T_lw_law_9 = true := by decide +kernel
theorem d_lw_law_919 : decode code 919 = .ok (.iadd, 1) := zD (q := (919, .iadd, 1)) tx_lw_law_9 0 rfl
theorem d_lw_law_920 : decode code 920 = .ok (.iaload, 1) := zD (q := (920, .iaload, 1)) tx_lw_law_9 1 rfl
theorem d_lw_law_921 : decode code 921 = .ok (.aload_n 0, 1) := zD (q := (921, .aload_n 0, 1)) tx_lw_law_9 2 rfl
theorem d_lw_law_922 : decode code 922 = .ok (.iload 4, 2) := zD (q := (922, .iload 4, 2)) tx_lw_law_9 3 rfl
theorem d_lw_law_924 : decode code 924 = .ok (.iconst 2, 1) := zD (q := (924, .iconst 2, 1)) tx_lw_law_9 4 rfl
theorem d_lw_law_925 : decode code 925 = .ok (.iadd, 1) := zD (q := (925, .iadd, 1)) tx_lw_law_9 5 rfl
theorem d_lw_law_926 : decode code 926 = .ok (.iaload, 1) := zD (q := (926, .iaload, 1)) tx_lw_law_9 6 rfl
theorem d_lw_law_927 : decode code 927 = .ok (.aload_n 3, 1) := zD (q := (927, .aload_n 3, 1)) tx_lw_law_9 7 rfl
theorem d_lw_law_928 : decode code 928 = .ok (.invokestatic 132, 3) := zD (q := (928, .invokestatic 132, 3)) tx_lw_law_9 8 rfl
theorem d_lw_law_931 : decode code 931 = .ok (.istore 5, 2) := zD (q := (931, .istore 5, 2)) tx_lw_law_9 9 rfl
theorem d_lw_law_933 : decode code 933 = .ok (.aload_n 2, 1) := zD (q := (933, .aload_n 2, 1)) tx_lw_law_9 10 rfl
theorem d_lw_law_934 : decode code 934 = .ok (.aload_n 0, 1) := zD (q := (934, .aload_n 0, 1)) tx_lw_law_9 11 rfl
theorem d_lw_law_935 : decode code 935 = .ok (.iload 4, 2) := zD (q := (935, .iload 4, 2)) tx_lw_law_9 12 rfl
theorem d_lw_law_937 : decode code 937 = .ok (.iconst 1, 1) := zD (q := (937, .iconst 1, 1)) tx_lw_law_9 13 rfl
theorem d_lw_law_938 : decode code 938 = .ok (.iadd, 1) := zD (q := (938, .iadd, 1)) tx_lw_law_9 14 rfl
theorem d_lw_law_939 : decode code 939 = .ok (.iaload, 1) := zD (q := (939, .iaload, 1)) tx_lw_law_9 15 rfl
theorem d_lw_law_940 : decode code 940 = .ok (.aload_n 0, 1) := zD (q := (940, .aload_n 0, 1)) tx_lw_law_9 16 rfl
theorem d_lw_law_941 : decode code 941 = .ok (.iload 4, 2) := zD (q := (941, .iload 4, 2)) tx_lw_law_9 17 rfl
theorem d_lw_law_943 : decode code 943 = .ok (.iconst 2, 1) := zD (q := (943, .iconst 2, 1)) tx_lw_law_9 18 rfl
theorem d_lw_law_944 : decode code 944 = .ok (.iadd, 1) := zD (q := (944, .iadd, 1)) tx_lw_law_9 19 rfl
theorem d_lw_law_945 : decode code 945 = .ok (.iaload, 1) := zD (q := (945, .iaload, 1)) tx_lw_law_9 20 rfl
theorem d_lw_law_946 : decode code 946 = .ok (.invokevirtual 134, 3) := zD (q := (946, .invokevirtual 134, 3)) tx_lw_law_9 21 rfl
theorem d_lw_law_949 : decode code 949 = .ok (.istore 6, 2) := zD (q := (949, .istore 6, 2)) tx_lw_law_9 22 rfl
theorem d_lw_law_951 : decode code 951 = .ok (.aload_n 2, 1) := zD (q := (951, .aload_n 2, 1)) tx_lw_law_9 23 rfl
theorem d_lw_law_952 : decode code 952 = .ok (.invokevirtual 82, 3) := zD (q := (952, .invokevirtual 82, 3)) tx_lw_law_9 24 rfl
theorem d_lw_law_955 : decode code 955 = .ok (.iload 5, 2) := zD (q := (955, .iload 5, 2)) tx_lw_law_9 25 rfl
theorem d_lw_law_957 : decode code 957 = .ok (.if_icmp .eq 5, 3) := zD (q := (957, .if_icmp .eq 5, 3)) tx_lw_law_9 26 rfl
theorem d_lw_law_960 : decode code 960 = .ok (.iconst 0, 1) := zD (q := (960, .iconst 0, 1)) tx_lw_law_9 27 rfl
theorem d_lw_law_961 : decode code 961 = .ok (.ireturn, 1) := zD (q := (961, .ireturn, 1)) tx_lw_law_9 28 rfl
theorem d_lw_law_962 : decode code 962 = .ok (.iload 5, 2) := zD (q := (962, .iload 5, 2)) tx_lw_law_9 29 rfl
theorem d_lw_law_964 : decode code 964 = .ok (.ifCond .ne 15, 3) := zD (q := (964, .ifCond .ne 15, 3)) tx_lw_law_9 30 rfl
theorem d_lw_law_967 : decode code 967 = .ok (.aload_n 3, 1) := zD (q := (967, .aload_n 3, 1)) tx_lw_law_9 31 rfl
theorem d_lw_law_968 : decode code 968 = .ok (.iconst 0, 1) := zD (q := (968, .iconst 0, 1)) tx_lw_law_9 32 rfl
theorem d_lw_law_969 : decode code 969 = .ok (.laload, 1) := zD (q := (969, .laload, 1)) tx_lw_law_9 33 rfl
theorem d_lw_law_970 : decode code 970 = .ok (.iload 6, 2) := zD (q := (970, .iload 6, 2)) tx_lw_law_9 34 rfl
theorem d_lw_law_972 : decode code 972 = .ok (.i2l, 1) := zD (q := (972, .i2l, 1)) tx_lw_law_9 35 rfl
theorem d_lw_law_973 : decode code 973 = .ok (.lcmp, 1) := zD (q := (973, .lcmp, 1)) tx_lw_law_9 36 rfl
theorem d_lw_law_974 : decode code 974 = .ok (.ifCond .eq 5, 3) := zD (q := (974, .ifCond .eq 5, 3)) tx_lw_law_9 37 rfl
theorem d_lw_law_977 : decode code 977 = .ok (.iconst 0, 1) := zD (q := (977, .iconst 0, 1)) tx_lw_law_9 38 rfl
theorem d_lw_law_978 : decode code 978 = .ok (.ireturn, 1) := zD (q := (978, .ireturn, 1)) tx_lw_law_9 39 rfl
theorem d_lw_law_979 : decode code 979 = .ok (.goto 240, 3) := zD (q := (979, .goto 240, 3)) tx_lw_law_9 40 rfl
theorem d_lw_law_982 : decode code 982 = .ok (.aload_n 1, 1) := zD (q := (982, .aload_n 1, 1)) tx_lw_law_9 41 rfl
theorem d_lw_law_983 : decode code 983 = .ok (.aload_n 0, 1) := zD (q := (983, .aload_n 0, 1)) tx_lw_law_9 42 rfl
theorem d_lw_law_984 : decode code 984 = .ok (.iload 4, 2) := zD (q := (984, .iload 4, 2)) tx_lw_law_9 43 rfl
theorem d_lw_law_986 : decode code 986 = .ok (.iconst 1, 1) := zD (q := (986, .iconst 1, 1)) tx_lw_law_9 44 rfl
theorem d_lw_law_987 : decode code 987 = .ok (.iadd, 1) := zD (q := (987, .iadd, 1)) tx_lw_law_9 45 rfl
theorem d_lw_law_988 : decode code 988 = .ok (.iaload, 1) := zD (q := (988, .iaload, 1)) tx_lw_law_9 46 rfl
theorem d_lw_law_989 : decode code 989 = .ok (.aload_n 3, 1) := zD (q := (989, .aload_n 3, 1)) tx_lw_law_9 47 rfl
theorem d_lw_law_990 : decode code 990 = .ok (.invokestatic 135, 3) := zD (q := (990, .invokestatic 135, 3)) tx_lw_law_9 48 rfl
theorem d_lw_law_993 : decode code 993 = .ok (.istore 5, 2) := zD (q := (993, .istore 5, 2)) tx_lw_law_9 49 rfl
theorem d_lw_law_995 : decode code 995 = .ok (.aload_n 2, 1) := zD (q := (995, .aload_n 2, 1)) tx_lw_law_9 50 rfl
theorem d_lw_law_996 : decode code 996 = .ok (.aload_n 0, 1) := zD (q := (996, .aload_n 0, 1)) tx_lw_law_9 51 rfl
theorem d_lw_law_997 : decode code 997 = .ok (.iload 4, 2) := zD (q := (997, .iload 4, 2)) tx_lw_law_9 52 rfl
theorem d_lw_law_999 : decode code 999 = .ok (.iconst 1, 1) := zD (q := (999, .iconst 1, 1)) tx_lw_law_9 53 rfl
theorem d_lw_law_1000 : decode code 1000 = .ok (.iadd, 1) := zD (q := (1000, .iadd, 1)) tx_lw_law_9 54 rfl
theorem d_lw_law_1001 : decode code 1001 = .ok (.iaload, 1) := zD (q := (1001, .iaload, 1)) tx_lw_law_9 55 rfl
theorem d_lw_law_1002 : decode code 1002 = .ok (.invokevirtual 137, 3) := zD (q := (1002, .invokevirtual 137, 3)) tx_lw_law_9 56 rfl
theorem d_lw_law_1005 : decode code 1005 = .ok (.istore 6, 2) := zD (q := (1005, .istore 6, 2)) tx_lw_law_9 57 rfl
theorem d_lw_law_1007 : decode code 1007 = .ok (.aload_n 2, 1) := zD (q := (1007, .aload_n 2, 1)) tx_lw_law_9 58 rfl
theorem d_lw_law_1008 : decode code 1008 = .ok (.invokevirtual 82, 3) := zD (q := (1008, .invokevirtual 82, 3)) tx_lw_law_9 59 rfl
def T_lw_law_10 : List (Nat × Instr × Nat) := [(1011, .iload 5, 2), (1013, .if_icmp .eq 5, 3), (1016, .iconst 0, 1), (1017, .ireturn, 1), (1018, .iload 5, 2), (1020, .ifCond .ne 15, 3), (1023, .aload_n 3, 1), (1024, .iconst 0, 1), (1025, .laload, 1), (1026, .iload 6, 2), (1028, .i2l, 1), (1029, .lcmp, 1), (1030, .ifCond .eq 5, 3), (1033, .iconst 0, 1), (1034, .ireturn, 1), (1035, .goto 184, 3), (1038, .aload_n 1, 1), (1039, .aload_n 0, 1), (1040, .iload 4, 2), (1042, .iconst 1, 1), (1043, .iadd, 1), (1044, .iaload, 1), (1045, .aload_n 3, 1), (1046, .invokestatic 138, 3), (1049, .istore 5, 2), (1051, .aload_n 2, 1), (1052, .aload_n 0, 1), (1053, .iload 4, 2), (1055, .iconst 1, 1), (1056, .iadd, 1), (1057, .iaload, 1), (1058, .invokevirtual 140, 3), (1061, .istore 6, 2), (1063, .aload_n 2, 1), (1064, .invokevirtual 82, 3), (1067, .iload 5, 2), (1069, .if_icmp .eq 5, 3), (1072, .iconst 0, 1), (1073, .ireturn, 1), (1074, .iload 5, 2), (1076, .ifCond .ne 15, 3), (1079, .aload_n 3, 1), (1080, .iconst 0, 1), (1081, .laload, 1), (1082, .iload 6, 2), (1084, .i2l, 1), (1085, .lcmp, 1), (1086, .ifCond .eq 5, 3), (1089, .iconst 0, 1), (1090, .ireturn, 1), (1091, .goto 128, 3), (1094, .aload_n 1, 1), (1095, .invokevirtual 141, 3), (1098, .aload_n 2, 1), (1099, .invokevirtual 144, 3), (1102, .if_icmp .eq 117, 3), (1105, .iconst 0, 1), (1106, .ireturn, 1), (1107, .aload_n 1, 1), (1108, .aload_n 3, 1)]
theorem tx_lw_law_10 : zdec code T_lw_law_10 = true := by decide +kernel
theorem d_lw_law_1011 : decode code 1011 = .ok (.iload 5, 2) := zD (q := (1011, .iload 5, 2)) tx_lw_law_10 0 rfl
theorem d_lw_law_1013 : decode code 1013 = .ok (.if_icmp .eq 5, 3) := zD (q := (1013, .if_icmp .eq 5, 3)) tx_lw_law_10 1 rfl
theorem d_lw_law_1016 : decode code 1016 = .ok (.iconst 0, 1) := zD (q := (1016, .iconst 0, 1)) tx_lw_law_10 2 rfl
theorem d_lw_law_1017 : decode code 1017 = .ok (.ireturn, 1) := zD (q := (1017, .ireturn, 1)) tx_lw_law_10 3 rfl
theorem d_lw_law_1018 : decode code 1018 = .ok (.iload 5, 2) := zD (q := (1018, .iload 5, 2)) tx_lw_law_10 4 rfl
theorem d_lw_law_1020 : decode code 1020 = .ok (.ifCond .ne 15, 3) := zD (q := (1020, .ifCond .ne 15, 3)) tx_lw_law_10 5 rfl
theorem d_lw_law_1023 : decode code 1023 = .ok (.aload_n 3, 1) := zD (q := (1023, .aload_n 3, 1)) tx_lw_law_10 6 rfl
theorem d_lw_law_1024 : decode code 1024 = .ok (.iconst 0, 1) := zD (q := (1024, .iconst 0, 1)) tx_lw_law_10 7 rfl
theorem d_lw_law_1025 : decode code 1025 = .ok (.laload, 1) := zD (q := (1025, .laload, 1)) tx_lw_law_10 8 rfl
theorem d_lw_law_1026 : decode code 1026 = .ok (.iload 6, 2) := zD (q := (1026, .iload 6, 2)) tx_lw_law_10 9 rfl
theorem d_lw_law_1028 : decode code 1028 = .ok (.i2l, 1) := zD (q := (1028, .i2l, 1)) tx_lw_law_10 10 rfl
theorem d_lw_law_1029 : decode code 1029 = .ok (.lcmp, 1) := zD (q := (1029, .lcmp, 1)) tx_lw_law_10 11 rfl
theorem d_lw_law_1030 : decode code 1030 = .ok (.ifCond .eq 5, 3) := zD (q := (1030, .ifCond .eq 5, 3)) tx_lw_law_10 12 rfl
theorem d_lw_law_1033 : decode code 1033 = .ok (.iconst 0, 1) := zD (q := (1033, .iconst 0, 1)) tx_lw_law_10 13 rfl
theorem d_lw_law_1034 : decode code 1034 = .ok (.ireturn, 1) := zD (q := (1034, .ireturn, 1)) tx_lw_law_10 14 rfl
theorem d_lw_law_1035 : decode code 1035 = .ok (.goto 184, 3) := zD (q := (1035, .goto 184, 3)) tx_lw_law_10 15 rfl
theorem d_lw_law_1038 : decode code 1038 = .ok (.aload_n 1, 1) := zD (q := (1038, .aload_n 1, 1)) tx_lw_law_10 16 rfl
theorem d_lw_law_1039 : decode code 1039 = .ok (.aload_n 0, 1) := zD (q := (1039, .aload_n 0, 1)) tx_lw_law_10 17 rfl
theorem d_lw_law_1040 : decode code 1040 = .ok (.iload 4, 2) := zD (q := (1040, .iload 4, 2)) tx_lw_law_10 18 rfl
theorem d_lw_law_1042 : decode code 1042 = .ok (.iconst 1, 1) := zD (q := (1042, .iconst 1, 1)) tx_lw_law_10 19 rfl
theorem d_lw_law_1043 : decode code 1043 = .ok (.iadd, 1) := zD (q := (1043, .iadd, 1)) tx_lw_law_10 20 rfl
theorem d_lw_law_1044 : decode code 1044 = .ok (.iaload, 1) := zD (q := (1044, .iaload, 1)) tx_lw_law_10 21 rfl
theorem d_lw_law_1045 : decode code 1045 = .ok (.aload_n 3, 1) := zD (q := (1045, .aload_n 3, 1)) tx_lw_law_10 22 rfl
theorem d_lw_law_1046 : decode code 1046 = .ok (.invokestatic 138, 3) := zD (q := (1046, .invokestatic 138, 3)) tx_lw_law_10 23 rfl
theorem d_lw_law_1049 : decode code 1049 = .ok (.istore 5, 2) := zD (q := (1049, .istore 5, 2)) tx_lw_law_10 24 rfl
theorem d_lw_law_1051 : decode code 1051 = .ok (.aload_n 2, 1) := zD (q := (1051, .aload_n 2, 1)) tx_lw_law_10 25 rfl
theorem d_lw_law_1052 : decode code 1052 = .ok (.aload_n 0, 1) := zD (q := (1052, .aload_n 0, 1)) tx_lw_law_10 26 rfl
theorem d_lw_law_1053 : decode code 1053 = .ok (.iload 4, 2) := zD (q := (1053, .iload 4, 2)) tx_lw_law_10 27 rfl
theorem d_lw_law_1055 : decode code 1055 = .ok (.iconst 1, 1) := zD (q := (1055, .iconst 1, 1)) tx_lw_law_10 28 rfl
theorem d_lw_law_1056 : decode code 1056 = .ok (.iadd, 1) := zD (q := (1056, .iadd, 1)) tx_lw_law_10 29 rfl
theorem d_lw_law_1057 : decode code 1057 = .ok (.iaload, 1) := zD (q := (1057, .iaload, 1)) tx_lw_law_10 30 rfl
theorem d_lw_law_1058 : decode code 1058 = .ok (.invokevirtual 140, 3) := zD (q := (1058, .invokevirtual 140, 3)) tx_lw_law_10 31 rfl
theorem d_lw_law_1061 : decode code 1061 = .ok (.istore 6, 2) := zD (q := (1061, .istore 6, 2)) tx_lw_law_10 32 rfl
theorem d_lw_law_1063 : decode code 1063 = .ok (.aload_n 2, 1) := zD (q := (1063, .aload_n 2, 1)) tx_lw_law_10 33 rfl
theorem d_lw_law_1064 : decode code 1064 = .ok (.invokevirtual 82, 3) := zD (q := (1064, .invokevirtual 82, 3)) tx_lw_law_10 34 rfl
theorem d_lw_law_1067 : decode code 1067 = .ok (.iload 5, 2) := zD (q := (1067, .iload 5, 2)) tx_lw_law_10 35 rfl
theorem d_lw_law_1069 : decode code 1069 = .ok (.if_icmp .eq 5, 3) := zD (q := (1069, .if_icmp .eq 5, 3)) tx_lw_law_10 36 rfl
theorem d_lw_law_1072 : decode code 1072 = .ok (.iconst 0, 1) := zD (q := (1072, .iconst 0, 1)) tx_lw_law_10 37 rfl
theorem d_lw_law_1073 : decode code 1073 = .ok (.ireturn, 1) := zD (q := (1073, .ireturn, 1)) tx_lw_law_10 38 rfl
theorem d_lw_law_1074 : decode code 1074 = .ok (.iload 5, 2) := zD (q := (1074, .iload 5, 2)) tx_lw_law_10 39 rfl
theorem d_lw_law_1076 : decode code 1076 = .ok (.ifCond .ne 15, 3) := zD (q := (1076, .ifCond .ne 15, 3)) tx_lw_law_10 40 rfl
theorem d_lw_law_1079 : decode code 1079 = .ok (.aload_n 3, 1) := zD (q := (1079, .aload_n 3, 1)) tx_lw_law_10 41 rfl
theorem d_lw_law_1080 : decode code 1080 = .ok (.iconst 0, 1) := zD (q := (1080, .iconst 0, 1)) tx_lw_law_10 42 rfl
theorem d_lw_law_1081 : decode code 1081 = .ok (.laload, 1) := zD (q := (1081, .laload, 1)) tx_lw_law_10 43 rfl
theorem d_lw_law_1082 : decode code 1082 = .ok (.iload 6, 2) := zD (q := (1082, .iload 6, 2)) tx_lw_law_10 44 rfl
theorem d_lw_law_1084 : decode code 1084 = .ok (.i2l, 1) := zD (q := (1084, .i2l, 1)) tx_lw_law_10 45 rfl
theorem d_lw_law_1085 : decode code 1085 = .ok (.lcmp, 1) := zD (q := (1085, .lcmp, 1)) tx_lw_law_10 46 rfl
theorem d_lw_law_1086 : decode code 1086 = .ok (.ifCond .eq 5, 3) := zD (q := (1086, .ifCond .eq 5, 3)) tx_lw_law_10 47 rfl
theorem d_lw_law_1089 : decode code 1089 = .ok (.iconst 0, 1) := zD (q := (1089, .iconst 0, 1)) tx_lw_law_10 48 rfl
theorem d_lw_law_1090 : decode code 1090 = .ok (.ireturn, 1) := zD (q := (1090, .ireturn, 1)) tx_lw_law_10 49 rfl
theorem d_lw_law_1091 : decode code 1091 = .ok (.goto 128, 3) := zD (q := (1091, .goto 128, 3)) tx_lw_law_10 50 rfl
theorem d_lw_law_1094 : decode code 1094 = .ok (.aload_n 1, 1) := zD (q := (1094, .aload_n 1, 1)) tx_lw_law_10 51 rfl
theorem d_lw_law_1095 : decode code 1095 = .ok (.invokevirtual 141, 3) := zD (q := (1095, .invokevirtual 141, 3)) tx_lw_law_10 52 rfl
theorem d_lw_law_1098 : decode code 1098 = .ok (.aload_n 2, 1) := zD (q := (1098, .aload_n 2, 1)) tx_lw_law_10 53 rfl
theorem d_lw_law_1099 : decode code 1099 = .ok (.invokevirtual 144, 3) := zD (q := (1099, .invokevirtual 144, 3)) tx_lw_law_10 54 rfl
theorem d_lw_law_1102 : decode code 1102 = .ok (.if_icmp .eq 117, 3) := zD (q := (1102, .if_icmp .eq 117, 3)) tx_lw_law_10 55 rfl
theorem d_lw_law_1105 : decode code 1105 = .ok (.iconst 0, 1) := zD (q := (1105, .iconst 0, 1)) tx_lw_law_10 56 rfl
theorem d_lw_law_1106 : decode code 1106 = .ok (.ireturn, 1) := zD (q := (1106, .ireturn, 1)) tx_lw_law_10 57 rfl
theorem d_lw_law_1107 : decode code 1107 = .ok (.aload_n 1, 1) := zD (q := (1107, .aload_n 1, 1)) tx_lw_law_10 58 rfl
theorem d_lw_law_1108 : decode code 1108 = .ok (.aload_n 3, 1) := zD (q := (1108, .aload_n 3, 1)) tx_lw_law_10 59 rfl
def T_lw_law_11 : List (Nat × Instr × Nat) := [(1109, .invokestatic 145, 3), (1112, .istore 5, 2), (1114, .aload_n 2, 1), (1115, .invokevirtual 148, 3), (1118, .istore 6, 2), (1120, .aload_n 2, 1), (1121, .invokevirtual 82, 3), (1124, .iload 5, 2), (1126, .if_icmp .eq 5, 3), (1129, .iconst 0, 1), (1130, .ireturn, 1), (1131, .iload 5, 2), (1133, .ifCond .ne 15, 3), (1136, .aload_n 3, 1), (1137, .iconst 0, 1), (1138, .laload, 1), (1139, .iload 6, 2), (1141, .i2l, 1), (1142, .lcmp, 1), (1143, .ifCond .eq 5, 3), (1146, .iconst 0, 1), (1147, .ireturn, 1), (1148, .goto 71, 3), (1151, .aload_n 1, 1), (1152, .aload_n 0, 1), (1153, .iload 4, 2), (1155, .iconst 1, 1), (1156, .iadd, 1), (1157, .iaload, 1), (1158, .aload_n 0, 1), (1159, .iload 4, 2), (1161, .iconst 2, 1), (1162, .iadd, 1), (1163, .iaload, 1), (1164, .aload_n 3, 1), (1165, .invokestatic 149, 3), (1168, .istore 5, 2), (1170, .aload_n 2, 1), (1171, .aload_n 0, 1), (1172, .iload 4, 2), (1174, .iconst 1, 1), (1175, .iadd, 1), (1176, .iaload, 1), (1177, .aload_n 0, 1), (1178, .iload 4, 2), (1180, .iconst 2, 1), (1181, .iadd, 1), (1182, .iaload, 1), (1183, .invokevirtual 151, 3), (1186, .istore 6, 2), (1188, .aload_n 2, 1), (1189, .invokevirtual 82, 3), (1192, .iload 5, 2), (1194, .if_icmp .eq 5, 3), (1197, .iconst 0, 1), (1198, .ireturn, 1), (1199, .iload 5, 2), (1201, .ifCond .ne 15, 3), (1204, .aload_n 3, 1), (1205, .iconst 0, 1)]
theorem tx_lw_law_11 : zdec code T_lw_law_11 = true := by decide +kernel
theorem d_lw_law_1109 : decode code 1109 = .ok (.invokestatic 145, 3) := zD (q := (1109, .invokestatic 145, 3)) tx_lw_law_11 0 rfl
theorem d_lw_law_1112 : decode code 1112 = .ok (.istore 5, 2) := zD (q := (1112, .istore 5, 2)) tx_lw_law_11 1 rfl
theorem d_lw_law_1114 : decode code 1114 = .ok (.aload_n 2, 1) := zD (q := (1114, .aload_n 2, 1)) tx_lw_law_11 2 rfl
theorem d_lw_law_1115 : decode code 1115 = .ok (.invokevirtual 148, 3) := zD (q := (1115, .invokevirtual 148, 3)) tx_lw_law_11 3 rfl
theorem d_lw_law_1118 : decode code 1118 = .ok (.istore 6, 2) := zD (q := (1118, .istore 6, 2)) tx_lw_law_11 4 rfl
theorem d_lw_law_1120 : decode code 1120 = .ok (.aload_n 2, 1) := zD (q := (1120, .aload_n 2, 1)) tx_lw_law_11 5 rfl
theorem d_lw_law_1121 : decode code 1121 = .ok (.invokevirtual 82, 3) := zD (q := (1121, .invokevirtual 82, 3)) tx_lw_law_11 6 rfl
theorem d_lw_law_1124 : decode code 1124 = .ok (.iload 5, 2) := zD (q := (1124, .iload 5, 2)) tx_lw_law_11 7 rfl
theorem d_lw_law_1126 : decode code 1126 = .ok (.if_icmp .eq 5, 3) := zD (q := (1126, .if_icmp .eq 5, 3)) tx_lw_law_11 8 rfl
theorem d_lw_law_1129 : decode code 1129 = .ok (.iconst 0, 1) := zD (q := (1129, .iconst 0, 1)) tx_lw_law_11 9 rfl
theorem d_lw_law_1130 : decode code 1130 = .ok (.ireturn, 1) := zD (q := (1130, .ireturn, 1)) tx_lw_law_11 10 rfl
theorem d_lw_law_1131 : decode code 1131 = .ok (.iload 5, 2) := zD (q := (1131, .iload 5, 2)) tx_lw_law_11 11 rfl
theorem d_lw_law_1133 : decode code 1133 = .ok (.ifCond .ne 15, 3) := zD (q := (1133, .ifCond .ne 15, 3)) tx_lw_law_11 12 rfl
theorem d_lw_law_1136 : decode code 1136 = .ok (.aload_n 3, 1) := zD (q := (1136, .aload_n 3, 1)) tx_lw_law_11 13 rfl
theorem d_lw_law_1137 : decode code 1137 = .ok (.iconst 0, 1) := zD (q := (1137, .iconst 0, 1)) tx_lw_law_11 14 rfl
theorem d_lw_law_1138 : decode code 1138 = .ok (.laload, 1) := zD (q := (1138, .laload, 1)) tx_lw_law_11 15 rfl
theorem d_lw_law_1139 : decode code 1139 = .ok (.iload 6, 2) := zD (q := (1139, .iload 6, 2)) tx_lw_law_11 16 rfl
theorem d_lw_law_1141 : decode code 1141 = .ok (.i2l, 1) := zD (q := (1141, .i2l, 1)) tx_lw_law_11 17 rfl
theorem d_lw_law_1142 : decode code 1142 = .ok (.lcmp, 1) := zD (q := (1142, .lcmp, 1)) tx_lw_law_11 18 rfl
theorem d_lw_law_1143 : decode code 1143 = .ok (.ifCond .eq 5, 3) := zD (q := (1143, .ifCond .eq 5, 3)) tx_lw_law_11 19 rfl
theorem d_lw_law_1146 : decode code 1146 = .ok (.iconst 0, 1) := zD (q := (1146, .iconst 0, 1)) tx_lw_law_11 20 rfl
theorem d_lw_law_1147 : decode code 1147 = .ok (.ireturn, 1) := zD (q := (1147, .ireturn, 1)) tx_lw_law_11 21 rfl
theorem d_lw_law_1148 : decode code 1148 = .ok (.goto 71, 3) := zD (q := (1148, .goto 71, 3)) tx_lw_law_11 22 rfl
theorem d_lw_law_1151 : decode code 1151 = .ok (.aload_n 1, 1) := zD (q := (1151, .aload_n 1, 1)) tx_lw_law_11 23 rfl
theorem d_lw_law_1152 : decode code 1152 = .ok (.aload_n 0, 1) := zD (q := (1152, .aload_n 0, 1)) tx_lw_law_11 24 rfl
theorem d_lw_law_1153 : decode code 1153 = .ok (.iload 4, 2) := zD (q := (1153, .iload 4, 2)) tx_lw_law_11 25 rfl
theorem d_lw_law_1155 : decode code 1155 = .ok (.iconst 1, 1) := zD (q := (1155, .iconst 1, 1)) tx_lw_law_11 26 rfl
theorem d_lw_law_1156 : decode code 1156 = .ok (.iadd, 1) := zD (q := (1156, .iadd, 1)) tx_lw_law_11 27 rfl
theorem d_lw_law_1157 : decode code 1157 = .ok (.iaload, 1) := zD (q := (1157, .iaload, 1)) tx_lw_law_11 28 rfl
theorem d_lw_law_1158 : decode code 1158 = .ok (.aload_n 0, 1) := zD (q := (1158, .aload_n 0, 1)) tx_lw_law_11 29 rfl
theorem d_lw_law_1159 : decode code 1159 = .ok (.iload 4, 2) := zD (q := (1159, .iload 4, 2)) tx_lw_law_11 30 rfl
theorem d_lw_law_1161 : decode code 1161 = .ok (.iconst 2, 1) := zD (q := (1161, .iconst 2, 1)) tx_lw_law_11 31 rfl
theorem d_lw_law_1162 : decode code 1162 = .ok (.iadd, 1) := zD (q := (1162, .iadd, 1)) tx_lw_law_11 32 rfl
theorem d_lw_law_1163 : decode code 1163 = .ok (.iaload, 1) := zD (q := (1163, .iaload, 1)) tx_lw_law_11 33 rfl
theorem d_lw_law_1164 : decode code 1164 = .ok (.aload_n 3, 1) := zD (q := (1164, .aload_n 3, 1)) tx_lw_law_11 34 rfl
theorem d_lw_law_1165 : decode code 1165 = .ok (.invokestatic 149, 3) := zD (q := (1165, .invokestatic 149, 3)) tx_lw_law_11 35 rfl
theorem d_lw_law_1168 : decode code 1168 = .ok (.istore 5, 2) := zD (q := (1168, .istore 5, 2)) tx_lw_law_11 36 rfl
theorem d_lw_law_1170 : decode code 1170 = .ok (.aload_n 2, 1) := zD (q := (1170, .aload_n 2, 1)) tx_lw_law_11 37 rfl
theorem d_lw_law_1171 : decode code 1171 = .ok (.aload_n 0, 1) := zD (q := (1171, .aload_n 0, 1)) tx_lw_law_11 38 rfl
theorem d_lw_law_1172 : decode code 1172 = .ok (.iload 4, 2) := zD (q := (1172, .iload 4, 2)) tx_lw_law_11 39 rfl
theorem d_lw_law_1174 : decode code 1174 = .ok (.iconst 1, 1) := zD (q := (1174, .iconst 1, 1)) tx_lw_law_11 40 rfl
theorem d_lw_law_1175 : decode code 1175 = .ok (.iadd, 1) := zD (q := (1175, .iadd, 1)) tx_lw_law_11 41 rfl
theorem d_lw_law_1176 : decode code 1176 = .ok (.iaload, 1) := zD (q := (1176, .iaload, 1)) tx_lw_law_11 42 rfl
theorem d_lw_law_1177 : decode code 1177 = .ok (.aload_n 0, 1) := zD (q := (1177, .aload_n 0, 1)) tx_lw_law_11 43 rfl
theorem d_lw_law_1178 : decode code 1178 = .ok (.iload 4, 2) := zD (q := (1178, .iload 4, 2)) tx_lw_law_11 44 rfl
theorem d_lw_law_1180 : decode code 1180 = .ok (.iconst 2, 1) := zD (q := (1180, .iconst 2, 1)) tx_lw_law_11 45 rfl
theorem d_lw_law_1181 : decode code 1181 = .ok (.iadd, 1) := zD (q := (1181, .iadd, 1)) tx_lw_law_11 46 rfl
theorem d_lw_law_1182 : decode code 1182 = .ok (.iaload, 1) := zD (q := (1182, .iaload, 1)) tx_lw_law_11 47 rfl
theorem d_lw_law_1183 : decode code 1183 = .ok (.invokevirtual 151, 3) := zD (q := (1183, .invokevirtual 151, 3)) tx_lw_law_11 48 rfl
theorem d_lw_law_1186 : decode code 1186 = .ok (.istore 6, 2) := zD (q := (1186, .istore 6, 2)) tx_lw_law_11 49 rfl
theorem d_lw_law_1188 : decode code 1188 = .ok (.aload_n 2, 1) := zD (q := (1188, .aload_n 2, 1)) tx_lw_law_11 50 rfl
theorem d_lw_law_1189 : decode code 1189 = .ok (.invokevirtual 82, 3) := zD (q := (1189, .invokevirtual 82, 3)) tx_lw_law_11 51 rfl
theorem d_lw_law_1192 : decode code 1192 = .ok (.iload 5, 2) := zD (q := (1192, .iload 5, 2)) tx_lw_law_11 52 rfl
theorem d_lw_law_1194 : decode code 1194 = .ok (.if_icmp .eq 5, 3) := zD (q := (1194, .if_icmp .eq 5, 3)) tx_lw_law_11 53 rfl
theorem d_lw_law_1197 : decode code 1197 = .ok (.iconst 0, 1) := zD (q := (1197, .iconst 0, 1)) tx_lw_law_11 54 rfl
theorem d_lw_law_1198 : decode code 1198 = .ok (.ireturn, 1) := zD (q := (1198, .ireturn, 1)) tx_lw_law_11 55 rfl
theorem d_lw_law_1199 : decode code 1199 = .ok (.iload 5, 2) := zD (q := (1199, .iload 5, 2)) tx_lw_law_11 56 rfl
theorem d_lw_law_1201 : decode code 1201 = .ok (.ifCond .ne 15, 3) := zD (q := (1201, .ifCond .ne 15, 3)) tx_lw_law_11 57 rfl
theorem d_lw_law_1204 : decode code 1204 = .ok (.aload_n 3, 1) := zD (q := (1204, .aload_n 3, 1)) tx_lw_law_11 58 rfl
theorem d_lw_law_1205 : decode code 1205 = .ok (.iconst 0, 1) := zD (q := (1205, .iconst 0, 1)) tx_lw_law_11 59 rfl
def T_lw_law_12 : List (Nat × Instr × Nat) := [(1206, .laload, 1), (1207, .iload 6, 2), (1209, .i2l, 1), (1210, .lcmp, 1), (1211, .ifCond .eq 5, 3), (1214, .iconst 0, 1), (1215, .ireturn, 1), (1216, .goto 3, 3), (1219, .iinc 4 5, 3), (1222, .goto (-1199), 3), (1225, .iconst 1, 1), (1226, .ireturn, 1)]
theorem tx_lw_law_12 : zdec code T_lw_law_12 = true := by decide +kernel
theorem d_lw_law_1206 : decode code 1206 = .ok (.laload, 1) := zD (q := (1206, .laload, 1)) tx_lw_law_12 0 rfl
theorem d_lw_law_1207 : decode code 1207 = .ok (.iload 6, 2) := zD (q := (1207, .iload 6, 2)) tx_lw_law_12 1 rfl
theorem d_lw_law_1209 : decode code 1209 = .ok (.i2l, 1) := zD (q := (1209, .i2l, 1)) tx_lw_law_12 2 rfl
theorem d_lw_law_1210 : decode code 1210 = .ok (.lcmp, 1) := zD (q := (1210, .lcmp, 1)) tx_lw_law_12 3 rfl
theorem d_lw_law_1211 : decode code 1211 = .ok (.ifCond .eq 5, 3) := zD (q := (1211, .ifCond .eq 5, 3)) tx_lw_law_12 4 rfl
theorem d_lw_law_1214 : decode code 1214 = .ok (.iconst 0, 1) := zD (q := (1214, .iconst 0, 1)) tx_lw_law_12 5 rfl
theorem d_lw_law_1215 : decode code 1215 = .ok (.ireturn, 1) := zD (q := (1215, .ireturn, 1)) tx_lw_law_12 6 rfl
theorem d_lw_law_1216 : decode code 1216 = .ok (.goto 3, 3) := zD (q := (1216, .goto 3, 3)) tx_lw_law_12 7 rfl
theorem d_lw_law_1219 : decode code 1219 = .ok (.iinc 4 5, 3) := zD (q := (1219, .iinc 4 5, 3)) tx_lw_law_12 8 rfl
theorem d_lw_law_1222 : decode code 1222 = .ok (.goto (-1199), 3) := zD (q := (1222, .goto (-1199), 3)) tx_lw_law_12 9 rfl
theorem d_lw_law_1225 : decode code 1225 = .ok (.iconst 1, 1) := zD (q := (1225, .iconst 1, 1)) tx_lw_law_12 10 rfl
theorem d_lw_law_1226 : decode code 1226 = .ok (.ireturn, 1) := zD (q := (1226, .ireturn, 1)) tx_lw_law_12 11 rfl
def T_ar_fill_0 : List (Nat × Instr × Nat) := [(0, .iconst 0, 1), (1, .istore_n 2, 1), (2, .aload_n 0, 1), (3, .arraylength, 1), (4, .istore_n 3, 1), (5, .iload_n 2, 1), (6, .iload_n 3, 1), (7, .if_icmp .ge 13, 3), (10, .aload_n 0, 1), (11, .iload_n 2, 1), (12, .iload_n 1, 1), (13, .iastore, 1), (14, .iinc 2 1, 3), (17, .goto (-12), 3), (20, .return_, 1)]
theorem tx_ar_fill_0 : zdec prog_19_method_103_code T_ar_fill_0 = true := by decide +kernel
theorem d_ar_fill_0 : decode prog_19_method_103_code 0 = .ok (.iconst 0, 1) := zD (q := (0, .iconst 0, 1)) tx_ar_fill_0 0 rfl
theorem d_ar_fill_1 : decode prog_19_method_103_code 1 = .ok (.istore_n 2, 1) := zD (q := (1, .istore_n 2, 1)) tx_ar_fill_0 1 rfl
theorem d_ar_fill_2 : decode prog_19_method_103_code 2 = .ok (.aload_n 0, 1) := zD (q := (2, .aload_n 0, 1)) tx_ar_fill_0 2 rfl
theorem d_ar_fill_3 : decode prog_19_method_103_code 3 = .ok (.arraylength, 1) := zD (q := (3, .arraylength, 1)) tx_ar_fill_0 3 rfl
theorem d_ar_fill_4 : decode prog_19_method_103_code 4 = .ok (.istore_n 3, 1) := zD (q := (4, .istore_n 3, 1)) tx_ar_fill_0 4 rfl
theorem d_ar_fill_5 : decode prog_19_method_103_code 5 = .ok (.iload_n 2, 1) := zD (q := (5, .iload_n 2, 1)) tx_ar_fill_0 5 rfl
theorem d_ar_fill_6 : decode prog_19_method_103_code 6 = .ok (.iload_n 3, 1) := zD (q := (6, .iload_n 3, 1)) tx_ar_fill_0 6 rfl
theorem d_ar_fill_7 : decode prog_19_method_103_code 7 = .ok (.if_icmp .ge 13, 3) := zD (q := (7, .if_icmp .ge 13, 3)) tx_ar_fill_0 7 rfl
theorem d_ar_fill_10 : decode prog_19_method_103_code 10 = .ok (.aload_n 0, 1) := zD (q := (10, .aload_n 0, 1)) tx_ar_fill_0 8 rfl
theorem d_ar_fill_11 : decode prog_19_method_103_code 11 = .ok (.iload_n 2, 1) := zD (q := (11, .iload_n 2, 1)) tx_ar_fill_0 9 rfl
theorem d_ar_fill_12 : decode prog_19_method_103_code 12 = .ok (.iload_n 1, 1) := zD (q := (12, .iload_n 1, 1)) tx_ar_fill_0 10 rfl
theorem d_ar_fill_13 : decode prog_19_method_103_code 13 = .ok (.iastore, 1) := zD (q := (13, .iastore, 1)) tx_ar_fill_0 11 rfl
theorem d_ar_fill_14 : decode prog_19_method_103_code 14 = .ok (.iinc 2 1, 3) := zD (q := (14, .iinc 2 1, 3)) tx_ar_fill_0 12 rfl
theorem d_ar_fill_17 : decode prog_19_method_103_code 17 = .ok (.goto (-12), 3) := zD (q := (17, .goto (-12), 3)) tx_ar_fill_0 13 rfl
theorem d_ar_fill_20 : decode prog_19_method_103_code 20 = .ok (.return_, 1) := zD (q := (20, .return_, 1)) tx_ar_fill_0 14 rfl
def T_ma_max_0 : List (Nat × Instr × Nat) := [(0, .iload_n 0, 1), (1, .iload_n 1, 1), (2, .if_icmp .lt 7, 3), (5, .iload_n 0, 1), (6, .goto 4, 3), (9, .iload_n 1, 1), (10, .ireturn, 1)]
theorem tx_ma_max_0 : zdec prog_15_method_65_code T_ma_max_0 = true := by decide +kernel
theorem d_ma_max_0 : decode prog_15_method_65_code 0 = .ok (.iload_n 0, 1) := zD (q := (0, .iload_n 0, 1)) tx_ma_max_0 0 rfl
theorem d_ma_max_1 : decode prog_15_method_65_code 1 = .ok (.iload_n 1, 1) := zD (q := (1, .iload_n 1, 1)) tx_ma_max_0 1 rfl
theorem d_ma_max_2 : decode prog_15_method_65_code 2 = .ok (.if_icmp .lt 7, 3) := zD (q := (2, .if_icmp .lt 7, 3)) tx_ma_max_0 2 rfl
theorem d_ma_max_5 : decode prog_15_method_65_code 5 = .ok (.iload_n 0, 1) := zD (q := (5, .iload_n 0, 1)) tx_ma_max_0 3 rfl
theorem d_ma_max_6 : decode prog_15_method_65_code 6 = .ok (.goto 4, 3) := zD (q := (6, .goto 4, 3)) tx_ma_max_0 4 rfl
theorem d_ma_max_9 : decode prog_15_method_65_code 9 = .ok (.iload_n 1, 1) := zD (q := (9, .iload_n 1, 1)) tx_ma_max_0 5 rfl
theorem d_ma_max_10 : decode prog_15_method_65_code 10 = .ok (.ireturn, 1) := zD (q := (10, .ireturn, 1)) tx_ma_max_0 6 rfl
def T_ma_min_0 : List (Nat × Instr × Nat) := [(0, .iload_n 0, 1), (1, .iload_n 1, 1), (2, .if_icmp .gt 7, 3), (5, .iload_n 0, 1), (6, .goto 4, 3), (9, .iload_n 1, 1), (10, .ireturn, 1)]
theorem tx_ma_min_0 : zdec prog_15_method_69_code T_ma_min_0 = true := by decide +kernel
theorem d_ma_min_0 : decode prog_15_method_69_code 0 = .ok (.iload_n 0, 1) := zD (q := (0, .iload_n 0, 1)) tx_ma_min_0 0 rfl
theorem d_ma_min_1 : decode prog_15_method_69_code 1 = .ok (.iload_n 1, 1) := zD (q := (1, .iload_n 1, 1)) tx_ma_min_0 1 rfl
theorem d_ma_min_2 : decode prog_15_method_69_code 2 = .ok (.if_icmp .gt 7, 3) := zD (q := (2, .if_icmp .gt 7, 3)) tx_ma_min_0 2 rfl
theorem d_ma_min_5 : decode prog_15_method_69_code 5 = .ok (.iload_n 0, 1) := zD (q := (5, .iload_n 0, 1)) tx_ma_min_0 3 rfl
theorem d_ma_min_6 : decode prog_15_method_69_code 6 = .ok (.goto 4, 3) := zD (q := (6, .goto 4, 3)) tx_ma_min_0 4 rfl
theorem d_ma_min_9 : decode prog_15_method_69_code 9 = .ok (.iload_n 1, 1) := zD (q := (9, .iload_n 1, 1)) tx_ma_min_0 5 rfl
theorem d_ma_min_10 : decode prog_15_method_69_code 10 = .ok (.ireturn, 1) := zD (q := (10, .ireturn, 1)) tx_ma_min_0 6 rfl
