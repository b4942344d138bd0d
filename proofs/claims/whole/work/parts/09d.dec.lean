/-! decode rows (written by wip/gen/data.py) -/
def T_md_init_0 : List (Nat × Instr × Nat) := [(0, .aload_n 0, 1), (1, .invokespecial 1, 3), (4, .aload_n 0, 1), (5, .iconst 4, 1), (6, .putfield 7, 3), (9, .aload_n 0, 1), (10, .sipush 1560, 3), (13, .newarray .boolean, 2), (15, .putfield 13, 3), (18, .aload_n 0, 1), (19, .bipush 6, 2), (21, .newarray .int, 2), (23, .putfield 17, 3), (26, .aload_n 0, 1), (27, .bipush 6, 2), (29, .newarray .int, 2), (31, .putfield 21, 3), (34, .aload_n 0, 1), (35, .bipush 6, 2), (37, .newarray .int, 2), (39, .putfield 24, 3), (42, .aload_n 0, 1), (43, .bipush 6, 2), (45, .newarray .int, 2), (47, .putfield 27, 3), (50, .aload_n 0, 1), (51, .bipush 6, 2), (53, .newarray .int, 2), (55, .putfield 30, 3), (58, .aload_n 0, 1), (59, .sipush 800, 3), (62, .newarray .int, 2), (64, .putfield 33, 3), (67, .aload_n 0, 1), (68, .sipush 800, 3), (71, .newarray .boolean, 2), (73, .putfield 36, 3), (76, .aload_n 0, 1), (77, .sipush 800, 3), (80, .newarray .boolean, 2), (82, .putfield 39, 3), (85, .aload_n 0, 1), (86, .sipush 800, 3), (89, .newarray .int, 2), (91, .putfield 42, 3), (94, .aload_n 0, 1), (95, .sipush 800, 3), (98, .newarray .int, 2), (100, .putfield 45, 3), (103, .aload_n 0, 1), (104, .sipush 800, 3), (107, .newarray .boolean, 2), (109, .putfield 48, 3), (112, .aload_n 0, 1), (113, .sipush 800, 3), (116, .newarray .int, 2), (118, .putfield 51, 3), (121, .aload_n 0, 1), (122, .bipush 40, 2), (124, .newarray .boolean, 2)]
theorem tx_md_init_0 : zdec prog_10_method_1_code T_md_init_0 = true := by decide +kernel
theorem d_md_init_0 : decode prog_10_method_1_code 0 = .ok (.aload_n 0, 1) := zD (q := (0, .aload_n 0, 1)) tx_md_init_0 0 rfl
theorem d_md_init_1 : decode prog_10_method_1_code 1 = .ok (.invokespecial 1, 3) := zD (q := (1, .invokespecial 1, 3)) tx_md_init_0 1 rfl
theorem d_md_init_4 : decode prog_10_method_1_code 4 = .ok (.aload_n 0, 1) := zD (q := (4, .aload_n 0, 1)) tx_md_init_0 2 rfl
theorem d_md_init_5 : decode prog_10_method_1_code 5 = .ok (.iconst 4, 1) := zD (q := (5, .iconst 4, 1)) tx_md_init_0 3 rfl
theorem d_md_init_6 : decode prog_10_method_1_code 6 = .ok (.putfield 7, 3) := zD (q := (6, .putfield 7, 3)) tx_md_init_0 4 rfl
theorem d_md_init_9 : decode prog_10_method_1_code 9 = .ok (.aload_n 0, 1) := zD (q := (9, .aload_n 0, 1)) tx_md_init_0 5 rfl
theorem d_md_init_10 : decode prog_10_method_1_code 10 = .ok (.sipush 1560, 3) := zD (q := (10, .sipush 1560, 3)) tx_md_init_0 6 rfl
theorem d_md_init_13 : decode prog_10_method_1_code 13 = .ok (.newarray .boolean, 2) := zD (q := (13, .newarray .boolean, 2)) tx_md_init_0 7 rfl
theorem d_md_init_15 : decode prog_10_method_1_code 15 = .ok (.putfield 13, 3) := zD (q := (15, .putfield 13, 3)) tx_md_init_0 8 rfl
theorem d_md_init_18 : decode prog_10_method_1_code 18 = .ok (.aload_n 0, 1) := zD (q := (18, .aload_n 0, 1)) tx_md_init_0 9 rfl
theorem d_md_init_19 : decode prog_10_method_1_code 19 = .ok (.bipush 6, 2) := zD (q := (19, .bipush 6, 2)) tx_md_init_0 10 rfl
theorem d_md_init_21 : decode prog_10_method_1_code 21 = .ok (.newarray .int, 2) := zD (q := (21, .newarray .int, 2)) tx_md_init_0 11 rfl
theorem d_md_init_23 : decode prog_10_method_1_code 23 = .ok (.putfield 17, 3) := zD (q := (23, .putfield 17, 3)) tx_md_init_0 12 rfl
theorem d_md_init_26 : decode prog_10_method_1_code 26 = .ok (.aload_n 0, 1) := zD (q := (26, .aload_n 0, 1)) tx_md_init_0 13 rfl
theorem d_md_init_27 : decode prog_10_method_1_code 27 = .ok (.bipush 6, 2) := zD (q := (27, .bipush 6, 2)) tx_md_init_0 14 rfl
theorem d_md_init_29 : decode prog_10_method_1_code 29 = .ok (.newarray .int, 2) := zD (q := (29, .newarray .int, 2)) tx_md_init_0 15 rfl
theorem d_md_init_31 : decode prog_10_method_1_code 31 = .ok (.putfield 21, 3) := zD (q := (31, .putfield 21, 3)) tx_md_init_0 16 rfl
theorem d_md_init_34 : decode prog_10_method_1_code 34 = .ok (.aload_n 0, 1) := zD (q := (34, .aload_n 0, 1)) tx_md_init_0 17 rfl
theorem d_md_init_35 : decode prog_10_method_1_code 35 = .ok (.bipush 6, 2) := zD (q := (35, .bipush 6, 2)) tx_md_init_0 18 rfl
theorem d_md_init_37 : decode prog_10_method_1_code 37 = .ok (.newarray .int, 2) := zD (q := (37, .newarray .int, 2)) tx_md_init_0 19 rfl
theorem d_md_init_39 : decode prog_10_method_1_code 39 = .ok (.putfield 24, 3) := zD (q := (39, .putfield 24, 3)) tx_md_init_0 20 rfl
theorem d_md_init_42 : decode prog_10_method_1_code 42 = .ok (.aload_n 0, 1) := zD (q := (42, .aload_n 0, 1)) tx_md_init_0 21 rfl
theorem d_md_init_43 : decode prog_10_method_1_code 43 = .ok (.bipush 6, 2) := zD (q := (43, .bipush 6, 2)) tx_md_init_0 22 rfl
theorem d_md_init_45 : decode prog_10_method_1_code 45 = .ok (.newarray .int, 2) := zD (q := (45, .newarray .int, 2)) tx_md_init_0 23 rfl
theorem d_md_init_47 : decode prog_10_method_1_code 47 = .ok (.putfield 27, 3) := zD (q := (47, .putfield 27, 3)) tx_md_init_0 24 rfl
theorem d_md_init_50 : decode prog_10_method_1_code 50 = .ok (.aload_n 0, 1) := zD (q := (50, .aload_n 0, 1)) tx_md_init_0 25 rfl
theorem d_md_init_51 : decode prog_10_method_1_code 51 = .ok (.bipush 6, 2) := zD (q := (51, .bipush 6, 2)) tx_md_init_0 26 rfl
theorem d_md_init_53 : decode prog_10_method_1_code 53 = .ok (.newarray .int, 2) := zD (q := (53, .newarray .int, 2)) tx_md_init_0 27 rfl
theorem d_md_init_55 : decode prog_10_method_1_code 55 = .ok (.putfield 30, 3) := zD (q := (55, .putfield 30, 3)) tx_md_init_0 28 rfl
theorem d_md_init_58 : decode prog_10_method_1_code 58 = .ok (.aload_n 0, 1) := zD (q := (58, .aload_n 0, 1)) tx_md_init_0 29 rfl
theorem d_md_init_59 : decode prog_10_method_1_code 59 = .ok (.sipush 800, 3) := zD (q := (59, .sipush 800, 3)) tx_md_init_0 30 rfl
theorem d_md_init_62 : decode prog_10_method_1_code 62 = .ok (.newarray .int, 2) := zD (q := (62, .newarray .int, 2)) tx_md_init_0 31 rfl
theorem d_md_init_64 : decode prog_10_method_1_code 64 = .ok (.putfield 33, 3) := zD (q := (64, .putfield 33, 3)) tx_md_init_0 32 rfl
theorem d_md_init_67 : decode prog_10_method_1_code 67 = .ok (.aload_n 0, 1) := zD (q := (67, .aload_n 0, 1)) tx_md_init_0 33 rfl
theorem d_md_init_68 : decode prog_10_method_1_code 68 = .ok (.sipush 800, 3) := zD (q := (68, .sipush 800, 3)) tx_md_init_0 34 rfl
theorem d_md_init_71 : decode prog_10_method_1_code 71 = .ok (.newarray .boolean, 2) := zD (q := (71, .newarray .boolean, 2)) tx_md_init_0 35 rfl
theorem d_md_init_73 : decode prog_10_method_1_code 73 = .ok (.putfield 36, 3) := zD (q := (73, .putfield 36, 3)) tx_md_init_0 36 rfl
theorem d_md_init_76 : decode prog_10_method_1_code 76 = .ok (.aload_n 0, 1) := zD (q := (76, .aload_n 0, 1)) tx_md_init_0 37 rfl
theorem d_md_init_77 : decode prog_10_method_1_code 77 = .ok (.sipush 800, 3) := zD (q := (77, .sipush 800, 3)) tx_md_init_0 38 rfl
theorem d_md_init_80 : decode prog_10_method_1_code 80 = .ok (.newarray .boolean, 2) := zD (q := (80, .newarray .boolean, 2)) tx_md_init_0 39 rfl
theorem d_md_init_82 : decode prog_10_method_1_code 82 = .ok (.putfield 39, 3) := zD (q := (82, .putfield 39, 3)) tx_md_init_0 40 rfl
theorem d_md_init_85 : decode prog_10_method_1_code 85 = .ok (.aload_n 0, 1) := zD (q := (85, .aload_n 0, 1)) tx_md_init_0 41 rfl
theorem d_md_init_86 : decode prog_10_method_1_code 86 = .ok (.sipush 800, 3) := zD (q := (86, .sipush 800, 3)) tx_md_init_0 42 rfl
theorem d_md_init_89 : decode prog_10_method_1_code 89 = .ok (.newarray .int, 2) := zD (q := (89, .newarray .int, 2)) tx_md_init_0 43 rfl
theorem d_md_init_91 : decode prog_10_method_1_code 91 = .ok (.putfield 42, 3) := zD (q := (91, .putfield 42, 3)) tx_md_init_0 44 rfl
theorem d_md_init_94 : decode prog_10_method_1_code 94 = .ok (.aload_n 0, 1) := zD (q := (94, .aload_n 0, 1)) tx_md_init_0 45 rfl
theorem d_md_init_95 : decode prog_10_method_1_code 95 = .ok (.sipush 800, 3) := zD (q := (95, .sipush 800, 3)) tx_md_init_0 46 rfl
theorem d_md_init_98 : decode prog_10_method_1_code 98 = .ok (.newarray .int, 2) := zD (q := (98, .newarray .int, 2)) tx_md_init_0 47 rfl
theorem d_md_init_100 : decode prog_10_method_1_code 100 = .ok (.putfield 45, 3) := zD (q := (100, .putfield 45, 3)) tx_md_init_0 48 rfl
theorem d_md_init_103 : decode prog_10_method_1_code 103 = .ok (.aload_n 0, 1) := zD (q := (103, .aload_n 0, 1)) tx_md_init_0 49 rfl
theorem d_md_init_104 : decode prog_10_method_1_code 104 = .ok (.sipush 800, 3) := zD (q := (104, .sipush 800, 3)) tx_md_init_0 50 rfl
theorem d_md_init_107 : decode prog_10_method_1_code 107 = .ok (.newarray .boolean, 2) := zD (q := (107, .newarray .boolean, 2)) tx_md_init_0 51 rfl
theorem d_md_init_109 : decode prog_10_method_1_code 109 = .ok (.putfield 48, 3) := zD (q := (109, .putfield 48, 3)) tx_md_init_0 52 rfl
theorem d_md_init_112 : decode prog_10_method_1_code 112 = .ok (.aload_n 0, 1) := zD (q := (112, .aload_n 0, 1)) tx_md_init_0 53 rfl
theorem d_md_init_113 : decode prog_10_method_1_code 113 = .ok (.sipush 800, 3) := zD (q := (113, .sipush 800, 3)) tx_md_init_0 54 rfl
theorem d_md_init_116 : decode prog_10_method_1_code 116 = .ok (.newarray .int, 2) := zD (q := (116, .newarray .int, 2)) tx_md_init_0 55 rfl
theorem d_md_init_118 : decode prog_10_method_1_code 118 = .ok (.putfield 51, 3) := zD (q := (118, .putfield 51, 3)) tx_md_init_0 56 rfl
theorem d_md_init_121 : decode prog_10_method_1_code 121 = .ok (.aload_n 0, 1) := zD (q := (121, .aload_n 0, 1)) tx_md_init_0 57 rfl
theorem d_md_init_122 : decode prog_10_method_1_code 122 = .ok (.bipush 40, 2) := zD (q := (122, .bipush 40, 2)) tx_md_init_0 58 rfl
theorem d_md_init_124 : decode prog_10_method_1_code 124 = .ok (.newarray .boolean, 2) := zD (q := (124, .newarray .boolean, 2)) tx_md_init_0 59 rfl
def T_md_init_1 : List (Nat × Instr × Nat) := [(126, .putfield 54, 3), (129, .aload_n 0, 1), (130, .bipush 6, 2), (132, .newarray .int, 2), (134, .putfield 57, 3), (137, .aload_n 0, 1), (138, .sipush 160, 3), (141, .newarray .int, 2), (143, .putfield 60, 3), (146, .aload_n 0, 1), (147, .sipush 160, 3), (150, .newarray .boolean, 2), (152, .putfield 63, 3), (155, .aload_n 0, 1), (156, .bipush 64, 2), (158, .newarray .int, 2), (160, .putfield 66, 3), (163, .aload_n 0, 1), (164, .bipush 64, 2), (166, .newarray .int, 2), (168, .putfield 69, 3), (171, .aload_n 0, 1), (172, .bipush 64, 2), (174, .newarray .int, 2), (176, .putfield 72, 3), (179, .aload_n 0, 1), (180, .sipush 400, 3), (183, .newarray .int, 2), (185, .putfield 75, 3), (188, .aload_n 0, 1), (189, .sipush 400, 3), (192, .newarray .int, 2), (194, .putfield 78, 3), (197, .aload_n 0, 1), (198, .sipush 160, 3), (201, .newarray .int, 2), (203, .putfield 81, 3), (206, .aload_n 0, 1), (207, .bipush 20, 2), (209, .newarray .int, 2), (211, .putfield 84, 3), (214, .iconst 0, 1), (215, .istore_n 1, 1), (216, .iload_n 1, 1), (217, .sipush 800, 3), (220, .if_icmp .ge 16, 3), (223, .aload_n 0, 1), (224, .getfield 51, 3), (227, .iload_n 1, 1), (228, .iconst (-1), 1), (229, .iastore, 1), (230, .iinc 1 1, 3), (233, .goto (-17), 3), (236, .return_, 1)]
theorem tx_md_init_1 : zdec prog_10_method_1_code T_md_init_1 = true := by decide +kernel
theorem d_md_init_126 : decode prog_10_method_1_code 126 = .ok (.putfield 54, 3) := zD (q := (126, .putfield 54, 3)) tx_md_init_1 0 rfl
theorem d_md_init_129 : decode prog_10_method_1_code 129 = .ok (.aload_n 0, 1) := zD (q := (129, .aload_n 0, 1)) tx_md_init_1 1 rfl
theorem d_md_init_130 : decode prog_10_method_1_code 130 = .ok (.bipush 6, 2) := zD (q := (130, .bipush 6, 2)) tx_md_init_1 2 rfl
theorem d_md_init_132 : decode prog_10_method_1_code 132 = .ok (.newarray .int, 2) := zD (q := (132, .newarray .int, 2)) tx_md_init_1 3 rfl
theorem d_md_init_134 : decode prog_10_method_1_code 134 = .ok (.putfield 57, 3) := zD (q := (134, .putfield 57, 3)) tx_md_init_1 4 rfl
theorem d_md_init_137 : decode prog_10_method_1_code 137 = .ok (.aload_n 0, 1) := zD (q := (137, .aload_n 0, 1)) tx_md_init_1 5 rfl
theorem d_md_init_138 : decode prog_10_method_1_code 138 = .ok (.sipush 160, 3) := zD (q := (138, .sipush 160, 3)) tx_md_init_1 6 rfl
theorem d_md_init_141 : decode prog_10_method_1_code 141 = .ok (.newarray .int, 2) := zD (q := (141, .newarray .int, 2)) tx_md_init_1 7 rfl
theorem d_md_init_143 : decode prog_10_method_1_code 143 = .ok (.putfield 60, 3) := zD (q := (143, .putfield 60, 3)) tx_md_init_1 8 rfl
theorem d_md_init_146 : decode prog_10_method_1_code 146 = .ok (.aload_n 0, 1) := zD (q := (146, .aload_n 0, 1)) tx_md_init_1 9 rfl
theorem d_md_init_147 : decode prog_10_method_1_code 147 = .ok (.sipush 160, 3) := zD (q := (147, .sipush 160, 3)) tx_md_init_1 10 rfl
theorem d_md_init_150 : decode prog_10_method_1_code 150 = .ok (.newarray .boolean, 2) := zD (q := (150, .newarray .boolean, 2)) tx_md_init_1 11 rfl
theorem d_md_init_152 : decode prog_10_method_1_code 152 = .ok (.putfield 63, 3) := zD (q := (152, .putfield 63, 3)) tx_md_init_1 12 rfl
theorem d_md_init_155 : decode prog_10_method_1_code 155 = .ok (.aload_n 0, 1) := zD (q := (155, .aload_n 0, 1)) tx_md_init_1 13 rfl
theorem d_md_init_156 : decode prog_10_method_1_code 156 = .ok (.bipush 64, 2) := zD (q := (156, .bipush 64, 2)) tx_md_init_1 14 rfl
theorem d_md_init_158 : decode prog_10_method_1_code 158 = .ok (.newarray .int, 2) := zD (q := (158, .newarray .int, 2)) tx_md_init_1 15 rfl
theorem d_md_init_160 : decode prog_10_method_1_code 160 = .ok (.putfield 66, 3) := zD (q := (160, .putfield 66, 3)) tx_md_init_1 16 rfl
theorem d_md_init_163 : decode prog_10_method_1_code 163 = .ok (.aload_n 0, 1) := zD (q := (163, .aload_n 0, 1)) tx_md_init_1 17 rfl
theorem d_md_init_164 : decode prog_10_method_1_code 164 = .ok (.bipush 64, 2) := zD (q := (164, .bipush 64, 2)) tx_md_init_1 18 rfl
theorem d_md_init_166 : decode prog_10_method_1_code 166 = .ok (.newarray .int, 2) := zD (q := (166, .newarray .int, 2)) tx_md_init_1 19 rfl
theorem d_md_init_168 : decode prog_10_method_1_code 168 = .ok (.putfield 69, 3) := zD (q := (168, .putfield 69, 3)) tx_md_init_1 20 rfl
theorem d_md_init_171 : decode prog_10_method_1_code 171 = .ok (.aload_n 0, 1) := zD (q := (171, .aload_n 0, 1)) tx_md_init_1 21 rfl
theorem d_md_init_172 : decode prog_10_method_1_code 172 = .ok (.bipush 64, 2) := zD (q := (172, .bipush 64, 2)) tx_md_init_1 22 rfl
theorem d_md_init_174 : decode prog_10_method_1_code 174 = .ok (.newarray .int, 2) := zD (q := (174, .newarray .int, 2)) tx_md_init_1 23 rfl
theorem d_md_init_176 : decode prog_10_method_1_code 176 = .ok (.putfield 72, 3) := zD (q := (176, .putfield 72, 3)) tx_md_init_1 24 rfl
theorem d_md_init_179 : decode prog_10_method_1_code 179 = .ok (.aload_n 0, 1) := zD (q := (179, .aload_n 0, 1)) tx_md_init_1 25 rfl
theorem d_md_init_180 : decode prog_10_method_1_code 180 = .ok (.sipush 400, 3) := zD (q := (180, .sipush 400, 3)) tx_md_init_1 26 rfl
theorem d_md_init_183 : decode prog_10_method_1_code 183 = .ok (.newarray .int, 2) := zD (q := (183, .newarray .int, 2)) tx_md_init_1 27 rfl
theorem d_md_init_185 : decode prog_10_method_1_code 185 = .ok (.putfield 75, 3) := zD (q := (185, .putfield 75, 3)) tx_md_init_1 28 rfl
theorem d_md_init_188 : decode prog_10_method_1_code 188 = .ok (.aload_n 0, 1) := zD (q := (188, .aload_n 0, 1)) tx_md_init_1 29 rfl
theorem d_md_init_189 : decode prog_10_method_1_code 189 = .ok (.sipush 400, 3) := zD (q := (189, .sipush 400, 3)) tx_md_init_1 30 rfl
theorem d_md_init_192 : decode prog_10_method_1_code 192 = .ok (.newarray .int, 2) := zD (q := (192, .newarray .int, 2)) tx_md_init_1 31 rfl
theorem d_md_init_194 : decode prog_10_method_1_code 194 = .ok (.putfield 78, 3) := zD (q := (194, .putfield 78, 3)) tx_md_init_1 32 rfl
theorem d_md_init_197 : decode prog_10_method_1_code 197 = .ok (.aload_n 0, 1) := zD (q := (197, .aload_n 0, 1)) tx_md_init_1 33 rfl
theorem d_md_init_198 : decode prog_10_method_1_code 198 = .ok (.sipush 160, 3) := zD (q := (198, .sipush 160, 3)) tx_md_init_1 34 rfl
theorem d_md_init_201 : decode prog_10_method_1_code 201 = .ok (.newarray .int, 2) := zD (q := (201, .newarray .int, 2)) tx_md_init_1 35 rfl
theorem d_md_init_203 : decode prog_10_method_1_code 203 = .ok (.putfield 81, 3) := zD (q := (203, .putfield 81, 3)) tx_md_init_1 36 rfl
theorem d_md_init_206 : decode prog_10_method_1_code 206 = .ok (.aload_n 0, 1) := zD (q := (206, .aload_n 0, 1)) tx_md_init_1 37 rfl
theorem d_md_init_207 : decode prog_10_method_1_code 207 = .ok (.bipush 20, 2) := zD (q := (207, .bipush 20, 2)) tx_md_init_1 38 rfl
theorem d_md_init_209 : decode prog_10_method_1_code 209 = .ok (.newarray .int, 2) := zD (q := (209, .newarray .int, 2)) tx_md_init_1 39 rfl
theorem d_md_init_211 : decode prog_10_method_1_code 211 = .ok (.putfield 84, 3) := zD (q := (211, .putfield 84, 3)) tx_md_init_1 40 rfl
theorem d_md_init_214 : decode prog_10_method_1_code 214 = .ok (.iconst 0, 1) := zD (q := (214, .iconst 0, 1)) tx_md_init_1 41 rfl
theorem d_md_init_215 : decode prog_10_method_1_code 215 = .ok (.istore_n 1, 1) := zD (q := (215, .istore_n 1, 1)) tx_md_init_1 42 rfl
theorem d_md_init_216 : decode prog_10_method_1_code 216 = .ok (.iload_n 1, 1) := zD (q := (216, .iload_n 1, 1)) tx_md_init_1 43 rfl
theorem d_md_init_217 : decode prog_10_method_1_code 217 = .ok (.sipush 800, 3) := zD (q := (217, .sipush 800, 3)) tx_md_init_1 44 rfl
theorem d_md_init_220 : decode prog_10_method_1_code 220 = .ok (.if_icmp .ge 16, 3) := zD (q := (220, .if_icmp .ge 16, 3)) tx_md_init_1 45 rfl
theorem d_md_init_223 : decode prog_10_method_1_code 223 = .ok (.aload_n 0, 1) := zD (q := (223, .aload_n 0, 1)) tx_md_init_1 46 rfl
theorem d_md_init_224 : decode prog_10_method_1_code 224 = .ok (.getfield 51, 3) := zD (q := (224, .getfield 51, 3)) tx_md_init_1 47 rfl
theorem d_md_init_227 : decode prog_10_method_1_code 227 = .ok (.iload_n 1, 1) := zD (q := (227, .iload_n 1, 1)) tx_md_init_1 48 rfl
theorem d_md_init_228 : decode prog_10_method_1_code 228 = .ok (.iconst (-1), 1) := zD (q := (228, .iconst (-1), 1)) tx_md_init_1 49 rfl
theorem d_md_init_229 : decode prog_10_method_1_code 229 = .ok (.iastore, 1) := zD (q := (229, .iastore, 1)) tx_md_init_1 50 rfl
theorem d_md_init_230 : decode prog_10_method_1_code 230 = .ok (.iinc 1 1, 3) := zD (q := (230, .iinc 1 1, 3)) tx_md_init_1 51 rfl
theorem d_md_init_233 : decode prog_10_method_1_code 233 = .ok (.goto (-17), 3) := zD (q := (233, .goto (-17), 3)) tx_md_init_1 52 rfl
theorem d_md_init_236 : decode prog_10_method_1_code 236 = .ok (.return_, 1) := zD (q := (236, .return_, 1)) tx_md_init_1 53 rfl
def T_md_thrown_0 : List (Nat × Instr × Nat) := [(0, .aload_n 0, 1), (1, .getfield 87, 3), (4, .ireturn, 1)]
theorem tx_md_thrown_0 : zdec prog_10_method_2_code T_md_thrown_0 = true := by decide +kernel
theorem d_md_thrown_0 : decode prog_10_method_2_code 0 = .ok (.aload_n 0, 1) := zD (q := (0, .aload_n 0, 1)) tx_md_thrown_0 0 rfl
theorem d_md_thrown_1 : decode prog_10_method_2_code 1 = .ok (.getfield 87, 3) := zD (q := (1, .getfield 87, 3)) tx_md_thrown_0 1 rfl
theorem d_md_thrown_4 : decode prog_10_method_2_code 4 = .ok (.ireturn, 1) := zD (q := (4, .ireturn, 1)) tx_md_thrown_0 2 rfl
def T_md_teams_0 : List (Nat × Instr × Nat) := [(0, .aload_n 0, 1), (1, .iload_n 1, 1), (2, .iconst 4, 1), (3, .bipush 20, 2), (5, .invokestatic 90, 3), (8, .ifCond .ne 7, 3), (11, .iconst 1, 1), (12, .goto 4, 3), (15, .iconst 0, 1), (16, .iconst 0, 1), (17, .iconst 0, 1), (18, .iconst 0, 1), (19, .invokevirtual 100, 3), (22, .ifCond .eq 4, 3), (25, .return_, 1), (26, .aload_n 0, 1), (27, .iload_n 1, 1), (28, .putfield 7, 3), (31, .iconst 0, 1), (32, .istore_n 2, 1), (33, .iload_n 2, 1), (34, .sipush 1560, 3), (37, .if_icmp .ge 16, 3), (40, .aload_n 0, 1), (41, .getfield 13, 3), (44, .iload_n 2, 1), (45, .iconst 0, 1), (46, .bastore, 1), (47, .iinc 2 1, 3), (50, .goto (-17), 3), (53, .aload_n 0, 1), (54, .iconst 0, 1), (55, .putfield 104, 3), (58, .aload_n 0, 1), (59, .iconst 0, 1), (60, .putfield 107, 3), (63, .aload_n 0, 1), (64, .iconst 0, 1), (65, .putfield 110, 3), (68, .aload_n 0, 1), (69, .iconst 0, 1), (70, .putfield 113, 3), (73, .aload_n 0, 1), (74, .iconst 0, 1), (75, .putfield 94, 3), (78, .aload_n 0, 1), (79, .invokevirtual 116, 3), (82, .return_, 1)]
theorem tx_md_teams_0 : zdec prog_10_method_8_code T_md_teams_0 = true := by decide +kernel
theorem d_md_teams_0 : decode prog_10_method_8_code 0 = .ok (.aload_n 0, 1) := zD (q := (0, .aload_n 0, 1)) tx_md_teams_0 0 rfl
theorem d_md_teams_1 : decode prog_10_method_8_code 1 = .ok (.iload_n 1, 1) := zD (q := (1, .iload_n 1, 1)) tx_md_teams_0 1 rfl
theorem d_md_teams_2 : decode prog_10_method_8_code 2 = .ok (.iconst 4, 1) := zD (q := (2, .iconst 4, 1)) tx_md_teams_0 2 rfl
theorem d_md_teams_3 : decode prog_10_method_8_code 3 = .ok (.bipush 20, 2) := zD (q := (3, .bipush 20, 2)) tx_md_teams_0 3 rfl
theorem d_md_teams_5 : decode prog_10_method_8_code 5 = .ok (.invokestatic 90, 3) := zD (q := (5, .invokestatic 90, 3)) tx_md_teams_0 4 rfl
theorem d_md_teams_8 : decode prog_10_method_8_code 8 = .ok (.ifCond .ne 7, 3) := zD (q := (8, .ifCond .ne 7, 3)) tx_md_teams_0 5 rfl
theorem d_md_teams_11 : decode prog_10_method_8_code 11 = .ok (.iconst 1, 1) := zD (q := (11, .iconst 1, 1)) tx_md_teams_0 6 rfl
theorem d_md_teams_12 : decode prog_10_method_8_code 12 = .ok (.goto 4, 3) := zD (q := (12, .goto 4, 3)) tx_md_teams_0 7 rfl
theorem d_md_teams_15 : decode prog_10_method_8_code 15 = .ok (.iconst 0, 1) := zD (q := (15, .iconst 0, 1)) tx_md_teams_0 8 rfl
theorem d_md_teams_16 : decode prog_10_method_8_code 16 = .ok (.iconst 0, 1) := zD (q := (16, .iconst 0, 1)) tx_md_teams_0 9 rfl
theorem d_md_teams_17 : decode prog_10_method_8_code 17 = .ok (.iconst 0, 1) := zD (q := (17, .iconst 0, 1)) tx_md_teams_0 10 rfl
theorem d_md_teams_18 : decode prog_10_method_8_code 18 = .ok (.iconst 0, 1) := zD (q := (18, .iconst 0, 1)) tx_md_teams_0 11 rfl
theorem d_md_teams_19 : decode prog_10_method_8_code 19 = .ok (.invokevirtual 100, 3) := zD (q := (19, .invokevirtual 100, 3)) tx_md_teams_0 12 rfl
theorem d_md_teams_22 : decode prog_10_method_8_code 22 = .ok (.ifCond .eq 4, 3) := zD (q := (22, .ifCond .eq 4, 3)) tx_md_teams_0 13 rfl
theorem d_md_teams_25 : decode prog_10_method_8_code 25 = .ok (.return_, 1) := zD (q := (25, .return_, 1)) tx_md_teams_0 14 rfl
theorem d_md_teams_26 : decode prog_10_method_8_code 26 = .ok (.aload_n 0, 1) := zD (q := (26, .aload_n 0, 1)) tx_md_teams_0 15 rfl
theorem d_md_teams_27 : decode prog_10_method_8_code 27 = .ok (.iload_n 1, 1) := zD (q := (27, .iload_n 1, 1)) tx_md_teams_0 16 rfl
theorem d_md_teams_28 : decode prog_10_method_8_code 28 = .ok (.putfield 7, 3) := zD (q := (28, .putfield 7, 3)) tx_md_teams_0 17 rfl
theorem d_md_teams_31 : decode prog_10_method_8_code 31 = .ok (.iconst 0, 1) := zD (q := (31, .iconst 0, 1)) tx_md_teams_0 18 rfl
theorem d_md_teams_32 : decode prog_10_method_8_code 32 = .ok (.istore_n 2, 1) := zD (q := (32, .istore_n 2, 1)) tx_md_teams_0 19 rfl
theorem d_md_teams_33 : decode prog_10_method_8_code 33 = .ok (.iload_n 2, 1) := zD (q := (33, .iload_n 2, 1)) tx_md_teams_0 20 rfl
theorem d_md_teams_34 : decode prog_10_method_8_code 34 = .ok (.sipush 1560, 3) := zD (q := (34, .sipush 1560, 3)) tx_md_teams_0 21 rfl
theorem d_md_teams_37 : decode prog_10_method_8_code 37 = .ok (.if_icmp .ge 16, 3) := zD (q := (37, .if_icmp .ge 16, 3)) tx_md_teams_0 22 rfl
theorem d_md_teams_40 : decode prog_10_method_8_code 40 = .ok (.aload_n 0, 1) := zD (q := (40, .aload_n 0, 1)) tx_md_teams_0 23 rfl
theorem d_md_teams_41 : decode prog_10_method_8_code 41 = .ok (.getfield 13, 3) := zD (q := (41, .getfield 13, 3)) tx_md_teams_0 24 rfl
theorem d_md_teams_44 : decode prog_10_method_8_code 44 = .ok (.iload_n 2, 1) := zD (q := (44, .iload_n 2, 1)) tx_md_teams_0 25 rfl
theorem d_md_teams_45 : decode prog_10_method_8_code 45 = .ok (.iconst 0, 1) := zD (q := (45, .iconst 0, 1)) tx_md_teams_0 26 rfl
theorem d_md_teams_46 : decode prog_10_method_8_code 46 = .ok (.bastore, 1) := zD (q := (46, .bastore, 1)) tx_md_teams_0 27 rfl
theorem d_md_teams_47 : decode prog_10_method_8_code 47 = .ok (.iinc 2 1, 3) := zD (q := (47, .iinc 2 1, 3)) tx_md_teams_0 28 rfl
theorem d_md_teams_50 : decode prog_10_method_8_code 50 = .ok (.goto (-17), 3) := zD (q := (50, .goto (-17), 3)) tx_md_teams_0 29 rfl
theorem d_md_teams_53 : decode prog_10_method_8_code 53 = .ok (.aload_n 0, 1) := zD (q := (53, .aload_n 0, 1)) tx_md_teams_0 30 rfl
theorem d_md_teams_54 : decode prog_10_method_8_code 54 = .ok (.iconst 0, 1) := zD (q := (54, .iconst 0, 1)) tx_md_teams_0 31 rfl
theorem d_md_teams_55 : decode prog_10_method_8_code 55 = .ok (.putfield 104, 3) := zD (q := (55, .putfield 104, 3)) tx_md_teams_0 32 rfl
theorem d_md_teams_58 : decode prog_10_method_8_code 58 = .ok (.aload_n 0, 1) := zD (q := (58, .aload_n 0, 1)) tx_md_teams_0 33 rfl
theorem d_md_teams_59 : decode prog_10_method_8_code 59 = .ok (.iconst 0, 1) := zD (q := (59, .iconst 0, 1)) tx_md_teams_0 34 rfl
theorem d_md_teams_60 : decode prog_10_method_8_code 60 = .ok (.putfield 107, 3) := zD (q := (60, .putfield 107, 3)) tx_md_teams_0 35 rfl
theorem d_md_teams_63 : decode prog_10_method_8_code 63 = .ok (.aload_n 0, 1) := zD (q := (63, .aload_n 0, 1)) tx_md_teams_0 36 rfl
theorem d_md_teams_64 : decode prog_10_method_8_code 64 = .ok (.iconst 0, 1) := zD (q := (64, .iconst 0, 1)) tx_md_teams_0 37 rfl
theorem d_md_teams_65 : decode prog_10_method_8_code 65 = .ok (.putfield 110, 3) := zD (q := (65, .putfield 110, 3)) tx_md_teams_0 38 rfl
theorem d_md_teams_68 : decode prog_10_method_8_code 68 = .ok (.aload_n 0, 1) := zD (q := (68, .aload_n 0, 1)) tx_md_teams_0 39 rfl
theorem d_md_teams_69 : decode prog_10_method_8_code 69 = .ok (.iconst 0, 1) := zD (q := (69, .iconst 0, 1)) tx_md_teams_0 40 rfl
theorem d_md_teams_70 : decode prog_10_method_8_code 70 = .ok (.putfield 113, 3) := zD (q := (70, .putfield 113, 3)) tx_md_teams_0 41 rfl
theorem d_md_teams_73 : decode prog_10_method_8_code 73 = .ok (.aload_n 0, 1) := zD (q := (73, .aload_n 0, 1)) tx_md_teams_0 42 rfl
theorem d_md_teams_74 : decode prog_10_method_8_code 74 = .ok (.iconst 0, 1) := zD (q := (74, .iconst 0, 1)) tx_md_teams_0 43 rfl
theorem d_md_teams_75 : decode prog_10_method_8_code 75 = .ok (.putfield 94, 3) := zD (q := (75, .putfield 94, 3)) tx_md_teams_0 44 rfl
theorem d_md_teams_78 : decode prog_10_method_8_code 78 = .ok (.aload_n 0, 1) := zD (q := (78, .aload_n 0, 1)) tx_md_teams_0 45 rfl
theorem d_md_teams_79 : decode prog_10_method_8_code 79 = .ok (.invokevirtual 116, 3) := zD (q := (79, .invokevirtual 116, 3)) tx_md_teams_0 46 rfl
theorem d_md_teams_82 : decode prog_10_method_8_code 82 = .ok (.return_, 1) := zD (q := (82, .return_, 1)) tx_md_teams_0 47 rfl
def T_md_in_0 : List (Nat × Instr × Nat) := [(0, .iload_n 0, 1), (1, .iload_n 1, 1), (2, .if_icmp .lt 12, 3), (5, .iload_n 0, 1), (6, .iload_n 2, 1), (7, .if_icmp .gt 7, 3), (10, .iconst 1, 1), (11, .goto 4, 3), (14, .iconst 0, 1), (15, .ireturn, 1)]
theorem tx_md_in_0 : zdec prog_10_method_4_code T_md_in_0 = true := by decide +kernel
theorem d_md_in_0 : decode prog_10_method_4_code 0 = .ok (.iload_n 0, 1) := zD (q := (0, .iload_n 0, 1)) tx_md_in_0 0 rfl
theorem d_md_in_1 : decode prog_10_method_4_code 1 = .ok (.iload_n 1, 1) := zD (q := (1, .iload_n 1, 1)) tx_md_in_0 1 rfl
theorem d_md_in_2 : decode prog_10_method_4_code 2 = .ok (.if_icmp .lt 12, 3) := zD (q := (2, .if_icmp .lt 12, 3)) tx_md_in_0 2 rfl
theorem d_md_in_5 : decode prog_10_method_4_code 5 = .ok (.iload_n 0, 1) := zD (q := (5, .iload_n 0, 1)) tx_md_in_0 3 rfl
theorem d_md_in_6 : decode prog_10_method_4_code 6 = .ok (.iload_n 2, 1) := zD (q := (6, .iload_n 2, 1)) tx_md_in_0 4 rfl
theorem d_md_in_7 : decode prog_10_method_4_code 7 = .ok (.if_icmp .gt 7, 3) := zD (q := (7, .if_icmp .gt 7, 3)) tx_md_in_0 5 rfl
theorem d_md_in_10 : decode prog_10_method_4_code 10 = .ok (.iconst 1, 1) := zD (q := (10, .iconst 1, 1)) tx_md_in_0 6 rfl
theorem d_md_in_11 : decode prog_10_method_4_code 11 = .ok (.goto 4, 3) := zD (q := (11, .goto 4, 3)) tx_md_in_0 7 rfl
theorem d_md_in_14 : decode prog_10_method_4_code 14 = .ok (.iconst 0, 1) := zD (q := (14, .iconst 0, 1)) tx_md_in_0 8 rfl
theorem d_md_in_15 : decode prog_10_method_4_code 15 = .ok (.ireturn, 1) := zD (q := (15, .ireturn, 1)) tx_md_in_0 9 rfl
def T_md_refused_0 : List (Nat × Instr × Nat) := [(0, .aload_n 0, 1), (1, .iload_n 1, 1), (2, .ifCond .eq 7, 3), (5, .iconst 1, 1), (6, .goto 29, 3), (9, .iload_n 2, 1), (10, .ifCond .eq 7, 3), (13, .iconst 2, 1), (14, .goto 21, 3), (17, .iload_n 3, 1), (18, .ifCond .eq 7, 3), (21, .iconst 3, 1), (22, .goto 13, 3), (25, .iload 4, 2), (27, .ifCond .eq 7, 3), (30, .iconst 4, 1), (31, .goto 4, 3), (34, .iconst 0, 1), (35, .putfield 87, 3), (38, .aload_n 0, 1), (39, .getfield 87, 3), (42, .ifCond .le 7, 3), (45, .iconst 1, 1), (46, .goto 4, 3), (49, .iconst 0, 1), (50, .ireturn, 1)]
theorem tx_md_refused_0 : zdec prog_10_method_3_code T_md_refused_0 = true := by decide +kernel
theorem d_md_refused_0 : decode prog_10_method_3_code 0 = .ok (.aload_n 0, 1) := zD (q := (0, .aload_n 0, 1)) tx_md_refused_0 0 rfl
theorem d_md_refused_1 : decode prog_10_method_3_code 1 = .ok (.iload_n 1, 1) := zD (q := (1, .iload_n 1, 1)) tx_md_refused_0 1 rfl
theorem d_md_refused_2 : decode prog_10_method_3_code 2 = .ok (.ifCond .eq 7, 3) := zD (q := (2, .ifCond .eq 7, 3)) tx_md_refused_0 2 rfl
theorem d_md_refused_5 : decode prog_10_method_3_code 5 = .ok (.iconst 1, 1) := zD (q := (5, .iconst 1, 1)) tx_md_refused_0 3 rfl
theorem d_md_refused_6 : decode prog_10_method_3_code 6 = .ok (.goto 29, 3) := zD (q := (6, .goto 29, 3)) tx_md_refused_0 4 rfl
theorem d_md_refused_9 : decode prog_10_method_3_code 9 = .ok (.iload_n 2, 1) := zD (q := (9, .iload_n 2, 1)) tx_md_refused_0 5 rfl
theorem d_md_refused_10 : decode prog_10_method_3_code 10 = .ok (.ifCond .eq 7, 3) := zD (q := (10, .ifCond .eq 7, 3)) tx_md_refused_0 6 rfl
theorem d_md_refused_13 : decode prog_10_method_3_code 13 = .ok (.iconst 2, 1) := zD (q := (13, .iconst 2, 1)) tx_md_refused_0 7 rfl
theorem d_md_refused_14 : decode prog_10_method_3_code 14 = .ok (.goto 21, 3) := zD (q := (14, .goto 21, 3)) tx_md_refused_0 8 rfl
theorem d_md_refused_17 : decode prog_10_method_3_code 17 = .ok (.iload_n 3, 1) := zD (q := (17, .iload_n 3, 1)) tx_md_refused_0 9 rfl
theorem d_md_refused_18 : decode prog_10_method_3_code 18 = .ok (.ifCond .eq 7, 3) := zD (q := (18, .ifCond .eq 7, 3)) tx_md_refused_0 10 rfl
theorem d_md_refused_21 : decode prog_10_method_3_code 21 = .ok (.iconst 3, 1) := zD (q := (21, .iconst 3, 1)) tx_md_refused_0 11 rfl
theorem d_md_refused_22 : decode prog_10_method_3_code 22 = .ok (.goto 13, 3) := zD (q := (22, .goto 13, 3)) tx_md_refused_0 12 rfl
theorem d_md_refused_25 : decode prog_10_method_3_code 25 = .ok (.iload 4, 2) := zD (q := (25, .iload 4, 2)) tx_md_refused_0 13 rfl
theorem d_md_refused_27 : decode prog_10_method_3_code 27 = .ok (.ifCond .eq 7, 3) := zD (q := (27, .ifCond .eq 7, 3)) tx_md_refused_0 14 rfl
theorem d_md_refused_30 : decode prog_10_method_3_code 30 = .ok (.iconst 4, 1) := zD (q := (30, .iconst 4, 1)) tx_md_refused_0 15 rfl
theorem d_md_refused_31 : decode prog_10_method_3_code 31 = .ok (.goto 4, 3) := zD (q := (31, .goto 4, 3)) tx_md_refused_0 16 rfl
theorem d_md_refused_34 : decode prog_10_method_3_code 34 = .ok (.iconst 0, 1) := zD (q := (34, .iconst 0, 1)) tx_md_refused_0 17 rfl
theorem d_md_refused_35 : decode prog_10_method_3_code 35 = .ok (.putfield 87, 3) := zD (q := (35, .putfield 87, 3)) tx_md_refused_0 18 rfl
theorem d_md_refused_38 : decode prog_10_method_3_code 38 = .ok (.aload_n 0, 1) := zD (q := (38, .aload_n 0, 1)) tx_md_refused_0 19 rfl
theorem d_md_refused_39 : decode prog_10_method_3_code 39 = .ok (.getfield 87, 3) := zD (q := (39, .getfield 87, 3)) tx_md_refused_0 20 rfl
theorem d_md_refused_42 : decode prog_10_method_3_code 42 = .ok (.ifCond .le 7, 3) := zD (q := (42, .ifCond .le 7, 3)) tx_md_refused_0 21 rfl
theorem d_md_refused_45 : decode prog_10_method_3_code 45 = .ok (.iconst 1, 1) := zD (q := (45, .iconst 1, 1)) tx_md_refused_0 22 rfl
theorem d_md_refused_46 : decode prog_10_method_3_code 46 = .ok (.goto 4, 3) := zD (q := (46, .goto 4, 3)) tx_md_refused_0 23 rfl
theorem d_md_refused_49 : decode prog_10_method_3_code 49 = .ok (.iconst 0, 1) := zD (q := (49, .iconst 0, 1)) tx_md_refused_0 24 rfl
theorem d_md_refused_50 : decode prog_10_method_3_code 50 = .ok (.ireturn, 1) := zD (q := (50, .ireturn, 1)) tx_md_refused_0 25 rfl
def T_md_clearSeason_0 : List (Nat × Instr × Nat) := [(0, .iconst 0, 1), (1, .istore_n 1, 1), (2, .iload_n 1, 1), (3, .sipush 800, 3), (6, .if_icmp .ge 30, 3), (9, .aload_n 0, 1), (10, .getfield 39, 3), (13, .iload_n 1, 1), (14, .iconst 0, 1), (15, .bastore, 1), (16, .aload_n 0, 1), (17, .getfield 48, 3), (20, .iload_n 1, 1), (21, .iconst 0, 1), (22, .bastore, 1), (23, .aload_n 0, 1), (24, .getfield 51, 3), (27, .iload_n 1, 1), (28, .iconst (-1), 1), (29, .iastore, 1), (30, .iinc 1 1, 3), (33, .goto (-31), 3), (36, .iconst 0, 1), (37, .istore_n 1, 1), (38, .iload_n 1, 1), (39, .bipush 40, 2), (41, .if_icmp .ge 16, 3), (44, .aload_n 0, 1), (45, .getfield 54, 3), (48, .iload_n 1, 1), (49, .iconst 0, 1), (50, .bastore, 1), (51, .iinc 1 1, 3), (54, .goto (-16), 3), (57, .aload_n 0, 1), (58, .iconst 0, 1), (59, .putfield 97, 3), (62, .return_, 1)]
theorem tx_md_clearSeason_0 : zdec prog_10_method_7_code T_md_clearSeason_0 = true := by decide +kernel
theorem d_md_clearSeason_0 : decode prog_10_method_7_code 0 = .ok (.iconst 0, 1) := zD (q := (0, .iconst 0, 1)) tx_md_clearSeason_0 0 rfl
theorem d_md_clearSeason_1 : decode prog_10_method_7_code 1 = .ok (.istore_n 1, 1) := zD (q := (1, .istore_n 1, 1)) tx_md_clearSeason_0 1 rfl
theorem d_md_clearSeason_2 : decode prog_10_method_7_code 2 = .ok (.iload_n 1, 1) := zD (q := (2, .iload_n 1, 1)) tx_md_clearSeason_0 2 rfl
theorem d_md_clearSeason_3 : decode prog_10_method_7_code 3 = .ok (.sipush 800, 3) := zD (q := (3, .sipush 800, 3)) tx_md_clearSeason_0 3 rfl
theorem d_md_clearSeason_6 : decode prog_10_method_7_code 6 = .ok (.if_icmp .ge 30, 3) := zD (q := (6, .if_icmp .ge 30, 3)) tx_md_clearSeason_0 4 rfl
theorem d_md_clearSeason_9 : decode prog_10_method_7_code 9 = .ok (.aload_n 0, 1) := zD (q := (9, .aload_n 0, 1)) tx_md_clearSeason_0 5 rfl
theorem d_md_clearSeason_10 : decode prog_10_method_7_code 10 = .ok (.getfield 39, 3) := zD (q := (10, .getfield 39, 3)) tx_md_clearSeason_0 6 rfl
theorem d_md_clearSeason_13 : decode prog_10_method_7_code 13 = .ok (.iload_n 1, 1) := zD (q := (13, .iload_n 1, 1)) tx_md_clearSeason_0 7 rfl
theorem d_md_clearSeason_14 : decode prog_10_method_7_code 14 = .ok (.iconst 0, 1) := zD (q := (14, .iconst 0, 1)) tx_md_clearSeason_0 8 rfl
theorem d_md_clearSeason_15 : decode prog_10_method_7_code 15 = .ok (.bastore, 1) := zD (q := (15, .bastore, 1)) tx_md_clearSeason_0 9 rfl
theorem d_md_clearSeason_16 : decode prog_10_method_7_code 16 = .ok (.aload_n 0, 1) := zD (q := (16, .aload_n 0, 1)) tx_md_clearSeason_0 10 rfl
theorem d_md_clearSeason_17 : decode prog_10_method_7_code 17 = .ok (.getfield 48, 3) := zD (q := (17, .getfield 48, 3)) tx_md_clearSeason_0 11 rfl
theorem d_md_clearSeason_20 : decode prog_10_method_7_code 20 = .ok (.iload_n 1, 1) := zD (q := (20, .iload_n 1, 1)) tx_md_clearSeason_0 12 rfl
theorem d_md_clearSeason_21 : decode prog_10_method_7_code 21 = .ok (.iconst 0, 1) := zD (q := (21, .iconst 0, 1)) tx_md_clearSeason_0 13 rfl
theorem d_md_clearSeason_22 : decode prog_10_method_7_code 22 = .ok (.bastore, 1) := zD (q := (22, .bastore, 1)) tx_md_clearSeason_0 14 rfl
theorem d_md_clearSeason_23 : decode prog_10_method_7_code 23 = .ok (.aload_n 0, 1) := zD (q := (23, .aload_n 0, 1)) tx_md_clearSeason_0 15 rfl
theorem d_md_clearSeason_24 : decode prog_10_method_7_code 24 = .ok (.getfield 51, 3) := zD (q := (24, .getfield 51, 3)) tx_md_clearSeason_0 16 rfl
theorem d_md_clearSeason_27 : decode prog_10_method_7_code 27 = .ok (.iload_n 1, 1) := zD (q := (27, .iload_n 1, 1)) tx_md_clearSeason_0 17 rfl
theorem d_md_clearSeason_28 : decode prog_10_method_7_code 28 = .ok (.iconst (-1), 1) := zD (q := (28, .iconst (-1), 1)) tx_md_clearSeason_0 18 rfl
theorem d_md_clearSeason_29 : decode prog_10_method_7_code 29 = .ok (.iastore, 1) := zD (q := (29, .iastore, 1)) tx_md_clearSeason_0 19 rfl
theorem d_md_clearSeason_30 : decode prog_10_method_7_code 30 = .ok (.iinc 1 1, 3) := zD (q := (30, .iinc 1 1, 3)) tx_md_clearSeason_0 20 rfl
theorem d_md_clearSeason_33 : decode prog_10_method_7_code 33 = .ok (.goto (-31), 3) := zD (q := (33, .goto (-31), 3)) tx_md_clearSeason_0 21 rfl
theorem d_md_clearSeason_36 : decode prog_10_method_7_code 36 = .ok (.iconst 0, 1) := zD (q := (36, .iconst 0, 1)) tx_md_clearSeason_0 22 rfl
theorem d_md_clearSeason_37 : decode prog_10_method_7_code 37 = .ok (.istore_n 1, 1) := zD (q := (37, .istore_n 1, 1)) tx_md_clearSeason_0 23 rfl
theorem d_md_clearSeason_38 : decode prog_10_method_7_code 38 = .ok (.iload_n 1, 1) := zD (q := (38, .iload_n 1, 1)) tx_md_clearSeason_0 24 rfl
theorem d_md_clearSeason_39 : decode prog_10_method_7_code 39 = .ok (.bipush 40, 2) := zD (q := (39, .bipush 40, 2)) tx_md_clearSeason_0 25 rfl
theorem d_md_clearSeason_41 : decode prog_10_method_7_code 41 = .ok (.if_icmp .ge 16, 3) := zD (q := (41, .if_icmp .ge 16, 3)) tx_md_clearSeason_0 26 rfl
theorem d_md_clearSeason_44 : decode prog_10_method_7_code 44 = .ok (.aload_n 0, 1) := zD (q := (44, .aload_n 0, 1)) tx_md_clearSeason_0 27 rfl
theorem d_md_clearSeason_45 : decode prog_10_method_7_code 45 = .ok (.getfield 54, 3) := zD (q := (45, .getfield 54, 3)) tx_md_clearSeason_0 28 rfl
theorem d_md_clearSeason_48 : decode prog_10_method_7_code 48 = .ok (.iload_n 1, 1) := zD (q := (48, .iload_n 1, 1)) tx_md_clearSeason_0 29 rfl
theorem d_md_clearSeason_49 : decode prog_10_method_7_code 49 = .ok (.iconst 0, 1) := zD (q := (49, .iconst 0, 1)) tx_md_clearSeason_0 30 rfl
theorem d_md_clearSeason_50 : decode prog_10_method_7_code 50 = .ok (.bastore, 1) := zD (q := (50, .bastore, 1)) tx_md_clearSeason_0 31 rfl
theorem d_md_clearSeason_51 : decode prog_10_method_7_code 51 = .ok (.iinc 1 1, 3) := zD (q := (51, .iinc 1 1, 3)) tx_md_clearSeason_0 32 rfl
theorem d_md_clearSeason_54 : decode prog_10_method_7_code 54 = .ok (.goto (-16), 3) := zD (q := (54, .goto (-16), 3)) tx_md_clearSeason_0 33 rfl
theorem d_md_clearSeason_57 : decode prog_10_method_7_code 57 = .ok (.aload_n 0, 1) := zD (q := (57, .aload_n 0, 1)) tx_md_clearSeason_0 34 rfl
theorem d_md_clearSeason_58 : decode prog_10_method_7_code 58 = .ok (.iconst 0, 1) := zD (q := (58, .iconst 0, 1)) tx_md_clearSeason_0 35 rfl
theorem d_md_clearSeason_59 : decode prog_10_method_7_code 59 = .ok (.putfield 97, 3) := zD (q := (59, .putfield 97, 3)) tx_md_clearSeason_0 36 rfl
theorem d_md_clearSeason_62 : decode prog_10_method_7_code 62 = .ok (.return_, 1) := zD (q := (62, .return_, 1)) tx_md_clearSeason_0 37 rfl
def T_md_ban_0 : List (Nat × Instr × Nat) := [(0, .aload_n 0, 1), (1, .aload_n 0, 1), (2, .iload_n 1, 1), (3, .invokevirtual 119, 3), (6, .ifCond .eq 22, 3), (9, .iload_n 2, 1), (10, .iconst 0, 1), (11, .bipush 38, 2), (13, .invokestatic 90, 3), (16, .ifCond .eq 12, 3), (19, .iload_n 3, 1), (20, .iconst 0, 1), (21, .iconst 1, 1), (22, .invokestatic 90, 3), (25, .ifCond .ne 7, 3), (28, .iconst 1, 1), (29, .goto 4, 3), (32, .iconst 0, 1), (33, .iconst 0, 1), (34, .iconst 0, 1), (35, .iconst 0, 1), (36, .invokevirtual 100, 3), (39, .ifCond .eq 5, 3), (42, .iconst 0, 1), (43, .ireturn, 1), (44, .iconst 2, 1), (45, .bipush 39, 2), (47, .iload_n 1, 1), (48, .imul, 1), (49, .iload_n 2, 1), (50, .iadd, 1), (51, .imul, 1), (52, .iload_n 3, 1), (53, .iadd, 1), (54, .istore 4, 2), (56, .aload_n 0, 1), (57, .aload_n 0, 1), (58, .getfield 13, 3), (61, .iload 4, 2), (63, .baload, 1), (64, .ifCond .eq 10, 3), (67, .aload_n 0, 1), (68, .getfield 104, 3), (71, .goto 9, 3), (74, .aload_n 0, 1), (75, .getfield 104, 3), (78, .iconst 1, 1), (79, .iadd, 1), (80, .putfield 104, 3), (83, .aload_n 0, 1), (84, .getfield 13, 3), (87, .iload 4, 2), (89, .iconst 1, 1), (90, .bastore, 1), (91, .aload_n 0, 1), (92, .getfield 104, 3), (95, .ireturn, 1)]
theorem tx_md_ban_0 : zdec prog_10_method_9_code T_md_ban_0 = true := by decide +kernel
theorem d_md_ban_0 : decode prog_10_method_9_code 0 = .ok (.aload_n 0, 1) := zD (q := (0, .aload_n 0, 1)) tx_md_ban_0 0 rfl
theorem d_md_ban_1 : decode prog_10_method_9_code 1 = .ok (.aload_n 0, 1) := zD (q := (1, .aload_n 0, 1)) tx_md_ban_0 1 rfl
theorem d_md_ban_2 : decode prog_10_method_9_code 2 = .ok (.iload_n 1, 1) := zD (q := (2, .iload_n 1, 1)) tx_md_ban_0 2 rfl
theorem d_md_ban_3 : decode prog_10_method_9_code 3 = .ok (.invokevirtual 119, 3) := zD (q := (3, .invokevirtual 119, 3)) tx_md_ban_0 3 rfl
theorem d_md_ban_6 : decode prog_10_method_9_code 6 = .ok (.ifCond .eq 22, 3) := zD (q := (6, .ifCond .eq 22, 3)) tx_md_ban_0 4 rfl
theorem d_md_ban_9 : decode prog_10_method_9_code 9 = .ok (.iload_n 2, 1) := zD (q := (9, .iload_n 2, 1)) tx_md_ban_0 5 rfl
theorem d_md_ban_10 : decode prog_10_method_9_code 10 = .ok (.iconst 0, 1) := zD (q := (10, .iconst 0, 1)) tx_md_ban_0 6 rfl
theorem d_md_ban_11 : decode prog_10_method_9_code 11 = .ok (.bipush 38, 2) := zD (q := (11, .bipush 38, 2)) tx_md_ban_0 7 rfl
theorem d_md_ban_13 : decode prog_10_method_9_code 13 = .ok (.invokestatic 90, 3) := zD (q := (13, .invokestatic 90, 3)) tx_md_ban_0 8 rfl
theorem d_md_ban_16 : decode prog_10_method_9_code 16 = .ok (.ifCond .eq 12, 3) := zD (q := (16, .ifCond .eq 12, 3)) tx_md_ban_0 9 rfl
theorem d_md_ban_19 : decode prog_10_method_9_code 19 = .ok (.iload_n 3, 1) := zD (q := (19, .iload_n 3, 1)) tx_md_ban_0 10 rfl
theorem d_md_ban_20 : decode prog_10_method_9_code 20 = .ok (.iconst 0, 1) := zD (q := (20, .iconst 0, 1)) tx_md_ban_0 11 rfl
theorem d_md_ban_21 : decode prog_10_method_9_code 21 = .ok (.iconst 1, 1) := zD (q := (21, .iconst 1, 1)) tx_md_ban_0 12 rfl
theorem d_md_ban_22 : decode prog_10_method_9_code 22 = .ok (.invokestatic 90, 3) := zD (q := (22, .invokestatic 90, 3)) tx_md_ban_0 13 rfl
theorem d_md_ban_25 : decode prog_10_method_9_code 25 = .ok (.ifCond .ne 7, 3) := zD (q := (25, .ifCond .ne 7, 3)) tx_md_ban_0 14 rfl
theorem d_md_ban_28 : decode prog_10_method_9_code 28 = .ok (.iconst 1, 1) := zD (q := (28, .iconst 1, 1)) tx_md_ban_0 15 rfl
theorem d_md_ban_29 : decode prog_10_method_9_code 29 = .ok (.goto 4, 3) := zD (q := (29, .goto 4, 3)) tx_md_ban_0 16 rfl
theorem d_md_ban_32 : decode prog_10_method_9_code 32 = .ok (.iconst 0, 1) := zD (q := (32, .iconst 0, 1)) tx_md_ban_0 17 rfl
theorem d_md_ban_33 : decode prog_10_method_9_code 33 = .ok (.iconst 0, 1) := zD (q := (33, .iconst 0, 1)) tx_md_ban_0 18 rfl
theorem d_md_ban_34 : decode prog_10_method_9_code 34 = .ok (.iconst 0, 1) := zD (q := (34, .iconst 0, 1)) tx_md_ban_0 19 rfl
theorem d_md_ban_35 : decode prog_10_method_9_code 35 = .ok (.iconst 0, 1) := zD (q := (35, .iconst 0, 1)) tx_md_ban_0 20 rfl
theorem d_md_ban_36 : decode prog_10_method_9_code 36 = .ok (.invokevirtual 100, 3) := zD (q := (36, .invokevirtual 100, 3)) tx_md_ban_0 21 rfl
theorem d_md_ban_39 : decode prog_10_method_9_code 39 = .ok (.ifCond .eq 5, 3) := zD (q := (39, .ifCond .eq 5, 3)) tx_md_ban_0 22 rfl
theorem d_md_ban_42 : decode prog_10_method_9_code 42 = .ok (.iconst 0, 1) := zD (q := (42, .iconst 0, 1)) tx_md_ban_0 23 rfl
theorem d_md_ban_43 : decode prog_10_method_9_code 43 = .ok (.ireturn, 1) := zD (q := (43, .ireturn, 1)) tx_md_ban_0 24 rfl
theorem d_md_ban_44 : decode prog_10_method_9_code 44 = .ok (.iconst 2, 1) := zD (q := (44, .iconst 2, 1)) tx_md_ban_0 25 rfl
theorem d_md_ban_45 : decode prog_10_method_9_code 45 = .ok (.bipush 39, 2) := zD (q := (45, .bipush 39, 2)) tx_md_ban_0 26 rfl
theorem d_md_ban_47 : decode prog_10_method_9_code 47 = .ok (.iload_n 1, 1) := zD (q := (47, .iload_n 1, 1)) tx_md_ban_0 27 rfl
theorem d_md_ban_48 : decode prog_10_method_9_code 48 = .ok (.imul, 1) := zD (q := (48, .imul, 1)) tx_md_ban_0 28 rfl
theorem d_md_ban_49 : decode prog_10_method_9_code 49 = .ok (.iload_n 2, 1) := zD (q := (49, .iload_n 2, 1)) tx_md_ban_0 29 rfl
theorem d_md_ban_50 : decode prog_10_method_9_code 50 = .ok (.iadd, 1) := zD (q := (50, .iadd, 1)) tx_md_ban_0 30 rfl
theorem d_md_ban_51 : decode prog_10_method_9_code 51 = .ok (.imul, 1) := zD (q := (51, .imul, 1)) tx_md_ban_0 31 rfl
theorem d_md_ban_52 : decode prog_10_method_9_code 52 = .ok (.iload_n 3, 1) := zD (q := (52, .iload_n 3, 1)) tx_md_ban_0 32 rfl
theorem d_md_ban_53 : decode prog_10_method_9_code 53 = .ok (.iadd, 1) := zD (q := (53, .iadd, 1)) tx_md_ban_0 33 rfl
theorem d_md_ban_54 : decode prog_10_method_9_code 54 = .ok (.istore 4, 2) := zD (q := (54, .istore 4, 2)) tx_md_ban_0 34 rfl
theorem d_md_ban_56 : decode prog_10_method_9_code 56 = .ok (.aload_n 0, 1) := zD (q := (56, .aload_n 0, 1)) tx_md_ban_0 35 rfl
theorem d_md_ban_57 : decode prog_10_method_9_code 57 = .ok (.aload_n 0, 1) := zD (q := (57, .aload_n 0, 1)) tx_md_ban_0 36 rfl
theorem d_md_ban_58 : decode prog_10_method_9_code 58 = .ok (.getfield 13, 3) := zD (q := (58, .getfield 13, 3)) tx_md_ban_0 37 rfl
theorem d_md_ban_61 : decode prog_10_method_9_code 61 = .ok (.iload 4, 2) := zD (q := (61, .iload 4, 2)) tx_md_ban_0 38 rfl
theorem d_md_ban_63 : decode prog_10_method_9_code 63 = .ok (.baload, 1) := zD (q := (63, .baload, 1)) tx_md_ban_0 39 rfl
theorem d_md_ban_64 : decode prog_10_method_9_code 64 = .ok (.ifCond .eq 10, 3) := zD (q := (64, .ifCond .eq 10, 3)) tx_md_ban_0 40 rfl
theorem d_md_ban_67 : decode prog_10_method_9_code 67 = .ok (.aload_n 0, 1) := zD (q := (67, .aload_n 0, 1)) tx_md_ban_0 41 rfl
theorem d_md_ban_68 : decode prog_10_method_9_code 68 = .ok (.getfield 104, 3) := zD (q := (68, .getfield 104, 3)) tx_md_ban_0 42 rfl
theorem d_md_ban_71 : decode prog_10_method_9_code 71 = .ok (.goto 9, 3) := zD (q := (71, .goto 9, 3)) tx_md_ban_0 43 rfl
theorem d_md_ban_74 : decode prog_10_method_9_code 74 = .ok (.aload_n 0, 1) := zD (q := (74, .aload_n 0, 1)) tx_md_ban_0 44 rfl
theorem d_md_ban_75 : decode prog_10_method_9_code 75 = .ok (.getfield 104, 3) := zD (q := (75, .getfield 104, 3)) tx_md_ban_0 45 rfl
theorem d_md_ban_78 : decode prog_10_method_9_code 78 = .ok (.iconst 1, 1) := zD (q := (78, .iconst 1, 1)) tx_md_ban_0 46 rfl
theorem d_md_ban_79 : decode prog_10_method_9_code 79 = .ok (.iadd, 1) := zD (q := (79, .iadd, 1)) tx_md_ban_0 47 rfl
theorem d_md_ban_80 : decode prog_10_method_9_code 80 = .ok (.putfield 104, 3) := zD (q := (80, .putfield 104, 3)) tx_md_ban_0 48 rfl
theorem d_md_ban_83 : decode prog_10_method_9_code 83 = .ok (.aload_n 0, 1) := zD (q := (83, .aload_n 0, 1)) tx_md_ban_0 49 rfl
theorem d_md_ban_84 : decode prog_10_method_9_code 84 = .ok (.getfield 13, 3) := zD (q := (84, .getfield 13, 3)) tx_md_ban_0 50 rfl
theorem d_md_ban_87 : decode prog_10_method_9_code 87 = .ok (.iload 4, 2) := zD (q := (87, .iload 4, 2)) tx_md_ban_0 51 rfl
theorem d_md_ban_89 : decode prog_10_method_9_code 89 = .ok (.iconst 1, 1) := zD (q := (89, .iconst 1, 1)) tx_md_ban_0 52 rfl
theorem d_md_ban_90 : decode prog_10_method_9_code 90 = .ok (.bastore, 1) := zD (q := (90, .bastore, 1)) tx_md_ban_0 53 rfl
theorem d_md_ban_91 : decode prog_10_method_9_code 91 = .ok (.aload_n 0, 1) := zD (q := (91, .aload_n 0, 1)) tx_md_ban_0 54 rfl
theorem d_md_ban_92 : decode prog_10_method_9_code 92 = .ok (.getfield 104, 3) := zD (q := (92, .getfield 104, 3)) tx_md_ban_0 55 rfl
theorem d_md_ban_95 : decode prog_10_method_9_code 95 = .ok (.ireturn, 1) := zD (q := (95, .ireturn, 1)) tx_md_ban_0 56 rfl
def T_md_isTeam_0 : List (Nat × Instr × Nat) := [(0, .iload_n 1, 1), (1, .iconst 0, 1), (2, .aload_n 0, 1), (3, .getfield 7, 3), (6, .iconst 1, 1), (7, .isub, 1), (8, .invokestatic 90, 3), (11, .ireturn, 1)]
theorem tx_md_isTeam_0 : zdec prog_10_method_5_code T_md_isTeam_0 = true := by decide +kernel
theorem d_md_isTeam_0 : decode prog_10_method_5_code 0 = .ok (.iload_n 1, 1) := zD (q := (0, .iload_n 1, 1)) tx_md_isTeam_0 0 rfl
theorem d_md_isTeam_1 : decode prog_10_method_5_code 1 = .ok (.iconst 0, 1) := zD (q := (1, .iconst 0, 1)) tx_md_isTeam_0 1 rfl
theorem d_md_isTeam_2 : decode prog_10_method_5_code 2 = .ok (.aload_n 0, 1) := zD (q := (2, .aload_n 0, 1)) tx_md_isTeam_0 2 rfl
theorem d_md_isTeam_3 : decode prog_10_method_5_code 3 = .ok (.getfield 7, 3) := zD (q := (3, .getfield 7, 3)) tx_md_isTeam_0 3 rfl
theorem d_md_isTeam_6 : decode prog_10_method_5_code 6 = .ok (.iconst 1, 1) := zD (q := (6, .iconst 1, 1)) tx_md_isTeam_0 4 rfl
theorem d_md_isTeam_7 : decode prog_10_method_5_code 7 = .ok (.isub, 1) := zD (q := (7, .isub, 1)) tx_md_isTeam_0 5 rfl
theorem d_md_isTeam_8 : decode prog_10_method_5_code 8 = .ok (.invokestatic 90, 3) := zD (q := (8, .invokestatic 90, 3)) tx_md_isTeam_0 6 rfl
theorem d_md_isTeam_11 : decode prog_10_method_5_code 11 = .ok (.ireturn, 1) := zD (q := (11, .ireturn, 1)) tx_md_isTeam_0 7 rfl
def T_md_shareGround_0 : List (Nat × Instr × Nat) := [(0, .aload_n 0, 1), (1, .aload_n 0, 1), (2, .iload_n 1, 1), (3, .invokevirtual 119, 3), (6, .ifCond .eq 16, 3), (9, .aload_n 0, 1), (10, .iload_n 2, 1), (11, .invokevirtual 119, 3), (14, .ifCond .eq 8, 3), (17, .iload_n 1, 1), (18, .iload_n 2, 1), (19, .if_icmp .ne 7, 3), (22, .iconst 1, 1), (23, .goto 4, 3), (26, .iconst 0, 1), (27, .aload_n 0, 1), (28, .getfield 107, 3), (31, .bipush 6, 2), (33, .if_icmp .ne 7, 3), (36, .iconst 1, 1), (37, .goto 4, 3), (40, .iconst 0, 1), (41, .iconst 0, 1), (42, .iconst 0, 1), (43, .invokevirtual 100, 3), (46, .ifCond .eq 5, 3), (49, .iconst 0, 1), (50, .ireturn, 1), (51, .aload_n 0, 1), (52, .getfield 17, 3), (55, .aload_n 0, 1), (56, .getfield 107, 3), (59, .iload_n 1, 1), (60, .iastore, 1), (61, .aload_n 0, 1), (62, .getfield 21, 3), (65, .aload_n 0, 1), (66, .getfield 107, 3), (69, .iload_n 2, 1), (70, .iastore, 1), (71, .aload_n 0, 1), (72, .dup, 1), (73, .getfield 107, 3), (76, .iconst 1, 1), (77, .iadd, 1), (78, .putfield 107, 3), (81, .aload_n 0, 1), (82, .getfield 107, 3), (85, .ireturn, 1)]
theorem tx_md_shareGround_0 : zdec prog_10_method_10_code T_md_shareGround_0 = true := by decide +kernel
theorem d_md_shareGround_0 : decode prog_10_method_10_code 0 = .ok (.aload_n 0, 1) := zD (q := (0, .aload_n 0, 1)) tx_md_shareGround_0 0 rfl
theorem d_md_shareGround_1 : decode prog_10_method_10_code 1 = .ok (.aload_n 0, 1) := zD (q := (1, .aload_n 0, 1)) tx_md_shareGround_0 1 rfl
theorem d_md_shareGround_2 : decode prog_10_method_10_code 2 = .ok (.iload_n 1, 1) := zD (q := (2, .iload_n 1, 1)) tx_md_shareGround_0 2 rfl
theorem d_md_shareGround_3 : decode prog_10_method_10_code 3 = .ok (.invokevirtual 119, 3) := zD (q := (3, .invokevirtual 119, 3)) tx_md_shareGround_0 3 rfl
theorem d_md_shareGround_6 : decode prog_10_method_10_code 6 = .ok (.ifCond .eq 16, 3) := zD (q := (6, .ifCond .eq 16, 3)) tx_md_shareGround_0 4 rfl
theorem d_md_shareGround_9 : decode prog_10_method_10_code 9 = .ok (.aload_n 0, 1) := zD (q := (9, .aload_n 0, 1)) tx_md_shareGround_0 5 rfl
theorem d_md_shareGround_10 : decode prog_10_method_10_code 10 = .ok (.iload_n 2, 1) := zD (q := (10, .iload_n 2, 1)) tx_md_shareGround_0 6 rfl
theorem d_md_shareGround_11 : decode prog_10_method_10_code 11 = .ok (.invokevirtual 119, 3) := zD (q := (11, .invokevirtual 119, 3)) tx_md_shareGround_0 7 rfl
theorem d_md_shareGround_14 : decode prog_10_method_10_code 14 = .ok (.ifCond .eq 8, 3) := zD (q := (14, .ifCond .eq 8, 3)) tx_md_shareGround_0 8 rfl
theorem d_md_shareGround_17 : decode prog_10_method_10_code 17 = .ok (.iload_n 1, 1) := zD (q := (17, .iload_n 1, 1)) tx_md_shareGround_0 9 rfl
theorem d_md_shareGround_18 : decode prog_10_method_10_code 18 = .ok (.iload_n 2, 1) := zD (q := (18, .iload_n 2, 1)) tx_md_shareGround_0 10 rfl
theorem d_md_shareGround_19 : decode prog_10_method_10_code 19 = .ok (.if_icmp .ne 7, 3) := zD (q := (19, .if_icmp .ne 7, 3)) tx_md_shareGround_0 11 rfl
theorem d_md_shareGround_22 : decode prog_10_method_10_code 22 = .ok (.iconst 1, 1) := zD (q := (22, .iconst 1, 1)) tx_md_shareGround_0 12 rfl
theorem d_md_shareGround_23 : decode prog_10_method_10_code 23 = .ok (.goto 4, 3) := zD (q := (23, .goto 4, 3)) tx_md_shareGround_0 13 rfl
theorem d_md_shareGround_26 : decode prog_10_method_10_code 26 = .ok (.iconst 0, 1) := zD (q := (26, .iconst 0, 1)) tx_md_shareGround_0 14 rfl
theorem d_md_shareGround_27 : decode prog_10_method_10_code 27 = .ok (.aload_n 0, 1) := zD (q := (27, .aload_n 0, 1)) tx_md_shareGround_0 15 rfl
theorem d_md_shareGround_28 : decode prog_10_method_10_code 28 = .ok (.getfield 107, 3) := zD (q := (28, .getfield 107, 3)) tx_md_shareGround_0 16 rfl
theorem d_md_shareGround_31 : decode prog_10_method_10_code 31 = .ok (.bipush 6, 2) := zD (q := (31, .bipush 6, 2)) tx_md_shareGround_0 17 rfl
theorem d_md_shareGround_33 : decode prog_10_method_10_code 33 = .ok (.if_icmp .ne 7, 3) := zD (q := (33, .if_icmp .ne 7, 3)) tx_md_shareGround_0 18 rfl
theorem d_md_shareGround_36 : decode prog_10_method_10_code 36 = .ok (.iconst 1, 1) := zD (q := (36, .iconst 1, 1)) tx_md_shareGround_0 19 rfl
theorem d_md_shareGround_37 : decode prog_10_method_10_code 37 = .ok (.goto 4, 3) := zD (q := (37, .goto 4, 3)) tx_md_shareGround_0 20 rfl
theorem d_md_shareGround_40 : decode prog_10_method_10_code 40 = .ok (.iconst 0, 1) := zD (q := (40, .iconst 0, 1)) tx_md_shareGround_0 21 rfl
theorem d_md_shareGround_41 : decode prog_10_method_10_code 41 = .ok (.iconst 0, 1) := zD (q := (41, .iconst 0, 1)) tx_md_shareGround_0 22 rfl
theorem d_md_shareGround_42 : decode prog_10_method_10_code 42 = .ok (.iconst 0, 1) := zD (q := (42, .iconst 0, 1)) tx_md_shareGround_0 23 rfl
theorem d_md_shareGround_43 : decode prog_10_method_10_code 43 = .ok (.invokevirtual 100, 3) := zD (q := (43, .invokevirtual 100, 3)) tx_md_shareGround_0 24 rfl
theorem d_md_shareGround_46 : decode prog_10_method_10_code 46 = .ok (.ifCond .eq 5, 3) := zD (q := (46, .ifCond .eq 5, 3)) tx_md_shareGround_0 25 rfl
theorem d_md_shareGround_49 : decode prog_10_method_10_code 49 = .ok (.iconst 0, 1) := zD (q := (49, .iconst 0, 1)) tx_md_shareGround_0 26 rfl
theorem d_md_shareGround_50 : decode prog_10_method_10_code 50 = .ok (.ireturn, 1) := zD (q := (50, .ireturn, 1)) tx_md_shareGround_0 27 rfl
theorem d_md_shareGround_51 : decode prog_10_method_10_code 51 = .ok (.aload_n 0, 1) := zD (q := (51, .aload_n 0, 1)) tx_md_shareGround_0 28 rfl
theorem d_md_shareGround_52 : decode prog_10_method_10_code 52 = .ok (.getfield 17, 3) := zD (q := (52, .getfield 17, 3)) tx_md_shareGround_0 29 rfl
theorem d_md_shareGround_55 : decode prog_10_method_10_code 55 = .ok (.aload_n 0, 1) := zD (q := (55, .aload_n 0, 1)) tx_md_shareGround_0 30 rfl
theorem d_md_shareGround_56 : decode prog_10_method_10_code 56 = .ok (.getfield 107, 3) := zD (q := (56, .getfield 107, 3)) tx_md_shareGround_0 31 rfl
theorem d_md_shareGround_59 : decode prog_10_method_10_code 59 = .ok (.iload_n 1, 1) := zD (q := (59, .iload_n 1, 1)) tx_md_shareGround_0 32 rfl
theorem d_md_shareGround_60 : decode prog_10_method_10_code 60 = .ok (.iastore, 1) := zD (q := (60, .iastore, 1)) tx_md_shareGround_0 33 rfl
theorem d_md_shareGround_61 : decode prog_10_method_10_code 61 = .ok (.aload_n 0, 1) := zD (q := (61, .aload_n 0, 1)) tx_md_shareGround_0 34 rfl
theorem d_md_shareGround_62 : decode prog_10_method_10_code 62 = .ok (.getfield 21, 3) := zD (q := (62, .getfield 21, 3)) tx_md_shareGround_0 35 rfl
theorem d_md_shareGround_65 : decode prog_10_method_10_code 65 = .ok (.aload_n 0, 1) := zD (q := (65, .aload_n 0, 1)) tx_md_shareGround_0 36 rfl
theorem d_md_shareGround_66 : decode prog_10_method_10_code 66 = .ok (.getfield 107, 3) := zD (q := (66, .getfield 107, 3)) tx_md_shareGround_0 37 rfl
theorem d_md_shareGround_69 : decode prog_10_method_10_code 69 = .ok (.iload_n 2, 1) := zD (q := (69, .iload_n 2, 1)) tx_md_shareGround_0 38 rfl
theorem d_md_shareGround_70 : decode prog_10_method_10_code 70 = .ok (.iastore, 1) := zD (q := (70, .iastore, 1)) tx_md_shareGround_0 39 rfl
theorem d_md_shareGround_71 : decode prog_10_method_10_code 71 = .ok (.aload_n 0, 1) := zD (q := (71, .aload_n 0, 1)) tx_md_shareGround_0 40 rfl
theorem d_md_shareGround_72 : decode prog_10_method_10_code 72 = .ok (.dup, 1) := zD (q := (72, .dup, 1)) tx_md_shareGround_0 41 rfl
theorem d_md_shareGround_73 : decode prog_10_method_10_code 73 = .ok (.getfield 107, 3) := zD (q := (73, .getfield 107, 3)) tx_md_shareGround_0 42 rfl
theorem d_md_shareGround_76 : decode prog_10_method_10_code 76 = .ok (.iconst 1, 1) := zD (q := (76, .iconst 1, 1)) tx_md_shareGround_0 43 rfl
theorem d_md_shareGround_77 : decode prog_10_method_10_code 77 = .ok (.iadd, 1) := zD (q := (77, .iadd, 1)) tx_md_shareGround_0 44 rfl
theorem d_md_shareGround_78 : decode prog_10_method_10_code 78 = .ok (.putfield 107, 3) := zD (q := (78, .putfield 107, 3)) tx_md_shareGround_0 45 rfl
theorem d_md_shareGround_81 : decode prog_10_method_10_code 81 = .ok (.aload_n 0, 1) := zD (q := (81, .aload_n 0, 1)) tx_md_shareGround_0 46 rfl
theorem d_md_shareGround_82 : decode prog_10_method_10_code 82 = .ok (.getfield 107, 3) := zD (q := (82, .getfield 107, 3)) tx_md_shareGround_0 47 rfl
theorem d_md_shareGround_85 : decode prog_10_method_10_code 85 = .ok (.ireturn, 1) := zD (q := (85, .ireturn, 1)) tx_md_shareGround_0 48 rfl
def T_md_fixGame_0 : List (Nat × Instr × Nat) := [(0, .aload_n 0, 1), (1, .aload_n 0, 1), (2, .iload_n 1, 1), (3, .invokevirtual 119, 3), (6, .ifCond .eq 26, 3), (9, .aload_n 0, 1), (10, .iload_n 2, 1), (11, .invokevirtual 119, 3), (14, .ifCond .eq 18, 3), (17, .iload_n 1, 1), (18, .iload_n 2, 1), (19, .if_icmp .eq 13, 3), (22, .iload_n 3, 1), (23, .iconst 0, 1), (24, .bipush 38, 2), (26, .invokestatic 90, 3), (29, .ifCond .ne 7, 3), (32, .iconst 1, 1), (33, .goto 4, 3), (36, .iconst 0, 1), (37, .aload_n 0, 1), (38, .getfield 110, 3), (41, .bipush 6, 2), (43, .if_icmp .ne 7, 3), (46, .iconst 1, 1), (47, .goto 4, 3), (50, .iconst 0, 1), (51, .iconst 0, 1), (52, .iconst 0, 1), (53, .invokevirtual 100, 3), (56, .ifCond .eq 5, 3), (59, .iconst 0, 1), (60, .ireturn, 1), (61, .aload_n 0, 1), (62, .getfield 24, 3), (65, .aload_n 0, 1), (66, .getfield 110, 3), (69, .iload_n 1, 1), (70, .iastore, 1), (71, .aload_n 0, 1), (72, .getfield 27, 3), (75, .aload_n 0, 1), (76, .getfield 110, 3), (79, .iload_n 2, 1), (80, .iastore, 1), (81, .aload_n 0, 1), (82, .getfield 30, 3), (85, .aload_n 0, 1), (86, .getfield 110, 3), (89, .iload_n 3, 1), (90, .iastore, 1), (91, .aload_n 0, 1), (92, .dup, 1), (93, .getfield 110, 3), (96, .iconst 1, 1), (97, .iadd, 1), (98, .putfield 110, 3), (101, .aload_n 0, 1), (102, .getfield 110, 3), (105, .ireturn, 1)]
theorem tx_md_fixGame_0 : zdec prog_10_method_11_code T_md_fixGame_0 = true := by decide +kernel
theorem d_md_fixGame_0 : decode prog_10_method_11_code 0 = .ok (.aload_n 0, 1) := zD (q := (0, .aload_n 0, 1)) tx_md_fixGame_0 0 rfl
theorem d_md_fixGame_1 : decode prog_10_method_11_code 1 = .ok (.aload_n 0, 1) := zD (q := (1, .aload_n 0, 1)) tx_md_fixGame_0 1 rfl
theorem d_md_fixGame_2 : decode prog_10_method_11_code 2 = .ok (.iload_n 1, 1) := zD (q := (2, .iload_n 1, 1)) tx_md_fixGame_0 2 rfl
theorem d_md_fixGame_3 : decode prog_10_method_11_code 3 = .ok (.invokevirtual 119, 3) := zD (q := (3, .invokevirtual 119, 3)) tx_md_fixGame_0 3 rfl
theorem d_md_fixGame_6 : decode prog_10_method_11_code 6 = .ok (.ifCond .eq 26, 3) := zD (q := (6, .ifCond .eq 26, 3)) tx_md_fixGame_0 4 rfl
theorem d_md_fixGame_9 : decode prog_10_method_11_code 9 = .ok (.aload_n 0, 1) := zD (q := (9, .aload_n 0, 1)) tx_md_fixGame_0 5 rfl
theorem d_md_fixGame_10 : decode prog_10_method_11_code 10 = .ok (.iload_n 2, 1) := zD (q := (10, .iload_n 2, 1)) tx_md_fixGame_0 6 rfl
theorem d_md_fixGame_11 : decode prog_10_method_11_code 11 = .ok (.invokevirtual 119, 3) := zD (q := (11, .invokevirtual 119, 3)) tx_md_fixGame_0 7 rfl
theorem d_md_fixGame_14 : decode prog_10_method_11_code 14 = .ok (.ifCond .eq 18, 3) := zD (q := (14, .ifCond .eq 18, 3)) tx_md_fixGame_0 8 rfl
theorem d_md_fixGame_17 : decode prog_10_method_11_code 17 = .ok (.iload_n 1, 1) := zD (q := (17, .iload_n 1, 1)) tx_md_fixGame_0 9 rfl
theorem d_md_fixGame_18 : decode prog_10_method_11_code 18 = .ok (.iload_n 2, 1) := zD (q := (18, .iload_n 2, 1)) tx_md_fixGame_0 10 rfl
theorem d_md_fixGame_19 : decode prog_10_method_11_code 19 = .ok (.if_icmp .eq 13, 3) := zD (q := (19, .if_icmp .eq 13, 3)) tx_md_fixGame_0 11 rfl
theorem d_md_fixGame_22 : decode prog_10_method_11_code 22 = .ok (.iload_n 3, 1) := zD (q := (22, .iload_n 3, 1)) tx_md_fixGame_0 12 rfl
theorem d_md_fixGame_23 : decode prog_10_method_11_code 23 = .ok (.iconst 0, 1) := zD (q := (23, .iconst 0, 1)) tx_md_fixGame_0 13 rfl
theorem d_md_fixGame_24 : decode prog_10_method_11_code 24 = .ok (.bipush 38, 2) := zD (q := (24, .bipush 38, 2)) tx_md_fixGame_0 14 rfl
theorem d_md_fixGame_26 : decode prog_10_method_11_code 26 = .ok (.invokestatic 90, 3) := zD (q := (26, .invokestatic 90, 3)) tx_md_fixGame_0 15 rfl
theorem d_md_fixGame_29 : decode prog_10_method_11_code 29 = .ok (.ifCond .ne 7, 3) := zD (q := (29, .ifCond .ne 7, 3)) tx_md_fixGame_0 16 rfl
theorem d_md_fixGame_32 : decode prog_10_method_11_code 32 = .ok (.iconst 1, 1) := zD (q := (32, .iconst 1, 1)) tx_md_fixGame_0 17 rfl
theorem d_md_fixGame_33 : decode prog_10_method_11_code 33 = .ok (.goto 4, 3) := zD (q := (33, .goto 4, 3)) tx_md_fixGame_0 18 rfl
theorem d_md_fixGame_36 : decode prog_10_method_11_code 36 = .ok (.iconst 0, 1) := zD (q := (36, .iconst 0, 1)) tx_md_fixGame_0 19 rfl
theorem d_md_fixGame_37 : decode prog_10_method_11_code 37 = .ok (.aload_n 0, 1) := zD (q := (37, .aload_n 0, 1)) tx_md_fixGame_0 20 rfl
theorem d_md_fixGame_38 : decode prog_10_method_11_code 38 = .ok (.getfield 110, 3) := zD (q := (38, .getfield 110, 3)) tx_md_fixGame_0 21 rfl
theorem d_md_fixGame_41 : decode prog_10_method_11_code 41 = .ok (.bipush 6, 2) := zD (q := (41, .bipush 6, 2)) tx_md_fixGame_0 22 rfl
theorem d_md_fixGame_43 : decode prog_10_method_11_code 43 = .ok (.if_icmp .ne 7, 3) := zD (q := (43, .if_icmp .ne 7, 3)) tx_md_fixGame_0 23 rfl
theorem d_md_fixGame_46 : decode prog_10_method_11_code 46 = .ok (.iconst 1, 1) := zD (q := (46, .iconst 1, 1)) tx_md_fixGame_0 24 rfl
theorem d_md_fixGame_47 : decode prog_10_method_11_code 47 = .ok (.goto 4, 3) := zD (q := (47, .goto 4, 3)) tx_md_fixGame_0 25 rfl
theorem d_md_fixGame_50 : decode prog_10_method_11_code 50 = .ok (.iconst 0, 1) := zD (q := (50, .iconst 0, 1)) tx_md_fixGame_0 26 rfl
theorem d_md_fixGame_51 : decode prog_10_method_11_code 51 = .ok (.iconst 0, 1) := zD (q := (51, .iconst 0, 1)) tx_md_fixGame_0 27 rfl
theorem d_md_fixGame_52 : decode prog_10_method_11_code 52 = .ok (.iconst 0, 1) := zD (q := (52, .iconst 0, 1)) tx_md_fixGame_0 28 rfl
theorem d_md_fixGame_53 : decode prog_10_method_11_code 53 = .ok (.invokevirtual 100, 3) := zD (q := (53, .invokevirtual 100, 3)) tx_md_fixGame_0 29 rfl
theorem d_md_fixGame_56 : decode prog_10_method_11_code 56 = .ok (.ifCond .eq 5, 3) := zD (q := (56, .ifCond .eq 5, 3)) tx_md_fixGame_0 30 rfl
theorem d_md_fixGame_59 : decode prog_10_method_11_code 59 = .ok (.iconst 0, 1) := zD (q := (59, .iconst 0, 1)) tx_md_fixGame_0 31 rfl
theorem d_md_fixGame_60 : decode prog_10_method_11_code 60 = .ok (.ireturn, 1) := zD (q := (60, .ireturn, 1)) tx_md_fixGame_0 32 rfl
theorem d_md_fixGame_61 : decode prog_10_method_11_code 61 = .ok (.aload_n 0, 1) := zD (q := (61, .aload_n 0, 1)) tx_md_fixGame_0 33 rfl
theorem d_md_fixGame_62 : decode prog_10_method_11_code 62 = .ok (.getfield 24, 3) := zD (q := (62, .getfield 24, 3)) tx_md_fixGame_0 34 rfl
theorem d_md_fixGame_65 : decode prog_10_method_11_code 65 = .ok (.aload_n 0, 1) := zD (q := (65, .aload_n 0, 1)) tx_md_fixGame_0 35 rfl
theorem d_md_fixGame_66 : decode prog_10_method_11_code 66 = .ok (.getfield 110, 3) := zD (q := (66, .getfield 110, 3)) tx_md_fixGame_0 36 rfl
theorem d_md_fixGame_69 : decode prog_10_method_11_code 69 = .ok (.iload_n 1, 1) := zD (q := (69, .iload_n 1, 1)) tx_md_fixGame_0 37 rfl
theorem d_md_fixGame_70 : decode prog_10_method_11_code 70 = .ok (.iastore, 1) := zD (q := (70, .iastore, 1)) tx_md_fixGame_0 38 rfl
theorem d_md_fixGame_71 : decode prog_10_method_11_code 71 = .ok (.aload_n 0, 1) := zD (q := (71, .aload_n 0, 1)) tx_md_fixGame_0 39 rfl
theorem d_md_fixGame_72 : decode prog_10_method_11_code 72 = .ok (.getfield 27, 3) := zD (q := (72, .getfield 27, 3)) tx_md_fixGame_0 40 rfl
theorem d_md_fixGame_75 : decode prog_10_method_11_code 75 = .ok (.aload_n 0, 1) := zD (q := (75, .aload_n 0, 1)) tx_md_fixGame_0 41 rfl
theorem d_md_fixGame_76 : decode prog_10_method_11_code 76 = .ok (.getfield 110, 3) := zD (q := (76, .getfield 110, 3)) tx_md_fixGame_0 42 rfl
theorem d_md_fixGame_79 : decode prog_10_method_11_code 79 = .ok (.iload_n 2, 1) := zD (q := (79, .iload_n 2, 1)) tx_md_fixGame_0 43 rfl
theorem d_md_fixGame_80 : decode prog_10_method_11_code 80 = .ok (.iastore, 1) := zD (q := (80, .iastore, 1)) tx_md_fixGame_0 44 rfl
theorem d_md_fixGame_81 : decode prog_10_method_11_code 81 = .ok (.aload_n 0, 1) := zD (q := (81, .aload_n 0, 1)) tx_md_fixGame_0 45 rfl
theorem d_md_fixGame_82 : decode prog_10_method_11_code 82 = .ok (.getfield 30, 3) := zD (q := (82, .getfield 30, 3)) tx_md_fixGame_0 46 rfl
theorem d_md_fixGame_85 : decode prog_10_method_11_code 85 = .ok (.aload_n 0, 1) := zD (q := (85, .aload_n 0, 1)) tx_md_fixGame_0 47 rfl
theorem d_md_fixGame_86 : decode prog_10_method_11_code 86 = .ok (.getfield 110, 3) := zD (q := (86, .getfield 110, 3)) tx_md_fixGame_0 48 rfl
theorem d_md_fixGame_89 : decode prog_10_method_11_code 89 = .ok (.iload_n 3, 1) := zD (q := (89, .iload_n 3, 1)) tx_md_fixGame_0 49 rfl
theorem d_md_fixGame_90 : decode prog_10_method_11_code 90 = .ok (.iastore, 1) := zD (q := (90, .iastore, 1)) tx_md_fixGame_0 50 rfl
theorem d_md_fixGame_91 : decode prog_10_method_11_code 91 = .ok (.aload_n 0, 1) := zD (q := (91, .aload_n 0, 1)) tx_md_fixGame_0 51 rfl
theorem d_md_fixGame_92 : decode prog_10_method_11_code 92 = .ok (.dup, 1) := zD (q := (92, .dup, 1)) tx_md_fixGame_0 52 rfl
theorem d_md_fixGame_93 : decode prog_10_method_11_code 93 = .ok (.getfield 110, 3) := zD (q := (93, .getfield 110, 3)) tx_md_fixGame_0 53 rfl
theorem d_md_fixGame_96 : decode prog_10_method_11_code 96 = .ok (.iconst 1, 1) := zD (q := (96, .iconst 1, 1)) tx_md_fixGame_0 54 rfl
theorem d_md_fixGame_97 : decode prog_10_method_11_code 97 = .ok (.iadd, 1) := zD (q := (97, .iadd, 1)) tx_md_fixGame_0 55 rfl
theorem d_md_fixGame_98 : decode prog_10_method_11_code 98 = .ok (.putfield 110, 3) := zD (q := (98, .putfield 110, 3)) tx_md_fixGame_0 56 rfl
theorem d_md_fixGame_101 : decode prog_10_method_11_code 101 = .ok (.aload_n 0, 1) := zD (q := (101, .aload_n 0, 1)) tx_md_fixGame_0 57 rfl
theorem d_md_fixGame_102 : decode prog_10_method_11_code 102 = .ok (.getfield 110, 3) := zD (q := (102, .getfield 110, 3)) tx_md_fixGame_0 58 rfl
theorem d_md_fixGame_105 : decode prog_10_method_11_code 105 = .ok (.ireturn, 1) := zD (q := (105, .ireturn, 1)) tx_md_fixGame_0 59 rfl
def T_md_awayCap_0 : List (Nat × Instr × Nat) := [(0, .aload_n 0, 1), (1, .iload_n 1, 1), (2, .iconst 0, 1), (3, .bipush 19, 2), (5, .invokestatic 90, 3), (8, .ifCond .ne 7, 3), (11, .iconst 1, 1), (12, .goto 4, 3), (15, .iconst 0, 1), (16, .iconst 0, 1), (17, .iconst 0, 1), (18, .iconst 0, 1), (19, .invokevirtual 100, 3), (22, .ifCond .ne 8, 3), (25, .aload_n 0, 1), (26, .iload_n 1, 1), (27, .putfield 113, 3), (30, .return_, 1)]
theorem tx_md_awayCap_0 : zdec prog_10_method_12_code T_md_awayCap_0 = true := by decide +kernel
theorem d_md_awayCap_0 : decode prog_10_method_12_code 0 = .ok (.aload_n 0, 1) := zD (q := (0, .aload_n 0, 1)) tx_md_awayCap_0 0 rfl
theorem d_md_awayCap_1 : decode prog_10_method_12_code 1 = .ok (.iload_n 1, 1) := zD (q := (1, .iload_n 1, 1)) tx_md_awayCap_0 1 rfl
theorem d_md_awayCap_2 : decode prog_10_method_12_code 2 = .ok (.iconst 0, 1) := zD (q := (2, .iconst 0, 1)) tx_md_awayCap_0 2 rfl
theorem d_md_awayCap_3 : decode prog_10_method_12_code 3 = .ok (.bipush 19, 2) := zD (q := (3, .bipush 19, 2)) tx_md_awayCap_0 3 rfl
theorem d_md_awayCap_5 : decode prog_10_method_12_code 5 = .ok (.invokestatic 90, 3) := zD (q := (5, .invokestatic 90, 3)) tx_md_awayCap_0 4 rfl
theorem d_md_awayCap_8 : decode prog_10_method_12_code 8 = .ok (.ifCond .ne 7, 3) := zD (q := (8, .ifCond .ne 7, 3)) tx_md_awayCap_0 5 rfl
theorem d_md_awayCap_11 : decode prog_10_method_12_code 11 = .ok (.iconst 1, 1) := zD (q := (11, .iconst 1, 1)) tx_md_awayCap_0 6 rfl
theorem d_md_awayCap_12 : decode prog_10_method_12_code 12 = .ok (.goto 4, 3) := zD (q := (12, .goto 4, 3)) tx_md_awayCap_0 7 rfl
theorem d_md_awayCap_15 : decode prog_10_method_12_code 15 = .ok (.iconst 0, 1) := zD (q := (15, .iconst 0, 1)) tx_md_awayCap_0 8 rfl
theorem d_md_awayCap_16 : decode prog_10_method_12_code 16 = .ok (.iconst 0, 1) := zD (q := (16, .iconst 0, 1)) tx_md_awayCap_0 9 rfl
theorem d_md_awayCap_17 : decode prog_10_method_12_code 17 = .ok (.iconst 0, 1) := zD (q := (17, .iconst 0, 1)) tx_md_awayCap_0 10 rfl
theorem d_md_awayCap_18 : decode prog_10_method_12_code 18 = .ok (.iconst 0, 1) := zD (q := (18, .iconst 0, 1)) tx_md_awayCap_0 11 rfl
theorem d_md_awayCap_19 : decode prog_10_method_12_code 19 = .ok (.invokevirtual 100, 3) := zD (q := (19, .invokevirtual 100, 3)) tx_md_awayCap_0 12 rfl
theorem d_md_awayCap_22 : decode prog_10_method_12_code 22 = .ok (.ifCond .ne 8, 3) := zD (q := (22, .ifCond .ne 8, 3)) tx_md_awayCap_0 13 rfl
theorem d_md_awayCap_25 : decode prog_10_method_12_code 25 = .ok (.aload_n 0, 1) := zD (q := (25, .aload_n 0, 1)) tx_md_awayCap_0 14 rfl
theorem d_md_awayCap_26 : decode prog_10_method_12_code 26 = .ok (.iload_n 1, 1) := zD (q := (26, .iload_n 1, 1)) tx_md_awayCap_0 15 rfl
theorem d_md_awayCap_27 : decode prog_10_method_12_code 27 = .ok (.putfield 113, 3) := zD (q := (27, .putfield 113, 3)) tx_md_awayCap_0 16 rfl
theorem d_md_awayCap_30 : decode prog_10_method_12_code 30 = .ok (.return_, 1) := zD (q := (30, .return_, 1)) tx_md_awayCap_0 17 rfl
def T_md_makePlain_0 : List (Nat × Instr × Nat) := [(0, .aload_n 0, 1), (1, .iconst 0, 1), (2, .putfield 87, 3), (5, .aload_n 0, 1), (6, .getfield 7, 3), (9, .iconst 2, 1), (10, .irem, 1), (11, .ifCond .ne 12, 3), (14, .aload_n 0, 1), (15, .getfield 7, 3), (18, .iconst 1, 1), (19, .isub, 1), (20, .goto 7, 3), (23, .aload_n 0, 1), (24, .getfield 7, 3), (27, .istore_n 2, 1), (28, .iconst 0, 1), (29, .istore_n 3, 1), (30, .iload_n 3, 1), (31, .iload_n 2, 1), (32, .if_icmp .ge 15, 3), (35, .aload_n 0, 1), (36, .iload_n 3, 1), (37, .iload_n 2, 1), (38, .invokevirtual 127, 3), (41, .iinc 3 1, 3), (44, .goto (-14), 3), (47, .iconst 0, 1), (48, .istore_n 3, 1), (49, .iload_n 3, 1), (50, .iload_n 2, 1), (51, .if_icmp .ge 98, 3), (54, .iload_n 1, 1), (55, .ifCond .eq 94, 3), (58, .iconst 0, 1), (59, .istore 4, 2), (61, .iload 4, 2), (63, .aload_n 0, 1), (64, .getfield 7, 3), (67, .if_icmp .ge 76, 3), (70, .bipush 20, 2), (72, .iload_n 2, 1), (73, .iload_n 3, 1), (74, .iadd, 1), (75, .imul, 1), (76, .iload 4, 2), (78, .iadd, 1), (79, .istore 5, 2), (81, .aload_n 0, 1), (82, .getfield 33, 3), (85, .iload 5, 2), (87, .aload_n 0, 1), (88, .getfield 33, 3), (91, .bipush 20, 2), (93, .iload_n 3, 1), (94, .imul, 1), (95, .iload 4, 2), (97, .iadd, 1), (98, .iaload, 1), (99, .iastore, 1)]
theorem tx_md_makePlain_0 : zdec prog_10_method_15_code T_md_makePlain_0 = true := by decide +kernel
theorem d_md_makePlain_0 : decode prog_10_method_15_code 0 = .ok (.aload_n 0, 1) := zD (q := (0, .aload_n 0, 1)) tx_md_makePlain_0 0 rfl
theorem d_md_makePlain_1 : decode prog_10_method_15_code 1 = .ok (.iconst 0, 1) := zD (q := (1, .iconst 0, 1)) tx_md_makePlain_0 1 rfl
theorem d_md_makePlain_2 : decode prog_10_method_15_code 2 = .ok (.putfield 87, 3) := zD (q := (2, .putfield 87, 3)) tx_md_makePlain_0 2 rfl
theorem d_md_makePlain_5 : decode prog_10_method_15_code 5 = .ok (.aload_n 0, 1) := zD (q := (5, .aload_n 0, 1)) tx_md_makePlain_0 3 rfl
theorem d_md_makePlain_6 : decode prog_10_method_15_code 6 = .ok (.getfield 7, 3) := zD (q := (6, .getfield 7, 3)) tx_md_makePlain_0 4 rfl
theorem d_md_makePlain_9 : decode prog_10_method_15_code 9 = .ok (.iconst 2, 1) := zD (q := (9, .iconst 2, 1)) tx_md_makePlain_0 5 rfl
theorem d_md_makePlain_10 : decode prog_10_method_15_code 10 = .ok (.irem, 1) := zD (q := (10, .irem, 1)) tx_md_makePlain_0 6 rfl
theorem d_md_makePlain_11 : decode prog_10_method_15_code 11 = .ok (.ifCond .ne 12, 3) := zD (q := (11, .ifCond .ne 12, 3)) tx_md_makePlain_0 7 rfl
theorem d_md_makePlain_14 : decode prog_10_method_15_code 14 = .ok (.aload_n 0, 1) := zD (q := (14, .aload_n 0, 1)) tx_md_makePlain_0 8 rfl
theorem d_md_makePlain_15 : decode prog_10_method_15_code 15 = .ok (.getfield 7, 3) := zD (q := (15, .getfield 7, 3)) tx_md_makePlain_0 9 rfl
theorem d_md_makePlain_18 : decode prog_10_method_15_code 18 = .ok (.iconst 1, 1) := zD (q := (18, .iconst 1, 1)) tx_md_makePlain_0 10 rfl
theorem d_md_makePlain_19 : decode prog_10_method_15_code 19 = .ok (.isub, 1) := zD (q := (19, .isub, 1)) tx_md_makePlain_0 11 rfl
theorem d_md_makePlain_20 : decode prog_10_method_15_code 20 = .ok (.goto 7, 3) := zD (q := (20, .goto 7, 3)) tx_md_makePlain_0 12 rfl
theorem d_md_makePlain_23 : decode prog_10_method_15_code 23 = .ok (.aload_n 0, 1) := zD (q := (23, .aload_n 0, 1)) tx_md_makePlain_0 13 rfl
theorem d_md_makePlain_24 : decode prog_10_method_15_code 24 = .ok (.getfield 7, 3) := zD (q := (24, .getfield 7, 3)) tx_md_makePlain_0 14 rfl
theorem d_md_makePlain_27 : decode prog_10_method_15_code 27 = .ok (.istore_n 2, 1) := zD (q := (27, .istore_n 2, 1)) tx_md_makePlain_0 15 rfl
theorem d_md_makePlain_28 : decode prog_10_method_15_code 28 = .ok (.iconst 0, 1) := zD (q := (28, .iconst 0, 1)) tx_md_makePlain_0 16 rfl
theorem d_md_makePlain_29 : decode prog_10_method_15_code 29 = .ok (.istore_n 3, 1) := zD (q := (29, .istore_n 3, 1)) tx_md_makePlain_0 17 rfl
theorem d_md_makePlain_30 : decode prog_10_method_15_code 30 = .ok (.iload_n 3, 1) := zD (q := (30, .iload_n 3, 1)) tx_md_makePlain_0 18 rfl
theorem d_md_makePlain_31 : decode prog_10_method_15_code 31 = .ok (.iload_n 2, 1) := zD (q := (31, .iload_n 2, 1)) tx_md_makePlain_0 19 rfl
theorem d_md_makePlain_32 : decode prog_10_method_15_code 32 = .ok (.if_icmp .ge 15, 3) := zD (q := (32, .if_icmp .ge 15, 3)) tx_md_makePlain_0 20 rfl
theorem d_md_makePlain_35 : decode prog_10_method_15_code 35 = .ok (.aload_n 0, 1) := zD (q := (35, .aload_n 0, 1)) tx_md_makePlain_0 21 rfl
theorem d_md_makePlain_36 : decode prog_10_method_15_code 36 = .ok (.iload_n 3, 1) := zD (q := (36, .iload_n 3, 1)) tx_md_makePlain_0 22 rfl
theorem d_md_makePlain_37 : decode prog_10_method_15_code 37 = .ok (.iload_n 2, 1) := zD (q := (37, .iload_n 2, 1)) tx_md_makePlain_0 23 rfl
theorem d_md_makePlain_38 : decode prog_10_method_15_code 38 = .ok (.invokevirtual 127, 3) := zD (q := (38, .invokevirtual 127, 3)) tx_md_makePlain_0 24 rfl
theorem d_md_makePlain_41 : decode prog_10_method_15_code 41 = .ok (.iinc 3 1, 3) := zD (q := (41, .iinc 3 1, 3)) tx_md_makePlain_0 25 rfl
theorem d_md_makePlain_44 : decode prog_10_method_15_code 44 = .ok (.goto (-14), 3) := zD (q := (44, .goto (-14), 3)) tx_md_makePlain_0 26 rfl
theorem d_md_makePlain_47 : decode prog_10_method_15_code 47 = .ok (.iconst 0, 1) := zD (q := (47, .iconst 0, 1)) tx_md_makePlain_0 27 rfl
theorem d_md_makePlain_48 : decode prog_10_method_15_code 48 = .ok (.istore_n 3, 1) := zD (q := (48, .istore_n 3, 1)) tx_md_makePlain_0 28 rfl
theorem d_md_makePlain_49 : decode prog_10_method_15_code 49 = .ok (.iload_n 3, 1) := zD (q := (49, .iload_n 3, 1)) tx_md_makePlain_0 29 rfl
theorem d_md_makePlain_50 : decode prog_10_method_15_code 50 = .ok (.iload_n 2, 1) := zD (q := (50, .iload_n 2, 1)) tx_md_makePlain_0 30 rfl
theorem d_md_makePlain_51 : decode prog_10_method_15_code 51 = .ok (.if_icmp .ge 98, 3) := zD (q := (51, .if_icmp .ge 98, 3)) tx_md_makePlain_0 31 rfl
theorem d_md_makePlain_54 : decode prog_10_method_15_code 54 = .ok (.iload_n 1, 1) := zD (q := (54, .iload_n 1, 1)) tx_md_makePlain_0 32 rfl
theorem d_md_makePlain_55 : decode prog_10_method_15_code 55 = .ok (.ifCond .eq 94, 3) := zD (q := (55, .ifCond .eq 94, 3)) tx_md_makePlain_0 33 rfl
theorem d_md_makePlain_58 : decode prog_10_method_15_code 58 = .ok (.iconst 0, 1) := zD (q := (58, .iconst 0, 1)) tx_md_makePlain_0 34 rfl
theorem d_md_makePlain_59 : decode prog_10_method_15_code 59 = .ok (.istore 4, 2) := zD (q := (59, .istore 4, 2)) tx_md_makePlain_0 35 rfl
theorem d_md_makePlain_61 : decode prog_10_method_15_code 61 = .ok (.iload 4, 2) := zD (q := (61, .iload 4, 2)) tx_md_makePlain_0 36 rfl
theorem d_md_makePlain_63 : decode prog_10_method_15_code 63 = .ok (.aload_n 0, 1) := zD (q := (63, .aload_n 0, 1)) tx_md_makePlain_0 37 rfl
theorem d_md_makePlain_64 : decode prog_10_method_15_code 64 = .ok (.getfield 7, 3) := zD (q := (64, .getfield 7, 3)) tx_md_makePlain_0 38 rfl
theorem d_md_makePlain_67 : decode prog_10_method_15_code 67 = .ok (.if_icmp .ge 76, 3) := zD (q := (67, .if_icmp .ge 76, 3)) tx_md_makePlain_0 39 rfl
theorem d_md_makePlain_70 : decode prog_10_method_15_code 70 = .ok (.bipush 20, 2) := zD (q := (70, .bipush 20, 2)) tx_md_makePlain_0 40 rfl
theorem d_md_makePlain_72 : decode prog_10_method_15_code 72 = .ok (.iload_n 2, 1) := zD (q := (72, .iload_n 2, 1)) tx_md_makePlain_0 41 rfl
theorem d_md_makePlain_73 : decode prog_10_method_15_code 73 = .ok (.iload_n 3, 1) := zD (q := (73, .iload_n 3, 1)) tx_md_makePlain_0 42 rfl
theorem d_md_makePlain_74 : decode prog_10_method_15_code 74 = .ok (.iadd, 1) := zD (q := (74, .iadd, 1)) tx_md_makePlain_0 43 rfl
theorem d_md_makePlain_75 : decode prog_10_method_15_code 75 = .ok (.imul, 1) := zD (q := (75, .imul, 1)) tx_md_makePlain_0 44 rfl
theorem d_md_makePlain_76 : decode prog_10_method_15_code 76 = .ok (.iload 4, 2) := zD (q := (76, .iload 4, 2)) tx_md_makePlain_0 45 rfl
theorem d_md_makePlain_78 : decode prog_10_method_15_code 78 = .ok (.iadd, 1) := zD (q := (78, .iadd, 1)) tx_md_makePlain_0 46 rfl
theorem d_md_makePlain_79 : decode prog_10_method_15_code 79 = .ok (.istore 5, 2) := zD (q := (79, .istore 5, 2)) tx_md_makePlain_0 47 rfl
theorem d_md_makePlain_81 : decode prog_10_method_15_code 81 = .ok (.aload_n 0, 1) := zD (q := (81, .aload_n 0, 1)) tx_md_makePlain_0 48 rfl
theorem d_md_makePlain_82 : decode prog_10_method_15_code 82 = .ok (.getfield 33, 3) := zD (q := (82, .getfield 33, 3)) tx_md_makePlain_0 49 rfl
theorem d_md_makePlain_85 : decode prog_10_method_15_code 85 = .ok (.iload 5, 2) := zD (q := (85, .iload 5, 2)) tx_md_makePlain_0 50 rfl
theorem d_md_makePlain_87 : decode prog_10_method_15_code 87 = .ok (.aload_n 0, 1) := zD (q := (87, .aload_n 0, 1)) tx_md_makePlain_0 51 rfl
theorem d_md_makePlain_88 : decode prog_10_method_15_code 88 = .ok (.getfield 33, 3) := zD (q := (88, .getfield 33, 3)) tx_md_makePlain_0 52 rfl
theorem d_md_makePlain_91 : decode prog_10_method_15_code 91 = .ok (.bipush 20, 2) := zD (q := (91, .bipush 20, 2)) tx_md_makePlain_0 53 rfl
theorem d_md_makePlain_93 : decode prog_10_method_15_code 93 = .ok (.iload_n 3, 1) := zD (q := (93, .iload_n 3, 1)) tx_md_makePlain_0 54 rfl
theorem d_md_makePlain_94 : decode prog_10_method_15_code 94 = .ok (.imul, 1) := zD (q := (94, .imul, 1)) tx_md_makePlain_0 55 rfl
theorem d_md_makePlain_95 : decode prog_10_method_15_code 95 = .ok (.iload 4, 2) := zD (q := (95, .iload 4, 2)) tx_md_makePlain_0 56 rfl
theorem d_md_makePlain_97 : decode prog_10_method_15_code 97 = .ok (.iadd, 1) := zD (q := (97, .iadd, 1)) tx_md_makePlain_0 57 rfl
theorem d_md_makePlain_98 : decode prog_10_method_15_code 98 = .ok (.iaload, 1) := zD (q := (98, .iaload, 1)) tx_md_makePlain_0 58 rfl
theorem d_md_makePlain_99 : decode prog_10_method_15_code 99 = .ok (.iastore, 1) := zD (q := (99, .iastore, 1)) tx_md_makePlain_0 59 rfl
def T_md_makePlain_1 : List (Nat × Instr × Nat) := [(100, .aload_n 0, 1), (101, .getfield 36, 3), (104, .iload 5, 2), (106, .aload_n 0, 1), (107, .getfield 33, 3), (110, .iload 5, 2), (112, .iaload, 1), (113, .ifCond .lt 22, 3), (116, .aload_n 0, 1), (117, .getfield 36, 3), (120, .bipush 20, 2), (122, .iload_n 3, 1), (123, .imul, 1), (124, .iload 4, 2), (126, .iadd, 1), (127, .baload, 1), (128, .ifCond .ne 7, 3), (131, .iconst 1, 1), (132, .goto 4, 3), (135, .iconst 0, 1), (136, .bastore, 1), (137, .iinc 4 1, 3), (140, .goto (-79), 3), (143, .iinc 3 1, 3), (146, .goto (-97), 3), (149, .aload_n 0, 1), (150, .iload_n 1, 1), (151, .ifCond .eq 9, 3), (154, .iconst 2, 1), (155, .iload_n 2, 1), (156, .imul, 1), (157, .goto 4, 3), (160, .iload_n 2, 1), (161, .putfield 94, 3), (164, .aload_n 0, 1), (165, .invokevirtual 116, 3), (168, .aload_n 0, 1), (169, .getfield 94, 3), (172, .ireturn, 1)]
theorem tx_md_makePlain_1 : zdec prog_10_method_15_code T_md_makePlain_1 = true := by decide +kernel
theorem d_md_makePlain_100 : decode prog_10_method_15_code 100 = .ok (.aload_n 0, 1) := zD (q := (100, .aload_n 0, 1)) tx_md_makePlain_1 0 rfl
theorem d_md_makePlain_101 : decode prog_10_method_15_code 101 = .ok (.getfield 36, 3) := zD (q := (101, .getfield 36, 3)) tx_md_makePlain_1 1 rfl
theorem d_md_makePlain_104 : decode prog_10_method_15_code 104 = .ok (.iload 5, 2) := zD (q := (104, .iload 5, 2)) tx_md_makePlain_1 2 rfl
theorem d_md_makePlain_106 : decode prog_10_method_15_code 106 = .ok (.aload_n 0, 1) := zD (q := (106, .aload_n 0, 1)) tx_md_makePlain_1 3 rfl
theorem d_md_makePlain_107 : decode prog_10_method_15_code 107 = .ok (.getfield 33, 3) := zD (q := (107, .getfield 33, 3)) tx_md_makePlain_1 4 rfl
theorem d_md_makePlain_110 : decode prog_10_method_15_code 110 = .ok (.iload 5, 2) := zD (q := (110, .iload 5, 2)) tx_md_makePlain_1 5 rfl
theorem d_md_makePlain_112 : decode prog_10_method_15_code 112 = .ok (.iaload, 1) := zD (q := (112, .iaload, 1)) tx_md_makePlain_1 6 rfl
theorem d_md_makePlain_113 : decode prog_10_method_15_code 113 = .ok (.ifCond .lt 22, 3) := zD (q := (113, .ifCond .lt 22, 3)) tx_md_makePlain_1 7 rfl
theorem d_md_makePlain_116 : decode prog_10_method_15_code 116 = .ok (.aload_n 0, 1) := zD (q := (116, .aload_n 0, 1)) tx_md_makePlain_1 8 rfl
theorem d_md_makePlain_117 : decode prog_10_method_15_code 117 = .ok (.getfield 36, 3) := zD (q := (117, .getfield 36, 3)) tx_md_makePlain_1 9 rfl
theorem d_md_makePlain_120 : decode prog_10_method_15_code 120 = .ok (.bipush 20, 2) := zD (q := (120, .bipush 20, 2)) tx_md_makePlain_1 10 rfl
theorem d_md_makePlain_122 : decode prog_10_method_15_code 122 = .ok (.iload_n 3, 1) := zD (q := (122, .iload_n 3, 1)) tx_md_makePlain_1 11 rfl
theorem d_md_makePlain_123 : decode prog_10_method_15_code 123 = .ok (.imul, 1) := zD (q := (123, .imul, 1)) tx_md_makePlain_1 12 rfl
theorem d_md_makePlain_124 : decode prog_10_method_15_code 124 = .ok (.iload 4, 2) := zD (q := (124, .iload 4, 2)) tx_md_makePlain_1 13 rfl
theorem d_md_makePlain_126 : decode prog_10_method_15_code 126 = .ok (.iadd, 1) := zD (q := (126, .iadd, 1)) tx_md_makePlain_1 14 rfl
theorem d_md_makePlain_127 : decode prog_10_method_15_code 127 = .ok (.baload, 1) := zD (q := (127, .baload, 1)) tx_md_makePlain_1 15 rfl
theorem d_md_makePlain_128 : decode prog_10_method_15_code 128 = .ok (.ifCond .ne 7, 3) := zD (q := (128, .ifCond .ne 7, 3)) tx_md_makePlain_1 16 rfl
theorem d_md_makePlain_131 : decode prog_10_method_15_code 131 = .ok (.iconst 1, 1) := zD (q := (131, .iconst 1, 1)) tx_md_makePlain_1 17 rfl
theorem d_md_makePlain_132 : decode prog_10_method_15_code 132 = .ok (.goto 4, 3) := zD (q := (132, .goto 4, 3)) tx_md_makePlain_1 18 rfl
theorem d_md_makePlain_135 : decode prog_10_method_15_code 135 = .ok (.iconst 0, 1) := zD (q := (135, .iconst 0, 1)) tx_md_makePlain_1 19 rfl
theorem d_md_makePlain_136 : decode prog_10_method_15_code 136 = .ok (.bastore, 1) := zD (q := (136, .bastore, 1)) tx_md_makePlain_1 20 rfl
theorem d_md_makePlain_137 : decode prog_10_method_15_code 137 = .ok (.iinc 4 1, 3) := zD (q := (137, .iinc 4 1, 3)) tx_md_makePlain_1 21 rfl
theorem d_md_makePlain_140 : decode prog_10_method_15_code 140 = .ok (.goto (-79), 3) := zD (q := (140, .goto (-79), 3)) tx_md_makePlain_1 22 rfl
theorem d_md_makePlain_143 : decode prog_10_method_15_code 143 = .ok (.iinc 3 1, 3) := zD (q := (143, .iinc 3 1, 3)) tx_md_makePlain_1 23 rfl
theorem d_md_makePlain_146 : decode prog_10_method_15_code 146 = .ok (.goto (-97), 3) := zD (q := (146, .goto (-97), 3)) tx_md_makePlain_1 24 rfl
theorem d_md_makePlain_149 : decode prog_10_method_15_code 149 = .ok (.aload_n 0, 1) := zD (q := (149, .aload_n 0, 1)) tx_md_makePlain_1 25 rfl
theorem d_md_makePlain_150 : decode prog_10_method_15_code 150 = .ok (.iload_n 1, 1) := zD (q := (150, .iload_n 1, 1)) tx_md_makePlain_1 26 rfl
theorem d_md_makePlain_151 : decode prog_10_method_15_code 151 = .ok (.ifCond .eq 9, 3) := zD (q := (151, .ifCond .eq 9, 3)) tx_md_makePlain_1 27 rfl
theorem d_md_makePlain_154 : decode prog_10_method_15_code 154 = .ok (.iconst 2, 1) := zD (q := (154, .iconst 2, 1)) tx_md_makePlain_1 28 rfl
theorem d_md_makePlain_155 : decode prog_10_method_15_code 155 = .ok (.iload_n 2, 1) := zD (q := (155, .iload_n 2, 1)) tx_md_makePlain_1 29 rfl
theorem d_md_makePlain_156 : decode prog_10_method_15_code 156 = .ok (.imul, 1) := zD (q := (156, .imul, 1)) tx_md_makePlain_1 30 rfl
theorem d_md_makePlain_157 : decode prog_10_method_15_code 157 = .ok (.goto 4, 3) := zD (q := (157, .goto 4, 3)) tx_md_makePlain_1 31 rfl
theorem d_md_makePlain_160 : decode prog_10_method_15_code 160 = .ok (.iload_n 2, 1) := zD (q := (160, .iload_n 2, 1)) tx_md_makePlain_1 32 rfl
theorem d_md_makePlain_161 : decode prog_10_method_15_code 161 = .ok (.putfield 94, 3) := zD (q := (161, .putfield 94, 3)) tx_md_makePlain_1 33 rfl
theorem d_md_makePlain_164 : decode prog_10_method_15_code 164 = .ok (.aload_n 0, 1) := zD (q := (164, .aload_n 0, 1)) tx_md_makePlain_1 34 rfl
theorem d_md_makePlain_165 : decode prog_10_method_15_code 165 = .ok (.invokevirtual 116, 3) := zD (q := (165, .invokevirtual 116, 3)) tx_md_makePlain_1 35 rfl
theorem d_md_makePlain_168 : decode prog_10_method_15_code 168 = .ok (.aload_n 0, 1) := zD (q := (168, .aload_n 0, 1)) tx_md_makePlain_1 36 rfl
theorem d_md_makePlain_169 : decode prog_10_method_15_code 169 = .ok (.getfield 94, 3) := zD (q := (169, .getfield 94, 3)) tx_md_makePlain_1 37 rfl
theorem d_md_makePlain_172 : decode prog_10_method_15_code 172 = .ok (.ireturn, 1) := zD (q := (172, .ireturn, 1)) tx_md_makePlain_1 38 rfl
def T_md_layPlain_0 : List (Nat × Instr × Nat) := [(0, .iconst 1, 1), (1, .istore_n 3, 1), (2, .iload_n 3, 1), (3, .iload_n 2, 1), (4, .iconst 1, 1), (5, .isub, 1), (6, .iconst 2, 1), (7, .idiv, 1), (8, .if_icmp .gt 58, 3), (11, .iload_n 1, 1), (12, .iload_n 3, 1), (13, .iadd, 1), (14, .iload_n 2, 1), (15, .irem, 1), (16, .istore 4, 2), (18, .iload_n 1, 1), (19, .iload_n 2, 1), (20, .iadd, 1), (21, .iload_n 3, 1), (22, .isub, 1), (23, .iload_n 2, 1), (24, .irem, 1), (25, .istore 5, 2), (27, .aload_n 0, 1), (28, .iload_n 1, 1), (29, .iload_n 3, 1), (30, .iconst 2, 1), (31, .irem, 1), (32, .iconst 1, 1), (33, .if_icmp .ne 8, 3), (36, .iload 4, 2), (38, .goto 5, 3), (41, .iload 5, 2), (43, .iload_n 3, 1), (44, .iconst 2, 1), (45, .irem, 1), (46, .iconst 1, 1), (47, .if_icmp .ne 8, 3), (50, .iload 5, 2), (52, .goto 5, 3), (55, .iload 4, 2), (57, .invokevirtual 123, 3), (60, .iinc 3 1, 3), (63, .goto (-61), 3), (66, .aload_n 0, 1), (67, .getfield 7, 3), (70, .iconst 2, 1), (71, .irem, 1), (72, .iconst 1, 1), (73, .if_icmp .ne 30, 3), (76, .aload_n 0, 1), (77, .getfield 33, 3), (80, .bipush 20, 2), (82, .iload_n 1, 1), (83, .imul, 1), (84, .iload_n 1, 1), (85, .iadd, 1), (86, .iconst (-1), 1), (87, .iastore, 1), (88, .aload_n 0, 1)]
theorem tx_md_layPlain_0 : zdec prog_10_method_14_code T_md_layPlain_0 = true := by decide +kernel
theorem d_md_layPlain_0 : decode prog_10_method_14_code 0 = .ok (.iconst 1, 1) := zD (q := (0, .iconst 1, 1)) tx_md_layPlain_0 0 rfl
theorem d_md_layPlain_1 : decode prog_10_method_14_code 1 = .ok (.istore_n 3, 1) := zD (q := (1, .istore_n 3, 1)) tx_md_layPlain_0 1 rfl
theorem d_md_layPlain_2 : decode prog_10_method_14_code 2 = .ok (.iload_n 3, 1) := zD (q := (2, .iload_n 3, 1)) tx_md_layPlain_0 2 rfl
theorem d_md_layPlain_3 : decode prog_10_method_14_code 3 = .ok (.iload_n 2, 1) := zD (q := (3, .iload_n 2, 1)) tx_md_layPlain_0 3 rfl
theorem d_md_layPlain_4 : decode prog_10_method_14_code 4 = .ok (.iconst 1, 1) := zD (q := (4, .iconst 1, 1)) tx_md_layPlain_0 4 rfl
theorem d_md_layPlain_5 : decode prog_10_method_14_code 5 = .ok (.isub, 1) := zD (q := (5, .isub, 1)) tx_md_layPlain_0 5 rfl
theorem d_md_layPlain_6 : decode prog_10_method_14_code 6 = .ok (.iconst 2, 1) := zD (q := (6, .iconst 2, 1)) tx_md_layPlain_0 6 rfl
theorem d_md_layPlain_7 : decode prog_10_method_14_code 7 = .ok (.idiv, 1) := zD (q := (7, .idiv, 1)) tx_md_layPlain_0 7 rfl
theorem d_md_layPlain_8 : decode prog_10_method_14_code 8 = .ok (.if_icmp .gt 58, 3) := zD (q := (8, .if_icmp .gt 58, 3)) tx_md_layPlain_0 8 rfl
theorem d_md_layPlain_11 : decode prog_10_method_14_code 11 = .ok (.iload_n 1, 1) := zD (q := (11, .iload_n 1, 1)) tx_md_layPlain_0 9 rfl
theorem d_md_layPlain_12 : decode prog_10_method_14_code 12 = .ok (.iload_n 3, 1) := zD (q := (12, .iload_n 3, 1)) tx_md_layPlain_0 10 rfl
theorem d_md_layPlain_13 : decode prog_10_method_14_code 13 = .ok (.iadd, 1) := zD (q := (13, .iadd, 1)) tx_md_layPlain_0 11 rfl
theorem d_md_layPlain_14 : decode prog_10_method_14_code 14 = .ok (.iload_n 2, 1) := zD (q := (14, .iload_n 2, 1)) tx_md_layPlain_0 12 rfl
theorem d_md_layPlain_15 : decode prog_10_method_14_code 15 = .ok (.irem, 1) := zD (q := (15, .irem, 1)) tx_md_layPlain_0 13 rfl
theorem d_md_layPlain_16 : decode prog_10_method_14_code 16 = .ok (.istore 4, 2) := zD (q := (16, .istore 4, 2)) tx_md_layPlain_0 14 rfl
theorem d_md_layPlain_18 : decode prog_10_method_14_code 18 = .ok (.iload_n 1, 1) := zD (q := (18, .iload_n 1, 1)) tx_md_layPlain_0 15 rfl
theorem d_md_layPlain_19 : decode prog_10_method_14_code 19 = .ok (.iload_n 2, 1) := zD (q := (19, .iload_n 2, 1)) tx_md_layPlain_0 16 rfl
theorem d_md_layPlain_20 : decode prog_10_method_14_code 20 = .ok (.iadd, 1) := zD (q := (20, .iadd, 1)) tx_md_layPlain_0 17 rfl
theorem d_md_layPlain_21 : decode prog_10_method_14_code 21 = .ok (.iload_n 3, 1) := zD (q := (21, .iload_n 3, 1)) tx_md_layPlain_0 18 rfl
theorem d_md_layPlain_22 : decode prog_10_method_14_code 22 = .ok (.isub, 1) := zD (q := (22, .isub, 1)) tx_md_layPlain_0 19 rfl
theorem d_md_layPlain_23 : decode prog_10_method_14_code 23 = .ok (.iload_n 2, 1) := zD (q := (23, .iload_n 2, 1)) tx_md_layPlain_0 20 rfl
theorem d_md_layPlain_24 : decode prog_10_method_14_code 24 = .ok (.irem, 1) := zD (q := (24, .irem, 1)) tx_md_layPlain_0 21 rfl
theorem d_md_layPlain_25 : decode prog_10_method_14_code 25 = .ok (.istore 5, 2) := zD (q := (25, .istore 5, 2)) tx_md_layPlain_0 22 rfl
theorem d_md_layPlain_27 : decode prog_10_method_14_code 27 = .ok (.aload_n 0, 1) := zD (q := (27, .aload_n 0, 1)) tx_md_layPlain_0 23 rfl
theorem d_md_layPlain_28 : decode prog_10_method_14_code 28 = .ok (.iload_n 1, 1) := zD (q := (28, .iload_n 1, 1)) tx_md_layPlain_0 24 rfl
theorem d_md_layPlain_29 : decode prog_10_method_14_code 29 = .ok (.iload_n 3, 1) := zD (q := (29, .iload_n 3, 1)) tx_md_layPlain_0 25 rfl
theorem d_md_layPlain_30 : decode prog_10_method_14_code 30 = .ok (.iconst 2, 1) := zD (q := (30, .iconst 2, 1)) tx_md_layPlain_0 26 rfl
theorem d_md_layPlain_31 : decode prog_10_method_14_code 31 = .ok (.irem, 1) := zD (q := (31, .irem, 1)) tx_md_layPlain_0 27 rfl
theorem d_md_layPlain_32 : decode prog_10_method_14_code 32 = .ok (.iconst 1, 1) := zD (q := (32, .iconst 1, 1)) tx_md_layPlain_0 28 rfl
theorem d_md_layPlain_33 : decode prog_10_method_14_code 33 = .ok (.if_icmp .ne 8, 3) := zD (q := (33, .if_icmp .ne 8, 3)) tx_md_layPlain_0 29 rfl
theorem d_md_layPlain_36 : decode prog_10_method_14_code 36 = .ok (.iload 4, 2) := zD (q := (36, .iload 4, 2)) tx_md_layPlain_0 30 rfl
theorem d_md_layPlain_38 : decode prog_10_method_14_code 38 = .ok (.goto 5, 3) := zD (q := (38, .goto 5, 3)) tx_md_layPlain_0 31 rfl
theorem d_md_layPlain_41 : decode prog_10_method_14_code 41 = .ok (.iload 5, 2) := zD (q := (41, .iload 5, 2)) tx_md_layPlain_0 32 rfl
theorem d_md_layPlain_43 : decode prog_10_method_14_code 43 = .ok (.iload_n 3, 1) := zD (q := (43, .iload_n 3, 1)) tx_md_layPlain_0 33 rfl
theorem d_md_layPlain_44 : decode prog_10_method_14_code 44 = .ok (.iconst 2, 1) := zD (q := (44, .iconst 2, 1)) tx_md_layPlain_0 34 rfl
theorem d_md_layPlain_45 : decode prog_10_method_14_code 45 = .ok (.irem, 1) := zD (q := (45, .irem, 1)) tx_md_layPlain_0 35 rfl
theorem d_md_layPlain_46 : decode prog_10_method_14_code 46 = .ok (.iconst 1, 1) := zD (q := (46, .iconst 1, 1)) tx_md_layPlain_0 36 rfl
theorem d_md_layPlain_47 : decode prog_10_method_14_code 47 = .ok (.if_icmp .ne 8, 3) := zD (q := (47, .if_icmp .ne 8, 3)) tx_md_layPlain_0 37 rfl
theorem d_md_layPlain_50 : decode prog_10_method_14_code 50 = .ok (.iload 5, 2) := zD (q := (50, .iload 5, 2)) tx_md_layPlain_0 38 rfl
theorem d_md_layPlain_52 : decode prog_10_method_14_code 52 = .ok (.goto 5, 3) := zD (q := (52, .goto 5, 3)) tx_md_layPlain_0 39 rfl
theorem d_md_layPlain_55 : decode prog_10_method_14_code 55 = .ok (.iload 4, 2) := zD (q := (55, .iload 4, 2)) tx_md_layPlain_0 40 rfl
theorem d_md_layPlain_57 : decode prog_10_method_14_code 57 = .ok (.invokevirtual 123, 3) := zD (q := (57, .invokevirtual 123, 3)) tx_md_layPlain_0 41 rfl
theorem d_md_layPlain_60 : decode prog_10_method_14_code 60 = .ok (.iinc 3 1, 3) := zD (q := (60, .iinc 3 1, 3)) tx_md_layPlain_0 42 rfl
theorem d_md_layPlain_63 : decode prog_10_method_14_code 63 = .ok (.goto (-61), 3) := zD (q := (63, .goto (-61), 3)) tx_md_layPlain_0 43 rfl
theorem d_md_layPlain_66 : decode prog_10_method_14_code 66 = .ok (.aload_n 0, 1) := zD (q := (66, .aload_n 0, 1)) tx_md_layPlain_0 44 rfl
theorem d_md_layPlain_67 : decode prog_10_method_14_code 67 = .ok (.getfield 7, 3) := zD (q := (67, .getfield 7, 3)) tx_md_layPlain_0 45 rfl
theorem d_md_layPlain_70 : decode prog_10_method_14_code 70 = .ok (.iconst 2, 1) := zD (q := (70, .iconst 2, 1)) tx_md_layPlain_0 46 rfl
theorem d_md_layPlain_71 : decode prog_10_method_14_code 71 = .ok (.irem, 1) := zD (q := (71, .irem, 1)) tx_md_layPlain_0 47 rfl
theorem d_md_layPlain_72 : decode prog_10_method_14_code 72 = .ok (.iconst 1, 1) := zD (q := (72, .iconst 1, 1)) tx_md_layPlain_0 48 rfl
theorem d_md_layPlain_73 : decode prog_10_method_14_code 73 = .ok (.if_icmp .ne 30, 3) := zD (q := (73, .if_icmp .ne 30, 3)) tx_md_layPlain_0 49 rfl
theorem d_md_layPlain_76 : decode prog_10_method_14_code 76 = .ok (.aload_n 0, 1) := zD (q := (76, .aload_n 0, 1)) tx_md_layPlain_0 50 rfl
theorem d_md_layPlain_77 : decode prog_10_method_14_code 77 = .ok (.getfield 33, 3) := zD (q := (77, .getfield 33, 3)) tx_md_layPlain_0 51 rfl
theorem d_md_layPlain_80 : decode prog_10_method_14_code 80 = .ok (.bipush 20, 2) := zD (q := (80, .bipush 20, 2)) tx_md_layPlain_0 52 rfl
theorem d_md_layPlain_82 : decode prog_10_method_14_code 82 = .ok (.iload_n 1, 1) := zD (q := (82, .iload_n 1, 1)) tx_md_layPlain_0 53 rfl
theorem d_md_layPlain_83 : decode prog_10_method_14_code 83 = .ok (.imul, 1) := zD (q := (83, .imul, 1)) tx_md_layPlain_0 54 rfl
theorem d_md_layPlain_84 : decode prog_10_method_14_code 84 = .ok (.iload_n 1, 1) := zD (q := (84, .iload_n 1, 1)) tx_md_layPlain_0 55 rfl
theorem d_md_layPlain_85 : decode prog_10_method_14_code 85 = .ok (.iadd, 1) := zD (q := (85, .iadd, 1)) tx_md_layPlain_0 56 rfl
theorem d_md_layPlain_86 : decode prog_10_method_14_code 86 = .ok (.iconst (-1), 1) := zD (q := (86, .iconst (-1), 1)) tx_md_layPlain_0 57 rfl
theorem d_md_layPlain_87 : decode prog_10_method_14_code 87 = .ok (.iastore, 1) := zD (q := (87, .iastore, 1)) tx_md_layPlain_0 58 rfl
theorem d_md_layPlain_88 : decode prog_10_method_14_code 88 = .ok (.aload_n 0, 1) := zD (q := (88, .aload_n 0, 1)) tx_md_layPlain_0 59 rfl
def T_md_layPlain_1 : List (Nat × Instr × Nat) := [(89, .getfield 36, 3), (92, .bipush 20, 2), (94, .iload_n 1, 1), (95, .imul, 1), (96, .iload_n 1, 1), (97, .iadd, 1), (98, .iconst 0, 1), (99, .bastore, 1), (100, .goto 40, 3), (103, .aload_n 0, 1), (104, .iload_n 1, 1), (105, .iload_n 1, 1), (106, .iconst 2, 1), (107, .irem, 1), (108, .ifCond .ne 7, 3), (111, .iload_n 1, 1), (112, .goto 9, 3), (115, .aload_n 0, 1), (116, .getfield 7, 3), (119, .iconst 1, 1), (120, .isub, 1), (121, .iload_n 1, 1), (122, .iconst 2, 1), (123, .irem, 1), (124, .ifCond .ne 12, 3), (127, .aload_n 0, 1), (128, .getfield 7, 3), (131, .iconst 1, 1), (132, .isub, 1), (133, .goto 4, 3), (136, .iload_n 1, 1), (137, .invokevirtual 123, 3), (140, .return_, 1)]
theorem tx_md_layPlain_1 : zdec prog_10_method_14_code T_md_layPlain_1 = true := by decide +kernel
theorem d_md_layPlain_89 : decode prog_10_method_14_code 89 = .ok (.getfield 36, 3) := zD (q := (89, .getfield 36, 3)) tx_md_layPlain_1 0 rfl
theorem d_md_layPlain_92 : decode prog_10_method_14_code 92 = .ok (.bipush 20, 2) := zD (q := (92, .bipush 20, 2)) tx_md_layPlain_1 1 rfl
theorem d_md_layPlain_94 : decode prog_10_method_14_code 94 = .ok (.iload_n 1, 1) := zD (q := (94, .iload_n 1, 1)) tx_md_layPlain_1 2 rfl
theorem d_md_layPlain_95 : decode prog_10_method_14_code 95 = .ok (.imul, 1) := zD (q := (95, .imul, 1)) tx_md_layPlain_1 3 rfl
theorem d_md_layPlain_96 : decode prog_10_method_14_code 96 = .ok (.iload_n 1, 1) := zD (q := (96, .iload_n 1, 1)) tx_md_layPlain_1 4 rfl
theorem d_md_layPlain_97 : decode prog_10_method_14_code 97 = .ok (.iadd, 1) := zD (q := (97, .iadd, 1)) tx_md_layPlain_1 5 rfl
theorem d_md_layPlain_98 : decode prog_10_method_14_code 98 = .ok (.iconst 0, 1) := zD (q := (98, .iconst 0, 1)) tx_md_layPlain_1 6 rfl
theorem d_md_layPlain_99 : decode prog_10_method_14_code 99 = .ok (.bastore, 1) := zD (q := (99, .bastore, 1)) tx_md_layPlain_1 7 rfl
theorem d_md_layPlain_100 : decode prog_10_method_14_code 100 = .ok (.goto 40, 3) := zD (q := (100, .goto 40, 3)) tx_md_layPlain_1 8 rfl
theorem d_md_layPlain_103 : decode prog_10_method_14_code 103 = .ok (.aload_n 0, 1) := zD (q := (103, .aload_n 0, 1)) tx_md_layPlain_1 9 rfl
theorem d_md_layPlain_104 : decode prog_10_method_14_code 104 = .ok (.iload_n 1, 1) := zD (q := (104, .iload_n 1, 1)) tx_md_layPlain_1 10 rfl
theorem d_md_layPlain_105 : decode prog_10_method_14_code 105 = .ok (.iload_n 1, 1) := zD (q := (105, .iload_n 1, 1)) tx_md_layPlain_1 11 rfl
theorem d_md_layPlain_106 : decode prog_10_method_14_code 106 = .ok (.iconst 2, 1) := zD (q := (106, .iconst 2, 1)) tx_md_layPlain_1 12 rfl
theorem d_md_layPlain_107 : decode prog_10_method_14_code 107 = .ok (.irem, 1) := zD (q := (107, .irem, 1)) tx_md_layPlain_1 13 rfl
theorem d_md_layPlain_108 : decode prog_10_method_14_code 108 = .ok (.ifCond .ne 7, 3) := zD (q := (108, .ifCond .ne 7, 3)) tx_md_layPlain_1 14 rfl
theorem d_md_layPlain_111 : decode prog_10_method_14_code 111 = .ok (.iload_n 1, 1) := zD (q := (111, .iload_n 1, 1)) tx_md_layPlain_1 15 rfl
theorem d_md_layPlain_112 : decode prog_10_method_14_code 112 = .ok (.goto 9, 3) := zD (q := (112, .goto 9, 3)) tx_md_layPlain_1 16 rfl
theorem d_md_layPlain_115 : decode prog_10_method_14_code 115 = .ok (.aload_n 0, 1) := zD (q := (115, .aload_n 0, 1)) tx_md_layPlain_1 17 rfl
theorem d_md_layPlain_116 : decode prog_10_method_14_code 116 = .ok (.getfield 7, 3) := zD (q := (116, .getfield 7, 3)) tx_md_layPlain_1 18 rfl
theorem d_md_layPlain_119 : decode prog_10_method_14_code 119 = .ok (.iconst 1, 1) := zD (q := (119, .iconst 1, 1)) tx_md_layPlain_1 19 rfl
theorem d_md_layPlain_120 : decode prog_10_method_14_code 120 = .ok (.isub, 1) := zD (q := (120, .isub, 1)) tx_md_layPlain_1 20 rfl
theorem d_md_layPlain_121 : decode prog_10_method_14_code 121 = .ok (.iload_n 1, 1) := zD (q := (121, .iload_n 1, 1)) tx_md_layPlain_1 21 rfl
theorem d_md_layPlain_122 : decode prog_10_method_14_code 122 = .ok (.iconst 2, 1) := zD (q := (122, .iconst 2, 1)) tx_md_layPlain_1 22 rfl
theorem d_md_layPlain_123 : decode prog_10_method_14_code 123 = .ok (.irem, 1) := zD (q := (123, .irem, 1)) tx_md_layPlain_1 23 rfl
theorem d_md_layPlain_124 : decode prog_10_method_14_code 124 = .ok (.ifCond .ne 12, 3) := zD (q := (124, .ifCond .ne 12, 3)) tx_md_layPlain_1 24 rfl
theorem d_md_layPlain_127 : decode prog_10_method_14_code 127 = .ok (.aload_n 0, 1) := zD (q := (127, .aload_n 0, 1)) tx_md_layPlain_1 25 rfl
theorem d_md_layPlain_128 : decode prog_10_method_14_code 128 = .ok (.getfield 7, 3) := zD (q := (128, .getfield 7, 3)) tx_md_layPlain_1 26 rfl
theorem d_md_layPlain_131 : decode prog_10_method_14_code 131 = .ok (.iconst 1, 1) := zD (q := (131, .iconst 1, 1)) tx_md_layPlain_1 27 rfl
theorem d_md_layPlain_132 : decode prog_10_method_14_code 132 = .ok (.isub, 1) := zD (q := (132, .isub, 1)) tx_md_layPlain_1 28 rfl
theorem d_md_layPlain_133 : decode prog_10_method_14_code 133 = .ok (.goto 4, 3) := zD (q := (133, .goto 4, 3)) tx_md_layPlain_1 29 rfl
theorem d_md_layPlain_136 : decode prog_10_method_14_code 136 = .ok (.iload_n 1, 1) := zD (q := (136, .iload_n 1, 1)) tx_md_layPlain_1 30 rfl
theorem d_md_layPlain_137 : decode prog_10_method_14_code 137 = .ok (.invokevirtual 123, 3) := zD (q := (137, .invokevirtual 123, 3)) tx_md_layPlain_1 31 rfl
theorem d_md_layPlain_140 : decode prog_10_method_14_code 140 = .ok (.return_, 1) := zD (q := (140, .return_, 1)) tx_md_layPlain_1 32 rfl
def T_md_lay_0 : List (Nat × Instr × Nat) := [(0, .aload_n 0, 1), (1, .getfield 33, 3), (4, .bipush 20, 2), (6, .iload_n 1, 1), (7, .imul, 1), (8, .iload_n 2, 1), (9, .iadd, 1), (10, .iload_n 3, 1), (11, .iastore, 1), (12, .aload_n 0, 1), (13, .getfield 36, 3), (16, .bipush 20, 2), (18, .iload_n 1, 1), (19, .imul, 1), (20, .iload_n 2, 1), (21, .iadd, 1), (22, .iconst 1, 1), (23, .bastore, 1), (24, .aload_n 0, 1), (25, .getfield 33, 3), (28, .bipush 20, 2), (30, .iload_n 1, 1), (31, .imul, 1), (32, .iload_n 3, 1), (33, .iadd, 1), (34, .iload_n 2, 1), (35, .iastore, 1), (36, .aload_n 0, 1), (37, .getfield 36, 3), (40, .bipush 20, 2), (42, .iload_n 1, 1), (43, .imul, 1), (44, .iload_n 3, 1), (45, .iadd, 1), (46, .iconst 0, 1), (47, .bastore, 1), (48, .return_, 1)]
theorem tx_md_lay_0 : zdec prog_10_method_13_code T_md_lay_0 = true := by decide +kernel
theorem d_md_lay_0 : decode prog_10_method_13_code 0 = .ok (.aload_n 0, 1) := zD (q := (0, .aload_n 0, 1)) tx_md_lay_0 0 rfl
theorem d_md_lay_1 : decode prog_10_method_13_code 1 = .ok (.getfield 33, 3) := zD (q := (1, .getfield 33, 3)) tx_md_lay_0 1 rfl
theorem d_md_lay_4 : decode prog_10_method_13_code 4 = .ok (.bipush 20, 2) := zD (q := (4, .bipush 20, 2)) tx_md_lay_0 2 rfl
theorem d_md_lay_6 : decode prog_10_method_13_code 6 = .ok (.iload_n 1, 1) := zD (q := (6, .iload_n 1, 1)) tx_md_lay_0 3 rfl
theorem d_md_lay_7 : decode prog_10_method_13_code 7 = .ok (.imul, 1) := zD (q := (7, .imul, 1)) tx_md_lay_0 4 rfl
theorem d_md_lay_8 : decode prog_10_method_13_code 8 = .ok (.iload_n 2, 1) := zD (q := (8, .iload_n 2, 1)) tx_md_lay_0 5 rfl
theorem d_md_lay_9 : decode prog_10_method_13_code 9 = .ok (.iadd, 1) := zD (q := (9, .iadd, 1)) tx_md_lay_0 6 rfl
theorem d_md_lay_10 : decode prog_10_method_13_code 10 = .ok (.iload_n 3, 1) := zD (q := (10, .iload_n 3, 1)) tx_md_lay_0 7 rfl
theorem d_md_lay_11 : decode prog_10_method_13_code 11 = .ok (.iastore, 1) := zD (q := (11, .iastore, 1)) tx_md_lay_0 8 rfl
theorem d_md_lay_12 : decode prog_10_method_13_code 12 = .ok (.aload_n 0, 1) := zD (q := (12, .aload_n 0, 1)) tx_md_lay_0 9 rfl
theorem d_md_lay_13 : decode prog_10_method_13_code 13 = .ok (.getfield 36, 3) := zD (q := (13, .getfield 36, 3)) tx_md_lay_0 10 rfl
theorem d_md_lay_16 : decode prog_10_method_13_code 16 = .ok (.bipush 20, 2) := zD (q := (16, .bipush 20, 2)) tx_md_lay_0 11 rfl
theorem d_md_lay_18 : decode prog_10_method_13_code 18 = .ok (.iload_n 1, 1) := zD (q := (18, .iload_n 1, 1)) tx_md_lay_0 12 rfl
theorem d_md_lay_19 : decode prog_10_method_13_code 19 = .ok (.imul, 1) := zD (q := (19, .imul, 1)) tx_md_lay_0 13 rfl
theorem d_md_lay_20 : decode prog_10_method_13_code 20 = .ok (.iload_n 2, 1) := zD (q := (20, .iload_n 2, 1)) tx_md_lay_0 14 rfl
theorem d_md_lay_21 : decode prog_10_method_13_code 21 = .ok (.iadd, 1) := zD (q := (21, .iadd, 1)) tx_md_lay_0 15 rfl
theorem d_md_lay_22 : decode prog_10_method_13_code 22 = .ok (.iconst 1, 1) := zD (q := (22, .iconst 1, 1)) tx_md_lay_0 16 rfl
theorem d_md_lay_23 : decode prog_10_method_13_code 23 = .ok (.bastore, 1) := zD (q := (23, .bastore, 1)) tx_md_lay_0 17 rfl
theorem d_md_lay_24 : decode prog_10_method_13_code 24 = .ok (.aload_n 0, 1) := zD (q := (24, .aload_n 0, 1)) tx_md_lay_0 18 rfl
theorem d_md_lay_25 : decode prog_10_method_13_code 25 = .ok (.getfield 33, 3) := zD (q := (25, .getfield 33, 3)) tx_md_lay_0 19 rfl
theorem d_md_lay_28 : decode prog_10_method_13_code 28 = .ok (.bipush 20, 2) := zD (q := (28, .bipush 20, 2)) tx_md_lay_0 20 rfl
theorem d_md_lay_30 : decode prog_10_method_13_code 30 = .ok (.iload_n 1, 1) := zD (q := (30, .iload_n 1, 1)) tx_md_lay_0 21 rfl
theorem d_md_lay_31 : decode prog_10_method_13_code 31 = .ok (.imul, 1) := zD (q := (31, .imul, 1)) tx_md_lay_0 22 rfl
theorem d_md_lay_32 : decode prog_10_method_13_code 32 = .ok (.iload_n 3, 1) := zD (q := (32, .iload_n 3, 1)) tx_md_lay_0 23 rfl
theorem d_md_lay_33 : decode prog_10_method_13_code 33 = .ok (.iadd, 1) := zD (q := (33, .iadd, 1)) tx_md_lay_0 24 rfl
theorem d_md_lay_34 : decode prog_10_method_13_code 34 = .ok (.iload_n 2, 1) := zD (q := (34, .iload_n 2, 1)) tx_md_lay_0 25 rfl
theorem d_md_lay_35 : decode prog_10_method_13_code 35 = .ok (.iastore, 1) := zD (q := (35, .iastore, 1)) tx_md_lay_0 26 rfl
theorem d_md_lay_36 : decode prog_10_method_13_code 36 = .ok (.aload_n 0, 1) := zD (q := (36, .aload_n 0, 1)) tx_md_lay_0 27 rfl
theorem d_md_lay_37 : decode prog_10_method_13_code 37 = .ok (.getfield 36, 3) := zD (q := (37, .getfield 36, 3)) tx_md_lay_0 28 rfl
theorem d_md_lay_40 : decode prog_10_method_13_code 40 = .ok (.bipush 20, 2) := zD (q := (40, .bipush 20, 2)) tx_md_lay_0 29 rfl
theorem d_md_lay_42 : decode prog_10_method_13_code 42 = .ok (.iload_n 1, 1) := zD (q := (42, .iload_n 1, 1)) tx_md_lay_0 30 rfl
theorem d_md_lay_43 : decode prog_10_method_13_code 43 = .ok (.imul, 1) := zD (q := (43, .imul, 1)) tx_md_lay_0 31 rfl
theorem d_md_lay_44 : decode prog_10_method_13_code 44 = .ok (.iload_n 3, 1) := zD (q := (44, .iload_n 3, 1)) tx_md_lay_0 32 rfl
theorem d_md_lay_45 : decode prog_10_method_13_code 45 = .ok (.iadd, 1) := zD (q := (45, .iadd, 1)) tx_md_lay_0 33 rfl
theorem d_md_lay_46 : decode prog_10_method_13_code 46 = .ok (.iconst 0, 1) := zD (q := (46, .iconst 0, 1)) tx_md_lay_0 34 rfl
theorem d_md_lay_47 : decode prog_10_method_13_code 47 = .ok (.bastore, 1) := zD (q := (47, .bastore, 1)) tx_md_lay_0 35 rfl
theorem d_md_lay_48 : decode prog_10_method_13_code 48 = .ok (.return_, 1) := zD (q := (48, .return_, 1)) tx_md_lay_0 36 rfl
def T_md_make_0 : List (Nat × Instr × Nat) := [(0, .aload_n 0, 1), (1, .iload_n 1, 1), (2, .iconst 1, 1), (3, .sipush 4000, 3), (6, .invokestatic 90, 3), (9, .ifCond .ne 7, 3), (12, .iconst 1, 1), (13, .goto 4, 3), (16, .iconst 0, 1), (17, .aload_n 0, 1), (18, .getfield 7, 3), (21, .bipush 8, 2), (23, .if_icmp .le 7, 3), (26, .iconst 1, 1), (27, .goto 4, 3), (30, .iconst 0, 1), (31, .iconst 0, 1), (32, .iconst 0, 1), (33, .invokevirtual 100, 3), (36, .ifCond .eq 5, 3), (39, .iconst 0, 1), (40, .ireturn, 1), (41, .aload_n 0, 1), (42, .iload_n 1, 1), (43, .invokevirtual 179, 3), (46, .istore_n 2, 1), (47, .iload_n 2, 1), (48, .iconst 1, 1), (49, .if_icmp .ne 122, 3), (52, .aload_n 0, 1), (53, .aload_n 0, 1), (54, .getfield 7, 3), (57, .iconst 2, 1), (58, .irem, 1), (59, .ifCond .ne 12, 3), (62, .aload_n 0, 1), (63, .getfield 7, 3), (66, .iconst 1, 1), (67, .isub, 1), (68, .goto 7, 3), (71, .aload_n 0, 1), (72, .getfield 7, 3), (75, .putfield 94, 3), (78, .iconst 0, 1), (79, .istore_n 3, 1), (80, .iload_n 3, 1), (81, .aload_n 0, 1), (82, .getfield 94, 3), (85, .if_icmp .ge 82, 3), (88, .iconst 0, 1), (89, .istore 4, 2), (91, .iload 4, 2), (93, .aload_n 0, 1), (94, .getfield 7, 3), (97, .if_icmp .ge 64, 3), (100, .bipush 20, 2), (102, .iload_n 3, 1), (103, .imul, 1), (104, .iload 4, 2), (106, .iadd, 1)]
theorem tx_md_make_0 : zdec prog_10_method_32_code T_md_make_0 = true := by decide +kernel
theorem d_md_make_0 : decode prog_10_method_32_code 0 = .ok (.aload_n 0, 1) := zD (q := (0, .aload_n 0, 1)) tx_md_make_0 0 rfl
theorem d_md_make_1 : decode prog_10_method_32_code 1 = .ok (.iload_n 1, 1) := zD (q := (1, .iload_n 1, 1)) tx_md_make_0 1 rfl
theorem d_md_make_2 : decode prog_10_method_32_code 2 = .ok (.iconst 1, 1) := zD (q := (2, .iconst 1, 1)) tx_md_make_0 2 rfl
theorem d_md_make_3 : decode prog_10_method_32_code 3 = .ok (.sipush 4000, 3) := zD (q := (3, .sipush 4000, 3)) tx_md_make_0 3 rfl
theorem d_md_make_6 : decode prog_10_method_32_code 6 = .ok (.invokestatic 90, 3) := zD (q := (6, .invokestatic 90, 3)) tx_md_make_0 4 rfl
theorem d_md_make_9 : decode prog_10_method_32_code 9 = .ok (.ifCond .ne 7, 3) := zD (q := (9, .ifCond .ne 7, 3)) tx_md_make_0 5 rfl
theorem d_md_make_12 : decode prog_10_method_32_code 12 = .ok (.iconst 1, 1) := zD (q := (12, .iconst 1, 1)) tx_md_make_0 6 rfl
theorem d_md_make_13 : decode prog_10_method_32_code 13 = .ok (.goto 4, 3) := zD (q := (13, .goto 4, 3)) tx_md_make_0 7 rfl
theorem d_md_make_16 : decode prog_10_method_32_code 16 = .ok (.iconst 0, 1) := zD (q := (16, .iconst 0, 1)) tx_md_make_0 8 rfl
theorem d_md_make_17 : decode prog_10_method_32_code 17 = .ok (.aload_n 0, 1) := zD (q := (17, .aload_n 0, 1)) tx_md_make_0 9 rfl
theorem d_md_make_18 : decode prog_10_method_32_code 18 = .ok (.getfield 7, 3) := zD (q := (18, .getfield 7, 3)) tx_md_make_0 10 rfl
theorem d_md_make_21 : decode prog_10_method_32_code 21 = .ok (.bipush 8, 2) := zD (q := (21, .bipush 8, 2)) tx_md_make_0 11 rfl
theorem d_md_make_23 : decode prog_10_method_32_code 23 = .ok (.if_icmp .le 7, 3) := zD (q := (23, .if_icmp .le 7, 3)) tx_md_make_0 12 rfl
theorem d_md_make_26 : decode prog_10_method_32_code 26 = .ok (.iconst 1, 1) := zD (q := (26, .iconst 1, 1)) tx_md_make_0 13 rfl
theorem d_md_make_27 : decode prog_10_method_32_code 27 = .ok (.goto 4, 3) := zD (q := (27, .goto 4, 3)) tx_md_make_0 14 rfl
theorem d_md_make_30 : decode prog_10_method_32_code 30 = .ok (.iconst 0, 1) := zD (q := (30, .iconst 0, 1)) tx_md_make_0 15 rfl
theorem d_md_make_31 : decode prog_10_method_32_code 31 = .ok (.iconst 0, 1) := zD (q := (31, .iconst 0, 1)) tx_md_make_0 16 rfl
theorem d_md_make_32 : decode prog_10_method_32_code 32 = .ok (.iconst 0, 1) := zD (q := (32, .iconst 0, 1)) tx_md_make_0 17 rfl
theorem d_md_make_33 : decode prog_10_method_32_code 33 = .ok (.invokevirtual 100, 3) := zD (q := (33, .invokevirtual 100, 3)) tx_md_make_0 18 rfl
theorem d_md_make_36 : decode prog_10_method_32_code 36 = .ok (.ifCond .eq 5, 3) := zD (q := (36, .ifCond .eq 5, 3)) tx_md_make_0 19 rfl
theorem d_md_make_39 : decode prog_10_method_32_code 39 = .ok (.iconst 0, 1) := zD (q := (39, .iconst 0, 1)) tx_md_make_0 20 rfl
theorem d_md_make_40 : decode prog_10_method_32_code 40 = .ok (.ireturn, 1) := zD (q := (40, .ireturn, 1)) tx_md_make_0 21 rfl
theorem d_md_make_41 : decode prog_10_method_32_code 41 = .ok (.aload_n 0, 1) := zD (q := (41, .aload_n 0, 1)) tx_md_make_0 22 rfl
theorem d_md_make_42 : decode prog_10_method_32_code 42 = .ok (.iload_n 1, 1) := zD (q := (42, .iload_n 1, 1)) tx_md_make_0 23 rfl
theorem d_md_make_43 : decode prog_10_method_32_code 43 = .ok (.invokevirtual 179, 3) := zD (q := (43, .invokevirtual 179, 3)) tx_md_make_0 24 rfl
theorem d_md_make_46 : decode prog_10_method_32_code 46 = .ok (.istore_n 2, 1) := zD (q := (46, .istore_n 2, 1)) tx_md_make_0 25 rfl
theorem d_md_make_47 : decode prog_10_method_32_code 47 = .ok (.iload_n 2, 1) := zD (q := (47, .iload_n 2, 1)) tx_md_make_0 26 rfl
theorem d_md_make_48 : decode prog_10_method_32_code 48 = .ok (.iconst 1, 1) := zD (q := (48, .iconst 1, 1)) tx_md_make_0 27 rfl
theorem d_md_make_49 : decode prog_10_method_32_code 49 = .ok (.if_icmp .ne 122, 3) := zD (q := (49, .if_icmp .ne 122, 3)) tx_md_make_0 28 rfl
theorem d_md_make_52 : decode prog_10_method_32_code 52 = .ok (.aload_n 0, 1) := zD (q := (52, .aload_n 0, 1)) tx_md_make_0 29 rfl
theorem d_md_make_53 : decode prog_10_method_32_code 53 = .ok (.aload_n 0, 1) := zD (q := (53, .aload_n 0, 1)) tx_md_make_0 30 rfl
theorem d_md_make_54 : decode prog_10_method_32_code 54 = .ok (.getfield 7, 3) := zD (q := (54, .getfield 7, 3)) tx_md_make_0 31 rfl
theorem d_md_make_57 : decode prog_10_method_32_code 57 = .ok (.iconst 2, 1) := zD (q := (57, .iconst 2, 1)) tx_md_make_0 32 rfl
theorem d_md_make_58 : decode prog_10_method_32_code 58 = .ok (.irem, 1) := zD (q := (58, .irem, 1)) tx_md_make_0 33 rfl
theorem d_md_make_59 : decode prog_10_method_32_code 59 = .ok (.ifCond .ne 12, 3) := zD (q := (59, .ifCond .ne 12, 3)) tx_md_make_0 34 rfl
theorem d_md_make_62 : decode prog_10_method_32_code 62 = .ok (.aload_n 0, 1) := zD (q := (62, .aload_n 0, 1)) tx_md_make_0 35 rfl
theorem d_md_make_63 : decode prog_10_method_32_code 63 = .ok (.getfield 7, 3) := zD (q := (63, .getfield 7, 3)) tx_md_make_0 36 rfl
theorem d_md_make_66 : decode prog_10_method_32_code 66 = .ok (.iconst 1, 1) := zD (q := (66, .iconst 1, 1)) tx_md_make_0 37 rfl
theorem d_md_make_67 : decode prog_10_method_32_code 67 = .ok (.isub, 1) := zD (q := (67, .isub, 1)) tx_md_make_0 38 rfl
theorem d_md_make_68 : decode prog_10_method_32_code 68 = .ok (.goto 7, 3) := zD (q := (68, .goto 7, 3)) tx_md_make_0 39 rfl
theorem d_md_make_71 : decode prog_10_method_32_code 71 = .ok (.aload_n 0, 1) := zD (q := (71, .aload_n 0, 1)) tx_md_make_0 40 rfl
theorem d_md_make_72 : decode prog_10_method_32_code 72 = .ok (.getfield 7, 3) := zD (q := (72, .getfield 7, 3)) tx_md_make_0 41 rfl
theorem d_md_make_75 : decode prog_10_method_32_code 75 = .ok (.putfield 94, 3) := zD (q := (75, .putfield 94, 3)) tx_md_make_0 42 rfl
theorem d_md_make_78 : decode prog_10_method_32_code 78 = .ok (.iconst 0, 1) := zD (q := (78, .iconst 0, 1)) tx_md_make_0 43 rfl
theorem d_md_make_79 : decode prog_10_method_32_code 79 = .ok (.istore_n 3, 1) := zD (q := (79, .istore_n 3, 1)) tx_md_make_0 44 rfl
theorem d_md_make_80 : decode prog_10_method_32_code 80 = .ok (.iload_n 3, 1) := zD (q := (80, .iload_n 3, 1)) tx_md_make_0 45 rfl
theorem d_md_make_81 : decode prog_10_method_32_code 81 = .ok (.aload_n 0, 1) := zD (q := (81, .aload_n 0, 1)) tx_md_make_0 46 rfl
theorem d_md_make_82 : decode prog_10_method_32_code 82 = .ok (.getfield 94, 3) := zD (q := (82, .getfield 94, 3)) tx_md_make_0 47 rfl
theorem d_md_make_85 : decode prog_10_method_32_code 85 = .ok (.if_icmp .ge 82, 3) := zD (q := (85, .if_icmp .ge 82, 3)) tx_md_make_0 48 rfl
theorem d_md_make_88 : decode prog_10_method_32_code 88 = .ok (.iconst 0, 1) := zD (q := (88, .iconst 0, 1)) tx_md_make_0 49 rfl
theorem d_md_make_89 : decode prog_10_method_32_code 89 = .ok (.istore 4, 2) := zD (q := (89, .istore 4, 2)) tx_md_make_0 50 rfl
theorem d_md_make_91 : decode prog_10_method_32_code 91 = .ok (.iload 4, 2) := zD (q := (91, .iload 4, 2)) tx_md_make_0 51 rfl
theorem d_md_make_93 : decode prog_10_method_32_code 93 = .ok (.aload_n 0, 1) := zD (q := (93, .aload_n 0, 1)) tx_md_make_0 52 rfl
theorem d_md_make_94 : decode prog_10_method_32_code 94 = .ok (.getfield 7, 3) := zD (q := (94, .getfield 7, 3)) tx_md_make_0 53 rfl
theorem d_md_make_97 : decode prog_10_method_32_code 97 = .ok (.if_icmp .ge 64, 3) := zD (q := (97, .if_icmp .ge 64, 3)) tx_md_make_0 54 rfl
theorem d_md_make_100 : decode prog_10_method_32_code 100 = .ok (.bipush 20, 2) := zD (q := (100, .bipush 20, 2)) tx_md_make_0 55 rfl
theorem d_md_make_102 : decode prog_10_method_32_code 102 = .ok (.iload_n 3, 1) := zD (q := (102, .iload_n 3, 1)) tx_md_make_0 56 rfl
theorem d_md_make_103 : decode prog_10_method_32_code 103 = .ok (.imul, 1) := zD (q := (103, .imul, 1)) tx_md_make_0 57 rfl
theorem d_md_make_104 : decode prog_10_method_32_code 104 = .ok (.iload 4, 2) := zD (q := (104, .iload 4, 2)) tx_md_make_0 58 rfl
theorem d_md_make_106 : decode prog_10_method_32_code 106 = .ok (.iadd, 1) := zD (q := (106, .iadd, 1)) tx_md_make_0 59 rfl
def T_md_make_1 : List (Nat × Instr × Nat) := [(107, .istore 5, 2), (109, .aload_n 0, 1), (110, .getfield 33, 3), (113, .iload 5, 2), (115, .aload_n 0, 1), (116, .getfield 60, 3), (119, .iload 5, 2), (121, .iaload, 1), (122, .iastore, 1), (123, .aload_n 0, 1), (124, .getfield 36, 3), (127, .iload 5, 2), (129, .aload_n 0, 1), (130, .getfield 60, 3), (133, .iload 5, 2), (135, .iaload, 1), (136, .ifCond .lt 17, 3), (139, .aload_n 0, 1), (140, .getfield 63, 3), (143, .iload 5, 2), (145, .baload, 1), (146, .ifCond .eq 7, 3), (149, .iconst 1, 1), (150, .goto 4, 3), (153, .iconst 0, 1), (154, .bastore, 1), (155, .iinc 4 1, 3), (158, .goto (-67), 3), (161, .iinc 3 1, 3), (164, .goto (-84), 3), (167, .aload_n 0, 1), (168, .invokevirtual 116, 3), (171, .iload_n 2, 1), (172, .ireturn, 1)]
theorem tx_md_make_1 : zdec prog_10_method_32_code T_md_make_1 = true := by decide +kernel
theorem d_md_make_107 : decode prog_10_method_32_code 107 = .ok (.istore 5, 2) := zD (q := (107, .istore 5, 2)) tx_md_make_1 0 rfl
theorem d_md_make_109 : decode prog_10_method_32_code 109 = .ok (.aload_n 0, 1) := zD (q := (109, .aload_n 0, 1)) tx_md_make_1 1 rfl
theorem d_md_make_110 : decode prog_10_method_32_code 110 = .ok (.getfield 33, 3) := zD (q := (110, .getfield 33, 3)) tx_md_make_1 2 rfl
theorem d_md_make_113 : decode prog_10_method_32_code 113 = .ok (.iload 5, 2) := zD (q := (113, .iload 5, 2)) tx_md_make_1 3 rfl
theorem d_md_make_115 : decode prog_10_method_32_code 115 = .ok (.aload_n 0, 1) := zD (q := (115, .aload_n 0, 1)) tx_md_make_1 4 rfl
theorem d_md_make_116 : decode prog_10_method_32_code 116 = .ok (.getfield 60, 3) := zD (q := (116, .getfield 60, 3)) tx_md_make_1 5 rfl
theorem d_md_make_119 : decode prog_10_method_32_code 119 = .ok (.iload 5, 2) := zD (q := (119, .iload 5, 2)) tx_md_make_1 6 rfl
theorem d_md_make_121 : decode prog_10_method_32_code 121 = .ok (.iaload, 1) := zD (q := (121, .iaload, 1)) tx_md_make_1 7 rfl
theorem d_md_make_122 : decode prog_10_method_32_code 122 = .ok (.iastore, 1) := zD (q := (122, .iastore, 1)) tx_md_make_1 8 rfl
theorem d_md_make_123 : decode prog_10_method_32_code 123 = .ok (.aload_n 0, 1) := zD (q := (123, .aload_n 0, 1)) tx_md_make_1 9 rfl
theorem d_md_make_124 : decode prog_10_method_32_code 124 = .ok (.getfield 36, 3) := zD (q := (124, .getfield 36, 3)) tx_md_make_1 10 rfl
theorem d_md_make_127 : decode prog_10_method_32_code 127 = .ok (.iload 5, 2) := zD (q := (127, .iload 5, 2)) tx_md_make_1 11 rfl
theorem d_md_make_129 : decode prog_10_method_32_code 129 = .ok (.aload_n 0, 1) := zD (q := (129, .aload_n 0, 1)) tx_md_make_1 12 rfl
theorem d_md_make_130 : decode prog_10_method_32_code 130 = .ok (.getfield 60, 3) := zD (q := (130, .getfield 60, 3)) tx_md_make_1 13 rfl
theorem d_md_make_133 : decode prog_10_method_32_code 133 = .ok (.iload 5, 2) := zD (q := (133, .iload 5, 2)) tx_md_make_1 14 rfl
theorem d_md_make_135 : decode prog_10_method_32_code 135 = .ok (.iaload, 1) := zD (q := (135, .iaload, 1)) tx_md_make_1 15 rfl
theorem d_md_make_136 : decode prog_10_method_32_code 136 = .ok (.ifCond .lt 17, 3) := zD (q := (136, .ifCond .lt 17, 3)) tx_md_make_1 16 rfl
theorem d_md_make_139 : decode prog_10_method_32_code 139 = .ok (.aload_n 0, 1) := zD (q := (139, .aload_n 0, 1)) tx_md_make_1 17 rfl
theorem d_md_make_140 : decode prog_10_method_32_code 140 = .ok (.getfield 63, 3) := zD (q := (140, .getfield 63, 3)) tx_md_make_1 18 rfl
theorem d_md_make_143 : decode prog_10_method_32_code 143 = .ok (.iload 5, 2) := zD (q := (143, .iload 5, 2)) tx_md_make_1 19 rfl
theorem d_md_make_145 : decode prog_10_method_32_code 145 = .ok (.baload, 1) := zD (q := (145, .baload, 1)) tx_md_make_1 20 rfl
theorem d_md_make_146 : decode prog_10_method_32_code 146 = .ok (.ifCond .eq 7, 3) := zD (q := (146, .ifCond .eq 7, 3)) tx_md_make_1 21 rfl
theorem d_md_make_149 : decode prog_10_method_32_code 149 = .ok (.iconst 1, 1) := zD (q := (149, .iconst 1, 1)) tx_md_make_1 22 rfl
theorem d_md_make_150 : decode prog_10_method_32_code 150 = .ok (.goto 4, 3) := zD (q := (150, .goto 4, 3)) tx_md_make_1 23 rfl
theorem d_md_make_153 : decode prog_10_method_32_code 153 = .ok (.iconst 0, 1) := zD (q := (153, .iconst 0, 1)) tx_md_make_1 24 rfl
theorem d_md_make_154 : decode prog_10_method_32_code 154 = .ok (.bastore, 1) := zD (q := (154, .bastore, 1)) tx_md_make_1 25 rfl
theorem d_md_make_155 : decode prog_10_method_32_code 155 = .ok (.iinc 4 1, 3) := zD (q := (155, .iinc 4 1, 3)) tx_md_make_1 26 rfl
theorem d_md_make_158 : decode prog_10_method_32_code 158 = .ok (.goto (-67), 3) := zD (q := (158, .goto (-67), 3)) tx_md_make_1 27 rfl
theorem d_md_make_161 : decode prog_10_method_32_code 161 = .ok (.iinc 3 1, 3) := zD (q := (161, .iinc 3 1, 3)) tx_md_make_1 28 rfl
theorem d_md_make_164 : decode prog_10_method_32_code 164 = .ok (.goto (-84), 3) := zD (q := (164, .goto (-84), 3)) tx_md_make_1 29 rfl
theorem d_md_make_167 : decode prog_10_method_32_code 167 = .ok (.aload_n 0, 1) := zD (q := (167, .aload_n 0, 1)) tx_md_make_1 30 rfl
theorem d_md_make_168 : decode prog_10_method_32_code 168 = .ok (.invokevirtual 116, 3) := zD (q := (168, .invokevirtual 116, 3)) tx_md_make_1 31 rfl
theorem d_md_make_171 : decode prog_10_method_32_code 171 = .ok (.iload_n 2, 1) := zD (q := (171, .iload_n 2, 1)) tx_md_make_1 32 rfl
theorem d_md_make_172 : decode prog_10_method_32_code 172 = .ok (.ireturn, 1) := zD (q := (172, .ireturn, 1)) tx_md_make_1 33 rfl
def T_md_search_0 : List (Nat × Instr × Nat) := [(0, .aload_n 0, 1), (1, .getfield 7, 3), (4, .iconst 2, 1), (5, .irem, 1), (6, .ifCond .ne 12, 3), (9, .aload_n 0, 1), (10, .getfield 7, 3), (13, .iconst 1, 1), (14, .isub, 1), (15, .goto 7, 3), (18, .aload_n 0, 1), (19, .getfield 7, 3), (22, .istore_n 2, 1), (23, .iconst 0, 1), (24, .istore_n 3, 1), (25, .iload_n 3, 1), (26, .sipush 160, 3), (29, .if_icmp .ge 17, 3), (32, .aload_n 0, 1), (33, .getfield 60, 3), (36, .iload_n 3, 1), (37, .bipush (-2), 2), (39, .iastore, 1), (40, .iinc 3 1, 3), (43, .goto (-18), 3), (46, .iconst 0, 1), (47, .istore_n 3, 1), (48, .iconst 0, 1), (49, .istore 4, 2), (51, .aload_n 0, 1), (52, .iconst 0, 1), (53, .iload_n 2, 1), (54, .invokevirtual 167, 3), (57, .istore 5, 2), (59, .iload 5, 2), (61, .ifCond .eq 109, 3), (64, .iload 4, 2), (66, .ifCond .lt 104, 3), (69, .aload_n 0, 1), (70, .getfield 72, 3), (73, .iload 4, 2), (75, .iaload, 1), (76, .ifCond .lt 21, 3), (79, .aload_n 0, 1), (80, .aload_n 0, 1), (81, .getfield 69, 3), (84, .iload 4, 2), (86, .iaload, 1), (87, .aload_n 0, 1), (88, .getfield 66, 3), (91, .iload 4, 2), (93, .iaload, 1), (94, .invokevirtual 170, 3), (97, .aload_n 0, 1), (98, .iload 4, 2), (100, .invokevirtual 173, 3), (103, .istore 6, 2), (105, .aload_n 0, 1), (106, .getfield 72, 3), (109, .iload 4, 2)]
theorem tx_md_search_0 : zdec prog_10_method_31_code T_md_search_0 = true := by decide +kernel
theorem d_md_search_0 : decode prog_10_method_31_code 0 = .ok (.aload_n 0, 1) := zD (q := (0, .aload_n 0, 1)) tx_md_search_0 0 rfl
theorem d_md_search_1 : decode prog_10_method_31_code 1 = .ok (.getfield 7, 3) := zD (q := (1, .getfield 7, 3)) tx_md_search_0 1 rfl
theorem d_md_search_4 : decode prog_10_method_31_code 4 = .ok (.iconst 2, 1) := zD (q := (4, .iconst 2, 1)) tx_md_search_0 2 rfl
theorem d_md_search_5 : decode prog_10_method_31_code 5 = .ok (.irem, 1) := zD (q := (5, .irem, 1)) tx_md_search_0 3 rfl
theorem d_md_search_6 : decode prog_10_method_31_code 6 = .ok (.ifCond .ne 12, 3) := zD (q := (6, .ifCond .ne 12, 3)) tx_md_search_0 4 rfl
theorem d_md_search_9 : decode prog_10_method_31_code 9 = .ok (.aload_n 0, 1) := zD (q := (9, .aload_n 0, 1)) tx_md_search_0 5 rfl
theorem d_md_search_10 : decode prog_10_method_31_code 10 = .ok (.getfield 7, 3) := zD (q := (10, .getfield 7, 3)) tx_md_search_0 6 rfl
theorem d_md_search_13 : decode prog_10_method_31_code 13 = .ok (.iconst 1, 1) := zD (q := (13, .iconst 1, 1)) tx_md_search_0 7 rfl
theorem d_md_search_14 : decode prog_10_method_31_code 14 = .ok (.isub, 1) := zD (q := (14, .isub, 1)) tx_md_search_0 8 rfl
theorem d_md_search_15 : decode prog_10_method_31_code 15 = .ok (.goto 7, 3) := zD (q := (15, .goto 7, 3)) tx_md_search_0 9 rfl
theorem d_md_search_18 : decode prog_10_method_31_code 18 = .ok (.aload_n 0, 1) := zD (q := (18, .aload_n 0, 1)) tx_md_search_0 10 rfl
theorem d_md_search_19 : decode prog_10_method_31_code 19 = .ok (.getfield 7, 3) := zD (q := (19, .getfield 7, 3)) tx_md_search_0 11 rfl
theorem d_md_search_22 : decode prog_10_method_31_code 22 = .ok (.istore_n 2, 1) := zD (q := (22, .istore_n 2, 1)) tx_md_search_0 12 rfl
theorem d_md_search_23 : decode prog_10_method_31_code 23 = .ok (.iconst 0, 1) := zD (q := (23, .iconst 0, 1)) tx_md_search_0 13 rfl
theorem d_md_search_24 : decode prog_10_method_31_code 24 = .ok (.istore_n 3, 1) := zD (q := (24, .istore_n 3, 1)) tx_md_search_0 14 rfl
theorem d_md_search_25 : decode prog_10_method_31_code 25 = .ok (.iload_n 3, 1) := zD (q := (25, .iload_n 3, 1)) tx_md_search_0 15 rfl
theorem d_md_search_26 : decode prog_10_method_31_code 26 = .ok (.sipush 160, 3) := zD (q := (26, .sipush 160, 3)) tx_md_search_0 16 rfl
theorem d_md_search_29 : decode prog_10_method_31_code 29 = .ok (.if_icmp .ge 17, 3) := zD (q := (29, .if_icmp .ge 17, 3)) tx_md_search_0 17 rfl
theorem d_md_search_32 : decode prog_10_method_31_code 32 = .ok (.aload_n 0, 1) := zD (q := (32, .aload_n 0, 1)) tx_md_search_0 18 rfl
theorem d_md_search_33 : decode prog_10_method_31_code 33 = .ok (.getfield 60, 3) := zD (q := (33, .getfield 60, 3)) tx_md_search_0 19 rfl
theorem d_md_search_36 : decode prog_10_method_31_code 36 = .ok (.iload_n 3, 1) := zD (q := (36, .iload_n 3, 1)) tx_md_search_0 20 rfl
theorem d_md_search_37 : decode prog_10_method_31_code 37 = .ok (.bipush (-2), 2) := zD (q := (37, .bipush (-2), 2)) tx_md_search_0 21 rfl
theorem d_md_search_39 : decode prog_10_method_31_code 39 = .ok (.iastore, 1) := zD (q := (39, .iastore, 1)) tx_md_search_0 22 rfl
theorem d_md_search_40 : decode prog_10_method_31_code 40 = .ok (.iinc 3 1, 3) := zD (q := (40, .iinc 3 1, 3)) tx_md_search_0 23 rfl
theorem d_md_search_43 : decode prog_10_method_31_code 43 = .ok (.goto (-18), 3) := zD (q := (43, .goto (-18), 3)) tx_md_search_0 24 rfl
theorem d_md_search_46 : decode prog_10_method_31_code 46 = .ok (.iconst 0, 1) := zD (q := (46, .iconst 0, 1)) tx_md_search_0 25 rfl
theorem d_md_search_47 : decode prog_10_method_31_code 47 = .ok (.istore_n 3, 1) := zD (q := (47, .istore_n 3, 1)) tx_md_search_0 26 rfl
theorem d_md_search_48 : decode prog_10_method_31_code 48 = .ok (.iconst 0, 1) := zD (q := (48, .iconst 0, 1)) tx_md_search_0 27 rfl
theorem d_md_search_49 : decode prog_10_method_31_code 49 = .ok (.istore 4, 2) := zD (q := (49, .istore 4, 2)) tx_md_search_0 28 rfl
theorem d_md_search_51 : decode prog_10_method_31_code 51 = .ok (.aload_n 0, 1) := zD (q := (51, .aload_n 0, 1)) tx_md_search_0 29 rfl
theorem d_md_search_52 : decode prog_10_method_31_code 52 = .ok (.iconst 0, 1) := zD (q := (52, .iconst 0, 1)) tx_md_search_0 30 rfl
theorem d_md_search_53 : decode prog_10_method_31_code 53 = .ok (.iload_n 2, 1) := zD (q := (53, .iload_n 2, 1)) tx_md_search_0 31 rfl
theorem d_md_search_54 : decode prog_10_method_31_code 54 = .ok (.invokevirtual 167, 3) := zD (q := (54, .invokevirtual 167, 3)) tx_md_search_0 32 rfl
theorem d_md_search_57 : decode prog_10_method_31_code 57 = .ok (.istore 5, 2) := zD (q := (57, .istore 5, 2)) tx_md_search_0 33 rfl
theorem d_md_search_59 : decode prog_10_method_31_code 59 = .ok (.iload 5, 2) := zD (q := (59, .iload 5, 2)) tx_md_search_0 34 rfl
theorem d_md_search_61 : decode prog_10_method_31_code 61 = .ok (.ifCond .eq 109, 3) := zD (q := (61, .ifCond .eq 109, 3)) tx_md_search_0 35 rfl
theorem d_md_search_64 : decode prog_10_method_31_code 64 = .ok (.iload 4, 2) := zD (q := (64, .iload 4, 2)) tx_md_search_0 36 rfl
theorem d_md_search_66 : decode prog_10_method_31_code 66 = .ok (.ifCond .lt 104, 3) := zD (q := (66, .ifCond .lt 104, 3)) tx_md_search_0 37 rfl
theorem d_md_search_69 : decode prog_10_method_31_code 69 = .ok (.aload_n 0, 1) := zD (q := (69, .aload_n 0, 1)) tx_md_search_0 38 rfl
theorem d_md_search_70 : decode prog_10_method_31_code 70 = .ok (.getfield 72, 3) := zD (q := (70, .getfield 72, 3)) tx_md_search_0 39 rfl
theorem d_md_search_73 : decode prog_10_method_31_code 73 = .ok (.iload 4, 2) := zD (q := (73, .iload 4, 2)) tx_md_search_0 40 rfl
theorem d_md_search_75 : decode prog_10_method_31_code 75 = .ok (.iaload, 1) := zD (q := (75, .iaload, 1)) tx_md_search_0 41 rfl
theorem d_md_search_76 : decode prog_10_method_31_code 76 = .ok (.ifCond .lt 21, 3) := zD (q := (76, .ifCond .lt 21, 3)) tx_md_search_0 42 rfl
theorem d_md_search_79 : decode prog_10_method_31_code 79 = .ok (.aload_n 0, 1) := zD (q := (79, .aload_n 0, 1)) tx_md_search_0 43 rfl
theorem d_md_search_80 : decode prog_10_method_31_code 80 = .ok (.aload_n 0, 1) := zD (q := (80, .aload_n 0, 1)) tx_md_search_0 44 rfl
theorem d_md_search_81 : decode prog_10_method_31_code 81 = .ok (.getfield 69, 3) := zD (q := (81, .getfield 69, 3)) tx_md_search_0 45 rfl
theorem d_md_search_84 : decode prog_10_method_31_code 84 = .ok (.iload 4, 2) := zD (q := (84, .iload 4, 2)) tx_md_search_0 46 rfl
theorem d_md_search_86 : decode prog_10_method_31_code 86 = .ok (.iaload, 1) := zD (q := (86, .iaload, 1)) tx_md_search_0 47 rfl
theorem d_md_search_87 : decode prog_10_method_31_code 87 = .ok (.aload_n 0, 1) := zD (q := (87, .aload_n 0, 1)) tx_md_search_0 48 rfl
theorem d_md_search_88 : decode prog_10_method_31_code 88 = .ok (.getfield 66, 3) := zD (q := (88, .getfield 66, 3)) tx_md_search_0 49 rfl
theorem d_md_search_91 : decode prog_10_method_31_code 91 = .ok (.iload 4, 2) := zD (q := (91, .iload 4, 2)) tx_md_search_0 50 rfl
theorem d_md_search_93 : decode prog_10_method_31_code 93 = .ok (.iaload, 1) := zD (q := (93, .iaload, 1)) tx_md_search_0 51 rfl
theorem d_md_search_94 : decode prog_10_method_31_code 94 = .ok (.invokevirtual 170, 3) := zD (q := (94, .invokevirtual 170, 3)) tx_md_search_0 52 rfl
theorem d_md_search_97 : decode prog_10_method_31_code 97 = .ok (.aload_n 0, 1) := zD (q := (97, .aload_n 0, 1)) tx_md_search_0 53 rfl
theorem d_md_search_98 : decode prog_10_method_31_code 98 = .ok (.iload 4, 2) := zD (q := (98, .iload 4, 2)) tx_md_search_0 54 rfl
theorem d_md_search_100 : decode prog_10_method_31_code 100 = .ok (.invokevirtual 173, 3) := zD (q := (100, .invokevirtual 173, 3)) tx_md_search_0 55 rfl
theorem d_md_search_103 : decode prog_10_method_31_code 103 = .ok (.istore 6, 2) := zD (q := (103, .istore 6, 2)) tx_md_search_0 56 rfl
theorem d_md_search_105 : decode prog_10_method_31_code 105 = .ok (.aload_n 0, 1) := zD (q := (105, .aload_n 0, 1)) tx_md_search_0 57 rfl
theorem d_md_search_106 : decode prog_10_method_31_code 106 = .ok (.getfield 72, 3) := zD (q := (106, .getfield 72, 3)) tx_md_search_0 58 rfl
theorem d_md_search_109 : decode prog_10_method_31_code 109 = .ok (.iload 4, 2) := zD (q := (109, .iload 4, 2)) tx_md_search_0 59 rfl
def T_md_search_1 : List (Nat × Instr × Nat) := [(111, .iload 6, 2), (113, .iastore, 1), (114, .iload 6, 2), (116, .ifCond .ge 9, 3), (119, .iinc 4 (-1), 3), (122, .goto 45, 3), (125, .iload_n 3, 1), (126, .iload_n 1, 1), (127, .if_icmp .ne 5, 3), (130, .iconst 2, 1), (131, .ireturn, 1), (132, .iinc 3 1, 3), (135, .aload_n 0, 1), (136, .aload_n 0, 1), (137, .getfield 69, 3), (140, .iload 4, 2), (142, .iaload, 1), (143, .aload_n 0, 1), (144, .getfield 66, 3), (147, .iload 4, 2), (149, .iaload, 1), (150, .iload 6, 2), (152, .invokevirtual 176, 3), (155, .iinc 4 1, 3), (158, .aload_n 0, 1), (159, .iload 4, 2), (161, .iload_n 2, 1), (162, .invokevirtual 167, 3), (165, .istore 5, 2), (167, .goto (-108), 3), (170, .iload 4, 2), (172, .ifCond .ge 7, 3), (175, .iconst 0, 1), (176, .goto 4, 3), (179, .iconst 1, 1), (180, .ireturn, 1)]
theorem tx_md_search_1 : zdec prog_10_method_31_code T_md_search_1 = true := by decide +kernel
theorem d_md_search_111 : decode prog_10_method_31_code 111 = .ok (.iload 6, 2) := zD (q := (111, .iload 6, 2)) tx_md_search_1 0 rfl
theorem d_md_search_113 : decode prog_10_method_31_code 113 = .ok (.iastore, 1) := zD (q := (113, .iastore, 1)) tx_md_search_1 1 rfl
theorem d_md_search_114 : decode prog_10_method_31_code 114 = .ok (.iload 6, 2) := zD (q := (114, .iload 6, 2)) tx_md_search_1 2 rfl
theorem d_md_search_116 : decode prog_10_method_31_code 116 = .ok (.ifCond .ge 9, 3) := zD (q := (116, .ifCond .ge 9, 3)) tx_md_search_1 3 rfl
theorem d_md_search_119 : decode prog_10_method_31_code 119 = .ok (.iinc 4 (-1), 3) := zD (q := (119, .iinc 4 (-1), 3)) tx_md_search_1 4 rfl
theorem d_md_search_122 : decode prog_10_method_31_code 122 = .ok (.goto 45, 3) := zD (q := (122, .goto 45, 3)) tx_md_search_1 5 rfl
theorem d_md_search_125 : decode prog_10_method_31_code 125 = .ok (.iload_n 3, 1) := zD (q := (125, .iload_n 3, 1)) tx_md_search_1 6 rfl
theorem d_md_search_126 : decode prog_10_method_31_code 126 = .ok (.iload_n 1, 1) := zD (q := (126, .iload_n 1, 1)) tx_md_search_1 7 rfl
theorem d_md_search_127 : decode prog_10_method_31_code 127 = .ok (.if_icmp .ne 5, 3) := zD (q := (127, .if_icmp .ne 5, 3)) tx_md_search_1 8 rfl
theorem d_md_search_130 : decode prog_10_method_31_code 130 = .ok (.iconst 2, 1) := zD (q := (130, .iconst 2, 1)) tx_md_search_1 9 rfl
theorem d_md_search_131 : decode prog_10_method_31_code 131 = .ok (.ireturn, 1) := zD (q := (131, .ireturn, 1)) tx_md_search_1 10 rfl
theorem d_md_search_132 : decode prog_10_method_31_code 132 = .ok (.iinc 3 1, 3) := zD (q := (132, .iinc 3 1, 3)) tx_md_search_1 11 rfl
theorem d_md_search_135 : decode prog_10_method_31_code 135 = .ok (.aload_n 0, 1) := zD (q := (135, .aload_n 0, 1)) tx_md_search_1 12 rfl
theorem d_md_search_136 : decode prog_10_method_31_code 136 = .ok (.aload_n 0, 1) := zD (q := (136, .aload_n 0, 1)) tx_md_search_1 13 rfl
theorem d_md_search_137 : decode prog_10_method_31_code 137 = .ok (.getfield 69, 3) := zD (q := (137, .getfield 69, 3)) tx_md_search_1 14 rfl
theorem d_md_search_140 : decode prog_10_method_31_code 140 = .ok (.iload 4, 2) := zD (q := (140, .iload 4, 2)) tx_md_search_1 15 rfl
theorem d_md_search_142 : decode prog_10_method_31_code 142 = .ok (.iaload, 1) := zD (q := (142, .iaload, 1)) tx_md_search_1 16 rfl
theorem d_md_search_143 : decode prog_10_method_31_code 143 = .ok (.aload_n 0, 1) := zD (q := (143, .aload_n 0, 1)) tx_md_search_1 17 rfl
theorem d_md_search_144 : decode prog_10_method_31_code 144 = .ok (.getfield 66, 3) := zD (q := (144, .getfield 66, 3)) tx_md_search_1 18 rfl
theorem d_md_search_147 : decode prog_10_method_31_code 147 = .ok (.iload 4, 2) := zD (q := (147, .iload 4, 2)) tx_md_search_1 19 rfl
theorem d_md_search_149 : decode prog_10_method_31_code 149 = .ok (.iaload, 1) := zD (q := (149, .iaload, 1)) tx_md_search_1 20 rfl
theorem d_md_search_150 : decode prog_10_method_31_code 150 = .ok (.iload 6, 2) := zD (q := (150, .iload 6, 2)) tx_md_search_1 21 rfl
theorem d_md_search_152 : decode prog_10_method_31_code 152 = .ok (.invokevirtual 176, 3) := zD (q := (152, .invokevirtual 176, 3)) tx_md_search_1 22 rfl
theorem d_md_search_155 : decode prog_10_method_31_code 155 = .ok (.iinc 4 1, 3) := zD (q := (155, .iinc 4 1, 3)) tx_md_search_1 23 rfl
theorem d_md_search_158 : decode prog_10_method_31_code 158 = .ok (.aload_n 0, 1) := zD (q := (158, .aload_n 0, 1)) tx_md_search_1 24 rfl
theorem d_md_search_159 : decode prog_10_method_31_code 159 = .ok (.iload 4, 2) := zD (q := (159, .iload 4, 2)) tx_md_search_1 25 rfl
theorem d_md_search_161 : decode prog_10_method_31_code 161 = .ok (.iload_n 2, 1) := zD (q := (161, .iload_n 2, 1)) tx_md_search_1 26 rfl
theorem d_md_search_162 : decode prog_10_method_31_code 162 = .ok (.invokevirtual 167, 3) := zD (q := (162, .invokevirtual 167, 3)) tx_md_search_1 27 rfl
theorem d_md_search_165 : decode prog_10_method_31_code 165 = .ok (.istore 5, 2) := zD (q := (165, .istore 5, 2)) tx_md_search_1 28 rfl
theorem d_md_search_167 : decode prog_10_method_31_code 167 = .ok (.goto (-108), 3) := zD (q := (167, .goto (-108), 3)) tx_md_search_1 29 rfl
theorem d_md_search_170 : decode prog_10_method_31_code 170 = .ok (.iload 4, 2) := zD (q := (170, .iload 4, 2)) tx_md_search_1 30 rfl
theorem d_md_search_172 : decode prog_10_method_31_code 172 = .ok (.ifCond .ge 7, 3) := zD (q := (172, .ifCond .ge 7, 3)) tx_md_search_1 31 rfl
theorem d_md_search_175 : decode prog_10_method_31_code 175 = .ok (.iconst 0, 1) := zD (q := (175, .iconst 0, 1)) tx_md_search_1 32 rfl
theorem d_md_search_176 : decode prog_10_method_31_code 176 = .ok (.goto 4, 3) := zD (q := (176, .goto 4, 3)) tx_md_search_1 33 rfl
theorem d_md_search_179 : decode prog_10_method_31_code 179 = .ok (.iconst 1, 1) := zD (q := (179, .iconst 1, 1)) tx_md_search_1 34 rfl
theorem d_md_search_180 : decode prog_10_method_31_code 180 = .ok (.ireturn, 1) := zD (q := (180, .ireturn, 1)) tx_md_search_1 35 rfl
def T_md_begin_0 : List (Nat × Instr × Nat) := [(0, .iload_n 1, 1), (1, .ifCond .ne 7, 3), (4, .iconst 0, 1), (5, .goto 11, 3), (8, .aload_n 0, 1), (9, .getfield 66, 3), (12, .iload_n 1, 1), (13, .iconst 1, 1), (14, .isub, 1), (15, .iaload, 1), (16, .istore_n 3, 1), (17, .aload_n 0, 1), (18, .iload_n 3, 1), (19, .invokevirtual 160, 3), (22, .ifCond .ge 6, 3), (25, .iinc 3 1, 3), (28, .iload_n 3, 1), (29, .iload_n 2, 1), (30, .if_icmp .ne 5, 3), (33, .iconst 0, 1), (34, .ireturn, 1), (35, .aload_n 0, 1), (36, .getfield 66, 3), (39, .iload_n 1, 1), (40, .iload_n 3, 1), (41, .iastore, 1), (42, .aload_n 0, 1), (43, .getfield 69, 3), (46, .iload_n 1, 1), (47, .aload_n 0, 1), (48, .iload_n 3, 1), (49, .invokevirtual 160, 3), (52, .iastore, 1), (53, .aload_n 0, 1), (54, .getfield 72, 3), (57, .iload_n 1, 1), (58, .iconst (-1), 1), (59, .iastore, 1), (60, .iconst 1, 1), (61, .ireturn, 1)]
theorem tx_md_begin_0 : zdec prog_10_method_29_code T_md_begin_0 = true := by decide +kernel
theorem d_md_begin_0 : decode prog_10_method_29_code 0 = .ok (.iload_n 1, 1) := zD (q := (0, .iload_n 1, 1)) tx_md_begin_0 0 rfl
theorem d_md_begin_1 : decode prog_10_method_29_code 1 = .ok (.ifCond .ne 7, 3) := zD (q := (1, .ifCond .ne 7, 3)) tx_md_begin_0 1 rfl
theorem d_md_begin_4 : decode prog_10_method_29_code 4 = .ok (.iconst 0, 1) := zD (q := (4, .iconst 0, 1)) tx_md_begin_0 2 rfl
theorem d_md_begin_5 : decode prog_10_method_29_code 5 = .ok (.goto 11, 3) := zD (q := (5, .goto 11, 3)) tx_md_begin_0 3 rfl
theorem d_md_begin_8 : decode prog_10_method_29_code 8 = .ok (.aload_n 0, 1) := zD (q := (8, .aload_n 0, 1)) tx_md_begin_0 4 rfl
theorem d_md_begin_9 : decode prog_10_method_29_code 9 = .ok (.getfield 66, 3) := zD (q := (9, .getfield 66, 3)) tx_md_begin_0 5 rfl
theorem d_md_begin_12 : decode prog_10_method_29_code 12 = .ok (.iload_n 1, 1) := zD (q := (12, .iload_n 1, 1)) tx_md_begin_0 6 rfl
theorem d_md_begin_13 : decode prog_10_method_29_code 13 = .ok (.iconst 1, 1) := zD (q := (13, .iconst 1, 1)) tx_md_begin_0 7 rfl
theorem d_md_begin_14 : decode prog_10_method_29_code 14 = .ok (.isub, 1) := zD (q := (14, .isub, 1)) tx_md_begin_0 8 rfl
theorem d_md_begin_15 : decode prog_10_method_29_code 15 = .ok (.iaload, 1) := zD (q := (15, .iaload, 1)) tx_md_begin_0 9 rfl
theorem d_md_begin_16 : decode prog_10_method_29_code 16 = .ok (.istore_n 3, 1) := zD (q := (16, .istore_n 3, 1)) tx_md_begin_0 10 rfl
theorem d_md_begin_17 : decode prog_10_method_29_code 17 = .ok (.aload_n 0, 1) := zD (q := (17, .aload_n 0, 1)) tx_md_begin_0 11 rfl
theorem d_md_begin_18 : decode prog_10_method_29_code 18 = .ok (.iload_n 3, 1) := zD (q := (18, .iload_n 3, 1)) tx_md_begin_0 12 rfl
theorem d_md_begin_19 : decode prog_10_method_29_code 19 = .ok (.invokevirtual 160, 3) := zD (q := (19, .invokevirtual 160, 3)) tx_md_begin_0 13 rfl
theorem d_md_begin_22 : decode prog_10_method_29_code 22 = .ok (.ifCond .ge 6, 3) := zD (q := (22, .ifCond .ge 6, 3)) tx_md_begin_0 14 rfl
theorem d_md_begin_25 : decode prog_10_method_29_code 25 = .ok (.iinc 3 1, 3) := zD (q := (25, .iinc 3 1, 3)) tx_md_begin_0 15 rfl
theorem d_md_begin_28 : decode prog_10_method_29_code 28 = .ok (.iload_n 3, 1) := zD (q := (28, .iload_n 3, 1)) tx_md_begin_0 16 rfl
theorem d_md_begin_29 : decode prog_10_method_29_code 29 = .ok (.iload_n 2, 1) := zD (q := (29, .iload_n 2, 1)) tx_md_begin_0 17 rfl
theorem d_md_begin_30 : decode prog_10_method_29_code 30 = .ok (.if_icmp .ne 5, 3) := zD (q := (30, .if_icmp .ne 5, 3)) tx_md_begin_0 18 rfl
theorem d_md_begin_33 : decode prog_10_method_29_code 33 = .ok (.iconst 0, 1) := zD (q := (33, .iconst 0, 1)) tx_md_begin_0 19 rfl
theorem d_md_begin_34 : decode prog_10_method_29_code 34 = .ok (.ireturn, 1) := zD (q := (34, .ireturn, 1)) tx_md_begin_0 20 rfl
theorem d_md_begin_35 : decode prog_10_method_29_code 35 = .ok (.aload_n 0, 1) := zD (q := (35, .aload_n 0, 1)) tx_md_begin_0 21 rfl
theorem d_md_begin_36 : decode prog_10_method_29_code 36 = .ok (.getfield 66, 3) := zD (q := (36, .getfield 66, 3)) tx_md_begin_0 22 rfl
theorem d_md_begin_39 : decode prog_10_method_29_code 39 = .ok (.iload_n 1, 1) := zD (q := (39, .iload_n 1, 1)) tx_md_begin_0 23 rfl
theorem d_md_begin_40 : decode prog_10_method_29_code 40 = .ok (.iload_n 3, 1) := zD (q := (40, .iload_n 3, 1)) tx_md_begin_0 24 rfl
theorem d_md_begin_41 : decode prog_10_method_29_code 41 = .ok (.iastore, 1) := zD (q := (41, .iastore, 1)) tx_md_begin_0 25 rfl
theorem d_md_begin_42 : decode prog_10_method_29_code 42 = .ok (.aload_n 0, 1) := zD (q := (42, .aload_n 0, 1)) tx_md_begin_0 26 rfl
theorem d_md_begin_43 : decode prog_10_method_29_code 43 = .ok (.getfield 69, 3) := zD (q := (43, .getfield 69, 3)) tx_md_begin_0 27 rfl
theorem d_md_begin_46 : decode prog_10_method_29_code 46 = .ok (.iload_n 1, 1) := zD (q := (46, .iload_n 1, 1)) tx_md_begin_0 28 rfl
theorem d_md_begin_47 : decode prog_10_method_29_code 47 = .ok (.aload_n 0, 1) := zD (q := (47, .aload_n 0, 1)) tx_md_begin_0 29 rfl
theorem d_md_begin_48 : decode prog_10_method_29_code 48 = .ok (.iload_n 3, 1) := zD (q := (48, .iload_n 3, 1)) tx_md_begin_0 30 rfl
theorem d_md_begin_49 : decode prog_10_method_29_code 49 = .ok (.invokevirtual 160, 3) := zD (q := (49, .invokevirtual 160, 3)) tx_md_begin_0 31 rfl
theorem d_md_begin_52 : decode prog_10_method_29_code 52 = .ok (.iastore, 1) := zD (q := (52, .iastore, 1)) tx_md_begin_0 32 rfl
theorem d_md_begin_53 : decode prog_10_method_29_code 53 = .ok (.aload_n 0, 1) := zD (q := (53, .aload_n 0, 1)) tx_md_begin_0 33 rfl
theorem d_md_begin_54 : decode prog_10_method_29_code 54 = .ok (.getfield 72, 3) := zD (q := (54, .getfield 72, 3)) tx_md_begin_0 34 rfl
theorem d_md_begin_57 : decode prog_10_method_29_code 57 = .ok (.iload_n 1, 1) := zD (q := (57, .iload_n 1, 1)) tx_md_begin_0 35 rfl
theorem d_md_begin_58 : decode prog_10_method_29_code 58 = .ok (.iconst (-1), 1) := zD (q := (58, .iconst (-1), 1)) tx_md_begin_0 36 rfl
theorem d_md_begin_59 : decode prog_10_method_29_code 59 = .ok (.iastore, 1) := zD (q := (59, .iastore, 1)) tx_md_begin_0 37 rfl
theorem d_md_begin_60 : decode prog_10_method_29_code 60 = .ok (.iconst 1, 1) := zD (q := (60, .iconst 1, 1)) tx_md_begin_0 38 rfl
theorem d_md_begin_61 : decode prog_10_method_29_code 61 = .ok (.ireturn, 1) := zD (q := (61, .ireturn, 1)) tx_md_begin_0 39 rfl
def T_md_firstOpen_0 : List (Nat × Instr × Nat) := [(0, .iconst (-1), 1), (1, .istore_n 2, 1), (2, .aload_n 0, 1), (3, .getfield 7, 3), (6, .iconst 1, 1), (7, .isub, 1), (8, .istore_n 3, 1), (9, .iload_n 3, 1), (10, .ifCond .lt 31, 3), (13, .aload_n 0, 1), (14, .getfield 60, 3), (17, .bipush 20, 2), (19, .iload_n 1, 1), (20, .imul, 1), (21, .iload_n 3, 1), (22, .iadd, 1), (23, .iaload, 1), (24, .bipush (-2), 2), (26, .if_icmp .ne 7, 3), (29, .iload_n 3, 1), (30, .goto 4, 3), (33, .iload_n 2, 1), (34, .istore_n 2, 1), (35, .iinc 3 (-1), 3), (38, .goto (-29), 3), (41, .iload_n 2, 1), (42, .ireturn, 1)]
theorem tx_md_firstOpen_0 : zdec prog_10_method_28_code T_md_firstOpen_0 = true := by decide +kernel
theorem d_md_firstOpen_0 : decode prog_10_method_28_code 0 = .ok (.iconst (-1), 1) := zD (q := (0, .iconst (-1), 1)) tx_md_firstOpen_0 0 rfl
theorem d_md_firstOpen_1 : decode prog_10_method_28_code 1 = .ok (.istore_n 2, 1) := zD (q := (1, .istore_n 2, 1)) tx_md_firstOpen_0 1 rfl
theorem d_md_firstOpen_2 : decode prog_10_method_28_code 2 = .ok (.aload_n 0, 1) := zD (q := (2, .aload_n 0, 1)) tx_md_firstOpen_0 2 rfl
theorem d_md_firstOpen_3 : decode prog_10_method_28_code 3 = .ok (.getfield 7, 3) := zD (q := (3, .getfield 7, 3)) tx_md_firstOpen_0 3 rfl
theorem d_md_firstOpen_6 : decode prog_10_method_28_code 6 = .ok (.iconst 1, 1) := zD (q := (6, .iconst 1, 1)) tx_md_firstOpen_0 4 rfl
theorem d_md_firstOpen_7 : decode prog_10_method_28_code 7 = .ok (.isub, 1) := zD (q := (7, .isub, 1)) tx_md_firstOpen_0 5 rfl
theorem d_md_firstOpen_8 : decode prog_10_method_28_code 8 = .ok (.istore_n 3, 1) := zD (q := (8, .istore_n 3, 1)) tx_md_firstOpen_0 6 rfl
theorem d_md_firstOpen_9 : decode prog_10_method_28_code 9 = .ok (.iload_n 3, 1) := zD (q := (9, .iload_n 3, 1)) tx_md_firstOpen_0 7 rfl
theorem d_md_firstOpen_10 : decode prog_10_method_28_code 10 = .ok (.ifCond .lt 31, 3) := zD (q := (10, .ifCond .lt 31, 3)) tx_md_firstOpen_0 8 rfl
theorem d_md_firstOpen_13 : decode prog_10_method_28_code 13 = .ok (.aload_n 0, 1) := zD (q := (13, .aload_n 0, 1)) tx_md_firstOpen_0 9 rfl
theorem d_md_firstOpen_14 : decode prog_10_method_28_code 14 = .ok (.getfield 60, 3) := zD (q := (14, .getfield 60, 3)) tx_md_firstOpen_0 10 rfl
theorem d_md_firstOpen_17 : decode prog_10_method_28_code 17 = .ok (.bipush 20, 2) := zD (q := (17, .bipush 20, 2)) tx_md_firstOpen_0 11 rfl
theorem d_md_firstOpen_19 : decode prog_10_method_28_code 19 = .ok (.iload_n 1, 1) := zD (q := (19, .iload_n 1, 1)) tx_md_firstOpen_0 12 rfl
theorem d_md_firstOpen_20 : decode prog_10_method_28_code 20 = .ok (.imul, 1) := zD (q := (20, .imul, 1)) tx_md_firstOpen_0 13 rfl
theorem d_md_firstOpen_21 : decode prog_10_method_28_code 21 = .ok (.iload_n 3, 1) := zD (q := (21, .iload_n 3, 1)) tx_md_firstOpen_0 14 rfl
theorem d_md_firstOpen_22 : decode prog_10_method_28_code 22 = .ok (.iadd, 1) := zD (q := (22, .iadd, 1)) tx_md_firstOpen_0 15 rfl
theorem d_md_firstOpen_23 : decode prog_10_method_28_code 23 = .ok (.iaload, 1) := zD (q := (23, .iaload, 1)) tx_md_firstOpen_0 16 rfl
theorem d_md_firstOpen_24 : decode prog_10_method_28_code 24 = .ok (.bipush (-2), 2) := zD (q := (24, .bipush (-2), 2)) tx_md_firstOpen_0 17 rfl
theorem d_md_firstOpen_26 : decode prog_10_method_28_code 26 = .ok (.if_icmp .ne 7, 3) := zD (q := (26, .if_icmp .ne 7, 3)) tx_md_firstOpen_0 18 rfl
theorem d_md_firstOpen_29 : decode prog_10_method_28_code 29 = .ok (.iload_n 3, 1) := zD (q := (29, .iload_n 3, 1)) tx_md_firstOpen_0 19 rfl
theorem d_md_firstOpen_30 : decode prog_10_method_28_code 30 = .ok (.goto 4, 3) := zD (q := (30, .goto 4, 3)) tx_md_firstOpen_0 20 rfl
theorem d_md_firstOpen_33 : decode prog_10_method_28_code 33 = .ok (.iload_n 2, 1) := zD (q := (33, .iload_n 2, 1)) tx_md_firstOpen_0 21 rfl
theorem d_md_firstOpen_34 : decode prog_10_method_28_code 34 = .ok (.istore_n 2, 1) := zD (q := (34, .istore_n 2, 1)) tx_md_firstOpen_0 22 rfl
theorem d_md_firstOpen_35 : decode prog_10_method_28_code 35 = .ok (.iinc 3 (-1), 3) := zD (q := (35, .iinc 3 (-1), 3)) tx_md_firstOpen_0 23 rfl
theorem d_md_firstOpen_38 : decode prog_10_method_28_code 38 = .ok (.goto (-29), 3) := zD (q := (38, .goto (-29), 3)) tx_md_firstOpen_0 24 rfl
theorem d_md_firstOpen_41 : decode prog_10_method_28_code 41 = .ok (.iload_n 2, 1) := zD (q := (41, .iload_n 2, 1)) tx_md_firstOpen_0 25 rfl
theorem d_md_firstOpen_42 : decode prog_10_method_28_code 42 = .ok (.ireturn, 1) := zD (q := (42, .ireturn, 1)) tx_md_firstOpen_0 26 rfl
def T_md_takeBack_0 : List (Nat × Instr × Nat) := [(0, .aload_n 0, 1), (1, .getfield 60, 3), (4, .bipush 20, 2), (6, .iload_n 2, 1), (7, .imul, 1), (8, .iload_n 1, 1), (9, .iadd, 1), (10, .iaload, 1), (11, .istore_n 3, 1), (12, .aload_n 0, 1), (13, .getfield 60, 3), (16, .bipush 20, 2), (18, .iload_n 2, 1), (19, .imul, 1), (20, .iload_n 1, 1), (21, .iadd, 1), (22, .bipush (-2), 2), (24, .iastore, 1), (25, .iload_n 3, 1), (26, .ifCond .lt 16, 3), (29, .aload_n 0, 1), (30, .getfield 60, 3), (33, .bipush 20, 2), (35, .iload_n 2, 1), (36, .imul, 1), (37, .iload_n 3, 1), (38, .iadd, 1), (39, .bipush (-2), 2), (41, .iastore, 1), (42, .return_, 1)]
theorem tx_md_takeBack_0 : zdec prog_10_method_27_code T_md_takeBack_0 = true := by decide +kernel
theorem d_md_takeBack_0 : decode prog_10_method_27_code 0 = .ok (.aload_n 0, 1) := zD (q := (0, .aload_n 0, 1)) tx_md_takeBack_0 0 rfl
theorem d_md_takeBack_1 : decode prog_10_method_27_code 1 = .ok (.getfield 60, 3) := zD (q := (1, .getfield 60, 3)) tx_md_takeBack_0 1 rfl
theorem d_md_takeBack_4 : decode prog_10_method_27_code 4 = .ok (.bipush 20, 2) := zD (q := (4, .bipush 20, 2)) tx_md_takeBack_0 2 rfl
theorem d_md_takeBack_6 : decode prog_10_method_27_code 6 = .ok (.iload_n 2, 1) := zD (q := (6, .iload_n 2, 1)) tx_md_takeBack_0 3 rfl
theorem d_md_takeBack_7 : decode prog_10_method_27_code 7 = .ok (.imul, 1) := zD (q := (7, .imul, 1)) tx_md_takeBack_0 4 rfl
theorem d_md_takeBack_8 : decode prog_10_method_27_code 8 = .ok (.iload_n 1, 1) := zD (q := (8, .iload_n 1, 1)) tx_md_takeBack_0 5 rfl
theorem d_md_takeBack_9 : decode prog_10_method_27_code 9 = .ok (.iadd, 1) := zD (q := (9, .iadd, 1)) tx_md_takeBack_0 6 rfl
theorem d_md_takeBack_10 : decode prog_10_method_27_code 10 = .ok (.iaload, 1) := zD (q := (10, .iaload, 1)) tx_md_takeBack_0 7 rfl
theorem d_md_takeBack_11 : decode prog_10_method_27_code 11 = .ok (.istore_n 3, 1) := zD (q := (11, .istore_n 3, 1)) tx_md_takeBack_0 8 rfl
theorem d_md_takeBack_12 : decode prog_10_method_27_code 12 = .ok (.aload_n 0, 1) := zD (q := (12, .aload_n 0, 1)) tx_md_takeBack_0 9 rfl
theorem d_md_takeBack_13 : decode prog_10_method_27_code 13 = .ok (.getfield 60, 3) := zD (q := (13, .getfield 60, 3)) tx_md_takeBack_0 10 rfl
theorem d_md_takeBack_16 : decode prog_10_method_27_code 16 = .ok (.bipush 20, 2) := zD (q := (16, .bipush 20, 2)) tx_md_takeBack_0 11 rfl
theorem d_md_takeBack_18 : decode prog_10_method_27_code 18 = .ok (.iload_n 2, 1) := zD (q := (18, .iload_n 2, 1)) tx_md_takeBack_0 12 rfl
theorem d_md_takeBack_19 : decode prog_10_method_27_code 19 = .ok (.imul, 1) := zD (q := (19, .imul, 1)) tx_md_takeBack_0 13 rfl
theorem d_md_takeBack_20 : decode prog_10_method_27_code 20 = .ok (.iload_n 1, 1) := zD (q := (20, .iload_n 1, 1)) tx_md_takeBack_0 14 rfl
theorem d_md_takeBack_21 : decode prog_10_method_27_code 21 = .ok (.iadd, 1) := zD (q := (21, .iadd, 1)) tx_md_takeBack_0 15 rfl
theorem d_md_takeBack_22 : decode prog_10_method_27_code 22 = .ok (.bipush (-2), 2) := zD (q := (22, .bipush (-2), 2)) tx_md_takeBack_0 16 rfl
theorem d_md_takeBack_24 : decode prog_10_method_27_code 24 = .ok (.iastore, 1) := zD (q := (24, .iastore, 1)) tx_md_takeBack_0 17 rfl
theorem d_md_takeBack_25 : decode prog_10_method_27_code 25 = .ok (.iload_n 3, 1) := zD (q := (25, .iload_n 3, 1)) tx_md_takeBack_0 18 rfl
theorem d_md_takeBack_26 : decode prog_10_method_27_code 26 = .ok (.ifCond .lt 16, 3) := zD (q := (26, .ifCond .lt 16, 3)) tx_md_takeBack_0 19 rfl
theorem d_md_takeBack_29 : decode prog_10_method_27_code 29 = .ok (.aload_n 0, 1) := zD (q := (29, .aload_n 0, 1)) tx_md_takeBack_0 20 rfl
theorem d_md_takeBack_30 : decode prog_10_method_27_code 30 = .ok (.getfield 60, 3) := zD (q := (30, .getfield 60, 3)) tx_md_takeBack_0 21 rfl
theorem d_md_takeBack_33 : decode prog_10_method_27_code 33 = .ok (.bipush 20, 2) := zD (q := (33, .bipush 20, 2)) tx_md_takeBack_0 22 rfl
theorem d_md_takeBack_35 : decode prog_10_method_27_code 35 = .ok (.iload_n 2, 1) := zD (q := (35, .iload_n 2, 1)) tx_md_takeBack_0 23 rfl
theorem d_md_takeBack_36 : decode prog_10_method_27_code 36 = .ok (.imul, 1) := zD (q := (36, .imul, 1)) tx_md_takeBack_0 24 rfl
theorem d_md_takeBack_37 : decode prog_10_method_27_code 37 = .ok (.iload_n 3, 1) := zD (q := (37, .iload_n 3, 1)) tx_md_takeBack_0 25 rfl
theorem d_md_takeBack_38 : decode prog_10_method_27_code 38 = .ok (.iadd, 1) := zD (q := (38, .iadd, 1)) tx_md_takeBack_0 26 rfl
theorem d_md_takeBack_39 : decode prog_10_method_27_code 39 = .ok (.bipush (-2), 2) := zD (q := (39, .bipush (-2), 2)) tx_md_takeBack_0 27 rfl
theorem d_md_takeBack_41 : decode prog_10_method_27_code 41 = .ok (.iastore, 1) := zD (q := (41, .iastore, 1)) tx_md_takeBack_0 28 rfl
theorem d_md_takeBack_42 : decode prog_10_method_27_code 42 = .ok (.return_, 1) := zD (q := (42, .return_, 1)) tx_md_takeBack_0 29 rfl
def T_md_nextChoice_0 : List (Nat × Instr × Nat) := [(0, .aload_n 0, 1), (1, .getfield 72, 3), (4, .iload_n 1, 1), (5, .iaload, 1), (6, .iconst 1, 1), (7, .iadd, 1), (8, .istore_n 2, 1), (9, .iload_n 2, 1), (10, .iconst 2, 1), (11, .aload_n 0, 1), (12, .getfield 7, 3), (15, .imul, 1), (16, .if_icmp .gt 29, 3), (19, .aload_n 0, 1), (20, .aload_n 0, 1), (21, .getfield 69, 3), (24, .iload_n 1, 1), (25, .iaload, 1), (26, .aload_n 0, 1), (27, .getfield 66, 3), (30, .iload_n 1, 1), (31, .iaload, 1), (32, .iload_n 2, 1), (33, .invokevirtual 164, 3), (36, .ifCond .ne 9, 3), (39, .iinc 2 1, 3), (42, .goto (-33), 3), (45, .iload_n 2, 1), (46, .iconst 2, 1), (47, .aload_n 0, 1), (48, .getfield 7, 3), (51, .imul, 1), (52, .if_icmp .gt 7, 3), (55, .iload_n 2, 1), (56, .goto 4, 3), (59, .iconst (-1), 1), (60, .ireturn, 1)]
theorem tx_md_nextChoice_0 : zdec prog_10_method_30_code T_md_nextChoice_0 = true := by decide +kernel
theorem d_md_nextChoice_0 : decode prog_10_method_30_code 0 = .ok (.aload_n 0, 1) := zD (q := (0, .aload_n 0, 1)) tx_md_nextChoice_0 0 rfl
theorem d_md_nextChoice_1 : decode prog_10_method_30_code 1 = .ok (.getfield 72, 3) := zD (q := (1, .getfield 72, 3)) tx_md_nextChoice_0 1 rfl
theorem d_md_nextChoice_4 : decode prog_10_method_30_code 4 = .ok (.iload_n 1, 1) := zD (q := (4, .iload_n 1, 1)) tx_md_nextChoice_0 2 rfl
theorem d_md_nextChoice_5 : decode prog_10_method_30_code 5 = .ok (.iaload, 1) := zD (q := (5, .iaload, 1)) tx_md_nextChoice_0 3 rfl
theorem d_md_nextChoice_6 : decode prog_10_method_30_code 6 = .ok (.iconst 1, 1) := zD (q := (6, .iconst 1, 1)) tx_md_nextChoice_0 4 rfl
theorem d_md_nextChoice_7 : decode prog_10_method_30_code 7 = .ok (.iadd, 1) := zD (q := (7, .iadd, 1)) tx_md_nextChoice_0 5 rfl
theorem d_md_nextChoice_8 : decode prog_10_method_30_code 8 = .ok (.istore_n 2, 1) := zD (q := (8, .istore_n 2, 1)) tx_md_nextChoice_0 6 rfl
theorem d_md_nextChoice_9 : decode prog_10_method_30_code 9 = .ok (.iload_n 2, 1) := zD (q := (9, .iload_n 2, 1)) tx_md_nextChoice_0 7 rfl
theorem d_md_nextChoice_10 : decode prog_10_method_30_code 10 = .ok (.iconst 2, 1) := zD (q := (10, .iconst 2, 1)) tx_md_nextChoice_0 8 rfl
theorem d_md_nextChoice_11 : decode prog_10_method_30_code 11 = .ok (.aload_n 0, 1) := zD (q := (11, .aload_n 0, 1)) tx_md_nextChoice_0 9 rfl
theorem d_md_nextChoice_12 : decode prog_10_method_30_code 12 = .ok (.getfield 7, 3) := zD (q := (12, .getfield 7, 3)) tx_md_nextChoice_0 10 rfl
theorem d_md_nextChoice_15 : decode prog_10_method_30_code 15 = .ok (.imul, 1) := zD (q := (15, .imul, 1)) tx_md_nextChoice_0 11 rfl
theorem d_md_nextChoice_16 : decode prog_10_method_30_code 16 = .ok (.if_icmp .gt 29, 3) := zD (q := (16, .if_icmp .gt 29, 3)) tx_md_nextChoice_0 12 rfl
theorem d_md_nextChoice_19 : decode prog_10_method_30_code 19 = .ok (.aload_n 0, 1) := zD (q := (19, .aload_n 0, 1)) tx_md_nextChoice_0 13 rfl
theorem d_md_nextChoice_20 : decode prog_10_method_30_code 20 = .ok (.aload_n 0, 1) := zD (q := (20, .aload_n 0, 1)) tx_md_nextChoice_0 14 rfl
theorem d_md_nextChoice_21 : decode prog_10_method_30_code 21 = .ok (.getfield 69, 3) := zD (q := (21, .getfield 69, 3)) tx_md_nextChoice_0 15 rfl
theorem d_md_nextChoice_24 : decode prog_10_method_30_code 24 = .ok (.iload_n 1, 1) := zD (q := (24, .iload_n 1, 1)) tx_md_nextChoice_0 16 rfl
theorem d_md_nextChoice_25 : decode prog_10_method_30_code 25 = .ok (.iaload, 1) := zD (q := (25, .iaload, 1)) tx_md_nextChoice_0 17 rfl
theorem d_md_nextChoice_26 : decode prog_10_method_30_code 26 = .ok (.aload_n 0, 1) := zD (q := (26, .aload_n 0, 1)) tx_md_nextChoice_0 18 rfl
theorem d_md_nextChoice_27 : decode prog_10_method_30_code 27 = .ok (.getfield 66, 3) := zD (q := (27, .getfield 66, 3)) tx_md_nextChoice_0 19 rfl
theorem d_md_nextChoice_30 : decode prog_10_method_30_code 30 = .ok (.iload_n 1, 1) := zD (q := (30, .iload_n 1, 1)) tx_md_nextChoice_0 20 rfl
theorem d_md_nextChoice_31 : decode prog_10_method_30_code 31 = .ok (.iaload, 1) := zD (q := (31, .iaload, 1)) tx_md_nextChoice_0 21 rfl
theorem d_md_nextChoice_32 : decode prog_10_method_30_code 32 = .ok (.iload_n 2, 1) := zD (q := (32, .iload_n 2, 1)) tx_md_nextChoice_0 22 rfl
theorem d_md_nextChoice_33 : decode prog_10_method_30_code 33 = .ok (.invokevirtual 164, 3) := zD (q := (33, .invokevirtual 164, 3)) tx_md_nextChoice_0 23 rfl
theorem d_md_nextChoice_36 : decode prog_10_method_30_code 36 = .ok (.ifCond .ne 9, 3) := zD (q := (36, .ifCond .ne 9, 3)) tx_md_nextChoice_0 24 rfl
theorem d_md_nextChoice_39 : decode prog_10_method_30_code 39 = .ok (.iinc 2 1, 3) := zD (q := (39, .iinc 2 1, 3)) tx_md_nextChoice_0 25 rfl
theorem d_md_nextChoice_42 : decode prog_10_method_30_code 42 = .ok (.goto (-33), 3) := zD (q := (42, .goto (-33), 3)) tx_md_nextChoice_0 26 rfl
theorem d_md_nextChoice_45 : decode prog_10_method_30_code 45 = .ok (.iload_n 2, 1) := zD (q := (45, .iload_n 2, 1)) tx_md_nextChoice_0 27 rfl
theorem d_md_nextChoice_46 : decode prog_10_method_30_code 46 = .ok (.iconst 2, 1) := zD (q := (46, .iconst 2, 1)) tx_md_nextChoice_0 28 rfl
theorem d_md_nextChoice_47 : decode prog_10_method_30_code 47 = .ok (.aload_n 0, 1) := zD (q := (47, .aload_n 0, 1)) tx_md_nextChoice_0 29 rfl
theorem d_md_nextChoice_48 : decode prog_10_method_30_code 48 = .ok (.getfield 7, 3) := zD (q := (48, .getfield 7, 3)) tx_md_nextChoice_0 30 rfl
theorem d_md_nextChoice_51 : decode prog_10_method_30_code 51 = .ok (.imul, 1) := zD (q := (51, .imul, 1)) tx_md_nextChoice_0 31 rfl
theorem d_md_nextChoice_52 : decode prog_10_method_30_code 52 = .ok (.if_icmp .gt 7, 3) := zD (q := (52, .if_icmp .gt 7, 3)) tx_md_nextChoice_0 32 rfl
theorem d_md_nextChoice_55 : decode prog_10_method_30_code 55 = .ok (.iload_n 2, 1) := zD (q := (55, .iload_n 2, 1)) tx_md_nextChoice_0 33 rfl
theorem d_md_nextChoice_56 : decode prog_10_method_30_code 56 = .ok (.goto 4, 3) := zD (q := (56, .goto 4, 3)) tx_md_nextChoice_0 34 rfl
theorem d_md_nextChoice_59 : decode prog_10_method_30_code 59 = .ok (.iconst (-1), 1) := zD (q := (59, .iconst (-1), 1)) tx_md_nextChoice_0 35 rfl
theorem d_md_nextChoice_60 : decode prog_10_method_30_code 60 = .ok (.ireturn, 1) := zD (q := (60, .ireturn, 1)) tx_md_nextChoice_0 36 rfl
def T_md_can_0 : List (Nat × Instr × Nat) := [(0, .iload_n 3, 1), (1, .iconst 2, 1), (2, .idiv, 1), (3, .istore 4, 2), (5, .iload 4, 2), (7, .aload_n 0, 1), (8, .getfield 7, 3), (11, .if_icmp .ne 10, 3), (14, .aload_n 0, 1), (15, .iload_n 1, 1), (16, .iload_n 2, 1), (17, .invokevirtual 151, 3), (20, .ireturn, 1), (21, .iload 4, 2), (23, .iload_n 1, 1), (24, .if_icmp .eq 31, 3), (27, .aload_n 0, 1), (28, .getfield 60, 3), (31, .bipush 20, 2), (33, .iload_n 2, 1), (34, .imul, 1), (35, .iload 4, 2), (37, .iadd, 1), (38, .iaload, 1), (39, .bipush (-2), 2), (41, .if_icmp .ne 14, 3), (44, .aload_n 0, 1), (45, .iload_n 1, 1), (46, .iload 4, 2), (48, .iload_n 2, 1), (49, .invokevirtual 154, 3), (52, .ifCond .eq 5, 3), (55, .iconst 0, 1), (56, .ireturn, 1), (57, .iload_n 3, 1), (58, .iconst 2, 1), (59, .irem, 1), (60, .ifCond .ne 14, 3), (63, .aload_n 0, 1), (64, .iload_n 1, 1), (65, .iload 4, 2), (67, .iload_n 2, 1), (68, .invokevirtual 157, 3), (71, .goto 11, 3), (74, .aload_n 0, 1), (75, .iload 4, 2), (77, .iload_n 1, 1), (78, .iload_n 2, 1), (79, .invokevirtual 157, 3), (82, .ireturn, 1)]
theorem tx_md_can_0 : zdec prog_10_method_25_code T_md_can_0 = true := by decide +kernel
theorem d_md_can_0 : decode prog_10_method_25_code 0 = .ok (.iload_n 3, 1) := zD (q := (0, .iload_n 3, 1)) tx_md_can_0 0 rfl
theorem d_md_can_1 : decode prog_10_method_25_code 1 = .ok (.iconst 2, 1) := zD (q := (1, .iconst 2, 1)) tx_md_can_0 1 rfl
theorem d_md_can_2 : decode prog_10_method_25_code 2 = .ok (.idiv, 1) := zD (q := (2, .idiv, 1)) tx_md_can_0 2 rfl
theorem d_md_can_3 : decode prog_10_method_25_code 3 = .ok (.istore 4, 2) := zD (q := (3, .istore 4, 2)) tx_md_can_0 3 rfl
theorem d_md_can_5 : decode prog_10_method_25_code 5 = .ok (.iload 4, 2) := zD (q := (5, .iload 4, 2)) tx_md_can_0 4 rfl
theorem d_md_can_7 : decode prog_10_method_25_code 7 = .ok (.aload_n 0, 1) := zD (q := (7, .aload_n 0, 1)) tx_md_can_0 5 rfl
theorem d_md_can_8 : decode prog_10_method_25_code 8 = .ok (.getfield 7, 3) := zD (q := (8, .getfield 7, 3)) tx_md_can_0 6 rfl
theorem d_md_can_11 : decode prog_10_method_25_code 11 = .ok (.if_icmp .ne 10, 3) := zD (q := (11, .if_icmp .ne 10, 3)) tx_md_can_0 7 rfl
theorem d_md_can_14 : decode prog_10_method_25_code 14 = .ok (.aload_n 0, 1) := zD (q := (14, .aload_n 0, 1)) tx_md_can_0 8 rfl
theorem d_md_can_15 : decode prog_10_method_25_code 15 = .ok (.iload_n 1, 1) := zD (q := (15, .iload_n 1, 1)) tx_md_can_0 9 rfl
theorem d_md_can_16 : decode prog_10_method_25_code 16 = .ok (.iload_n 2, 1) := zD (q := (16, .iload_n 2, 1)) tx_md_can_0 10 rfl
theorem d_md_can_17 : decode prog_10_method_25_code 17 = .ok (.invokevirtual 151, 3) := zD (q := (17, .invokevirtual 151, 3)) tx_md_can_0 11 rfl
theorem d_md_can_20 : decode prog_10_method_25_code 20 = .ok (.ireturn, 1) := zD (q := (20, .ireturn, 1)) tx_md_can_0 12 rfl
theorem d_md_can_21 : decode prog_10_method_25_code 21 = .ok (.iload 4, 2) := zD (q := (21, .iload 4, 2)) tx_md_can_0 13 rfl
theorem d_md_can_23 : decode prog_10_method_25_code 23 = .ok (.iload_n 1, 1) := zD (q := (23, .iload_n 1, 1)) tx_md_can_0 14 rfl
theorem d_md_can_24 : decode prog_10_method_25_code 24 = .ok (.if_icmp .eq 31, 3) := zD (q := (24, .if_icmp .eq 31, 3)) tx_md_can_0 15 rfl
theorem d_md_can_27 : decode prog_10_method_25_code 27 = .ok (.aload_n 0, 1) := zD (q := (27, .aload_n 0, 1)) tx_md_can_0 16 rfl
theorem d_md_can_28 : decode prog_10_method_25_code 28 = .ok (.getfield 60, 3) := zD (q := (28, .getfield 60, 3)) tx_md_can_0 17 rfl
theorem d_md_can_31 : decode prog_10_method_25_code 31 = .ok (.bipush 20, 2) := zD (q := (31, .bipush 20, 2)) tx_md_can_0 18 rfl
theorem d_md_can_33 : decode prog_10_method_25_code 33 = .ok (.iload_n 2, 1) := zD (q := (33, .iload_n 2, 1)) tx_md_can_0 19 rfl
theorem d_md_can_34 : decode prog_10_method_25_code 34 = .ok (.imul, 1) := zD (q := (34, .imul, 1)) tx_md_can_0 20 rfl
theorem d_md_can_35 : decode prog_10_method_25_code 35 = .ok (.iload 4, 2) := zD (q := (35, .iload 4, 2)) tx_md_can_0 21 rfl
theorem d_md_can_37 : decode prog_10_method_25_code 37 = .ok (.iadd, 1) := zD (q := (37, .iadd, 1)) tx_md_can_0 22 rfl
theorem d_md_can_38 : decode prog_10_method_25_code 38 = .ok (.iaload, 1) := zD (q := (38, .iaload, 1)) tx_md_can_0 23 rfl
theorem d_md_can_39 : decode prog_10_method_25_code 39 = .ok (.bipush (-2), 2) := zD (q := (39, .bipush (-2), 2)) tx_md_can_0 24 rfl
theorem d_md_can_41 : decode prog_10_method_25_code 41 = .ok (.if_icmp .ne 14, 3) := zD (q := (41, .if_icmp .ne 14, 3)) tx_md_can_0 25 rfl
theorem d_md_can_44 : decode prog_10_method_25_code 44 = .ok (.aload_n 0, 1) := zD (q := (44, .aload_n 0, 1)) tx_md_can_0 26 rfl
theorem d_md_can_45 : decode prog_10_method_25_code 45 = .ok (.iload_n 1, 1) := zD (q := (45, .iload_n 1, 1)) tx_md_can_0 27 rfl
theorem d_md_can_46 : decode prog_10_method_25_code 46 = .ok (.iload 4, 2) := zD (q := (46, .iload 4, 2)) tx_md_can_0 28 rfl
theorem d_md_can_48 : decode prog_10_method_25_code 48 = .ok (.iload_n 2, 1) := zD (q := (48, .iload_n 2, 1)) tx_md_can_0 29 rfl
theorem d_md_can_49 : decode prog_10_method_25_code 49 = .ok (.invokevirtual 154, 3) := zD (q := (49, .invokevirtual 154, 3)) tx_md_can_0 30 rfl
theorem d_md_can_52 : decode prog_10_method_25_code 52 = .ok (.ifCond .eq 5, 3) := zD (q := (52, .ifCond .eq 5, 3)) tx_md_can_0 31 rfl
theorem d_md_can_55 : decode prog_10_method_25_code 55 = .ok (.iconst 0, 1) := zD (q := (55, .iconst 0, 1)) tx_md_can_0 32 rfl
theorem d_md_can_56 : decode prog_10_method_25_code 56 = .ok (.ireturn, 1) := zD (q := (56, .ireturn, 1)) tx_md_can_0 33 rfl
theorem d_md_can_57 : decode prog_10_method_25_code 57 = .ok (.iload_n 3, 1) := zD (q := (57, .iload_n 3, 1)) tx_md_can_0 34 rfl
theorem d_md_can_58 : decode prog_10_method_25_code 58 = .ok (.iconst 2, 1) := zD (q := (58, .iconst 2, 1)) tx_md_can_0 35 rfl
theorem d_md_can_59 : decode prog_10_method_25_code 59 = .ok (.irem, 1) := zD (q := (59, .irem, 1)) tx_md_can_0 36 rfl
theorem d_md_can_60 : decode prog_10_method_25_code 60 = .ok (.ifCond .ne 14, 3) := zD (q := (60, .ifCond .ne 14, 3)) tx_md_can_0 37 rfl
theorem d_md_can_63 : decode prog_10_method_25_code 63 = .ok (.aload_n 0, 1) := zD (q := (63, .aload_n 0, 1)) tx_md_can_0 38 rfl
theorem d_md_can_64 : decode prog_10_method_25_code 64 = .ok (.iload_n 1, 1) := zD (q := (64, .iload_n 1, 1)) tx_md_can_0 39 rfl
theorem d_md_can_65 : decode prog_10_method_25_code 65 = .ok (.iload 4, 2) := zD (q := (65, .iload 4, 2)) tx_md_can_0 40 rfl
theorem d_md_can_67 : decode prog_10_method_25_code 67 = .ok (.iload_n 2, 1) := zD (q := (67, .iload_n 2, 1)) tx_md_can_0 41 rfl
theorem d_md_can_68 : decode prog_10_method_25_code 68 = .ok (.invokevirtual 157, 3) := zD (q := (68, .invokevirtual 157, 3)) tx_md_can_0 42 rfl
theorem d_md_can_71 : decode prog_10_method_25_code 71 = .ok (.goto 11, 3) := zD (q := (71, .goto 11, 3)) tx_md_can_0 43 rfl
theorem d_md_can_74 : decode prog_10_method_25_code 74 = .ok (.aload_n 0, 1) := zD (q := (74, .aload_n 0, 1)) tx_md_can_0 44 rfl
theorem d_md_can_75 : decode prog_10_method_25_code 75 = .ok (.iload 4, 2) := zD (q := (75, .iload 4, 2)) tx_md_can_0 45 rfl
theorem d_md_can_77 : decode prog_10_method_25_code 77 = .ok (.iload_n 1, 1) := zD (q := (77, .iload_n 1, 1)) tx_md_can_0 46 rfl
theorem d_md_can_78 : decode prog_10_method_25_code 78 = .ok (.iload_n 2, 1) := zD (q := (78, .iload_n 2, 1)) tx_md_can_0 47 rfl
theorem d_md_can_79 : decode prog_10_method_25_code 79 = .ok (.invokevirtual 157, 3) := zD (q := (79, .invokevirtual 157, 3)) tx_md_can_0 48 rfl
theorem d_md_can_82 : decode prog_10_method_25_code 82 = .ok (.ireturn, 1) := zD (q := (82, .ireturn, 1)) tx_md_can_0 49 rfl
def T_md_mayRest_0 : List (Nat × Instr × Nat) := [(0, .aload_n 0, 1), (1, .getfield 7, 3), (4, .iconst 2, 1), (5, .irem, 1), (6, .iconst 1, 1), (7, .if_icmp .ne 16, 3), (10, .aload_n 0, 1), (11, .iload_n 1, 1), (12, .iload_n 2, 1), (13, .invokevirtual 148, 3), (16, .ifCond .ne 7, 3), (19, .iconst 1, 1), (20, .goto 4, 3), (23, .iconst 0, 1), (24, .istore_n 3, 1), (25, .iconst 0, 1), (26, .istore 4, 2), (28, .iload 4, 2), (30, .aload_n 0, 1), (31, .getfield 110, 3), (34, .if_icmp .ge 40, 3), (37, .iload_n 3, 1), (38, .ifCond .eq 28, 3), (41, .aload_n 0, 1), (42, .getfield 30, 3), (45, .iload 4, 2), (47, .iaload, 1), (48, .iload_n 2, 1), (49, .if_icmp .ne 13, 3), (52, .aload_n 0, 1), (53, .iload 4, 2), (55, .iload_n 1, 1), (56, .invokevirtual 131, 3), (59, .ifCond .ne 7, 3), (62, .iconst 1, 1), (63, .goto 4, 3), (66, .iconst 0, 1), (67, .istore_n 3, 1), (68, .iinc 4 1, 3), (71, .goto (-43), 3), (74, .iload_n 3, 1), (75, .ireturn, 1)]
theorem tx_md_mayRest_0 : zdec prog_10_method_24_code T_md_mayRest_0 = true := by decide +kernel
theorem d_md_mayRest_0 : decode prog_10_method_24_code 0 = .ok (.aload_n 0, 1) := zD (q := (0, .aload_n 0, 1)) tx_md_mayRest_0 0 rfl
theorem d_md_mayRest_1 : decode prog_10_method_24_code 1 = .ok (.getfield 7, 3) := zD (q := (1, .getfield 7, 3)) tx_md_mayRest_0 1 rfl
theorem d_md_mayRest_4 : decode prog_10_method_24_code 4 = .ok (.iconst 2, 1) := zD (q := (4, .iconst 2, 1)) tx_md_mayRest_0 2 rfl
theorem d_md_mayRest_5 : decode prog_10_method_24_code 5 = .ok (.irem, 1) := zD (q := (5, .irem, 1)) tx_md_mayRest_0 3 rfl
theorem d_md_mayRest_6 : decode prog_10_method_24_code 6 = .ok (.iconst 1, 1) := zD (q := (6, .iconst 1, 1)) tx_md_mayRest_0 4 rfl
theorem d_md_mayRest_7 : decode prog_10_method_24_code 7 = .ok (.if_icmp .ne 16, 3) := zD (q := (7, .if_icmp .ne 16, 3)) tx_md_mayRest_0 5 rfl
theorem d_md_mayRest_10 : decode prog_10_method_24_code 10 = .ok (.aload_n 0, 1) := zD (q := (10, .aload_n 0, 1)) tx_md_mayRest_0 6 rfl
theorem d_md_mayRest_11 : decode prog_10_method_24_code 11 = .ok (.iload_n 1, 1) := zD (q := (11, .iload_n 1, 1)) tx_md_mayRest_0 7 rfl
theorem d_md_mayRest_12 : decode prog_10_method_24_code 12 = .ok (.iload_n 2, 1) := zD (q := (12, .iload_n 2, 1)) tx_md_mayRest_0 8 rfl
theorem d_md_mayRest_13 : decode prog_10_method_24_code 13 = .ok (.invokevirtual 148, 3) := zD (q := (13, .invokevirtual 148, 3)) tx_md_mayRest_0 9 rfl
theorem d_md_mayRest_16 : decode prog_10_method_24_code 16 = .ok (.ifCond .ne 7, 3) := zD (q := (16, .ifCond .ne 7, 3)) tx_md_mayRest_0 10 rfl
theorem d_md_mayRest_19 : decode prog_10_method_24_code 19 = .ok (.iconst 1, 1) := zD (q := (19, .iconst 1, 1)) tx_md_mayRest_0 11 rfl
theorem d_md_mayRest_20 : decode prog_10_method_24_code 20 = .ok (.goto 4, 3) := zD (q := (20, .goto 4, 3)) tx_md_mayRest_0 12 rfl
theorem d_md_mayRest_23 : decode prog_10_method_24_code 23 = .ok (.iconst 0, 1) := zD (q := (23, .iconst 0, 1)) tx_md_mayRest_0 13 rfl
theorem d_md_mayRest_24 : decode prog_10_method_24_code 24 = .ok (.istore_n 3, 1) := zD (q := (24, .istore_n 3, 1)) tx_md_mayRest_0 14 rfl
theorem d_md_mayRest_25 : decode prog_10_method_24_code 25 = .ok (.iconst 0, 1) := zD (q := (25, .iconst 0, 1)) tx_md_mayRest_0 15 rfl
theorem d_md_mayRest_26 : decode prog_10_method_24_code 26 = .ok (.istore 4, 2) := zD (q := (26, .istore 4, 2)) tx_md_mayRest_0 16 rfl
theorem d_md_mayRest_28 : decode prog_10_method_24_code 28 = .ok (.iload 4, 2) := zD (q := (28, .iload 4, 2)) tx_md_mayRest_0 17 rfl
theorem d_md_mayRest_30 : decode prog_10_method_24_code 30 = .ok (.aload_n 0, 1) := zD (q := (30, .aload_n 0, 1)) tx_md_mayRest_0 18 rfl
theorem d_md_mayRest_31 : decode prog_10_method_24_code 31 = .ok (.getfield 110, 3) := zD (q := (31, .getfield 110, 3)) tx_md_mayRest_0 19 rfl
theorem d_md_mayRest_34 : decode prog_10_method_24_code 34 = .ok (.if_icmp .ge 40, 3) := zD (q := (34, .if_icmp .ge 40, 3)) tx_md_mayRest_0 20 rfl
theorem d_md_mayRest_37 : decode prog_10_method_24_code 37 = .ok (.iload_n 3, 1) := zD (q := (37, .iload_n 3, 1)) tx_md_mayRest_0 21 rfl
theorem d_md_mayRest_38 : decode prog_10_method_24_code 38 = .ok (.ifCond .eq 28, 3) := zD (q := (38, .ifCond .eq 28, 3)) tx_md_mayRest_0 22 rfl
theorem d_md_mayRest_41 : decode prog_10_method_24_code 41 = .ok (.aload_n 0, 1) := zD (q := (41, .aload_n 0, 1)) tx_md_mayRest_0 23 rfl
theorem d_md_mayRest_42 : decode prog_10_method_24_code 42 = .ok (.getfield 30, 3) := zD (q := (42, .getfield 30, 3)) tx_md_mayRest_0 24 rfl
theorem d_md_mayRest_45 : decode prog_10_method_24_code 45 = .ok (.iload 4, 2) := zD (q := (45, .iload 4, 2)) tx_md_mayRest_0 25 rfl
theorem d_md_mayRest_47 : decode prog_10_method_24_code 47 = .ok (.iaload, 1) := zD (q := (47, .iaload, 1)) tx_md_mayRest_0 26 rfl
theorem d_md_mayRest_48 : decode prog_10_method_24_code 48 = .ok (.iload_n 2, 1) := zD (q := (48, .iload_n 2, 1)) tx_md_mayRest_0 27 rfl
theorem d_md_mayRest_49 : decode prog_10_method_24_code 49 = .ok (.if_icmp .ne 13, 3) := zD (q := (49, .if_icmp .ne 13, 3)) tx_md_mayRest_0 28 rfl
theorem d_md_mayRest_52 : decode prog_10_method_24_code 52 = .ok (.aload_n 0, 1) := zD (q := (52, .aload_n 0, 1)) tx_md_mayRest_0 29 rfl
theorem d_md_mayRest_53 : decode prog_10_method_24_code 53 = .ok (.iload 4, 2) := zD (q := (53, .iload 4, 2)) tx_md_mayRest_0 30 rfl
theorem d_md_mayRest_55 : decode prog_10_method_24_code 55 = .ok (.iload_n 1, 1) := zD (q := (55, .iload_n 1, 1)) tx_md_mayRest_0 31 rfl
theorem d_md_mayRest_56 : decode prog_10_method_24_code 56 = .ok (.invokevirtual 131, 3) := zD (q := (56, .invokevirtual 131, 3)) tx_md_mayRest_0 32 rfl
theorem d_md_mayRest_59 : decode prog_10_method_24_code 59 = .ok (.ifCond .ne 7, 3) := zD (q := (59, .ifCond .ne 7, 3)) tx_md_mayRest_0 33 rfl
theorem d_md_mayRest_62 : decode prog_10_method_24_code 62 = .ok (.iconst 1, 1) := zD (q := (62, .iconst 1, 1)) tx_md_mayRest_0 34 rfl
theorem d_md_mayRest_63 : decode prog_10_method_24_code 63 = .ok (.goto 4, 3) := zD (q := (63, .goto 4, 3)) tx_md_mayRest_0 35 rfl
theorem d_md_mayRest_66 : decode prog_10_method_24_code 66 = .ok (.iconst 0, 1) := zD (q := (66, .iconst 0, 1)) tx_md_mayRest_0 36 rfl
theorem d_md_mayRest_67 : decode prog_10_method_24_code 67 = .ok (.istore_n 3, 1) := zD (q := (67, .istore_n 3, 1)) tx_md_mayRest_0 37 rfl
theorem d_md_mayRest_68 : decode prog_10_method_24_code 68 = .ok (.iinc 4 1, 3) := zD (q := (68, .iinc 4 1, 3)) tx_md_mayRest_0 38 rfl
theorem d_md_mayRest_71 : decode prog_10_method_24_code 71 = .ok (.goto (-43), 3) := zD (q := (71, .goto (-43), 3)) tx_md_mayRest_0 39 rfl
theorem d_md_mayRest_74 : decode prog_10_method_24_code 74 = .ok (.iload_n 3, 1) := zD (q := (74, .iload_n 3, 1)) tx_md_mayRest_0 40 rfl
theorem d_md_mayRest_75 : decode prog_10_method_24_code 75 = .ok (.ireturn, 1) := zD (q := (75, .ireturn, 1)) tx_md_mayRest_0 41 rfl
def T_md_hadBye_0 : List (Nat × Instr × Nat) := [(0, .iconst 0, 1), (1, .istore_n 3, 1), (2, .iconst 0, 1), (3, .istore 4, 2), (5, .iload 4, 2), (7, .iload_n 2, 1), (8, .if_icmp .ge 35, 3), (11, .iload_n 3, 1), (12, .ifCond .ne 19, 3), (15, .aload_n 0, 1), (16, .getfield 60, 3), (19, .bipush 20, 2), (21, .iload 4, 2), (23, .imul, 1), (24, .iload_n 1, 1), (25, .iadd, 1), (26, .iaload, 1), (27, .iconst (-1), 1), (28, .if_icmp .ne 7, 3), (31, .iconst 1, 1), (32, .goto 4, 3), (35, .iconst 0, 1), (36, .istore_n 3, 1), (37, .iinc 4 1, 3), (40, .goto (-35), 3), (43, .iload_n 3, 1), (44, .ireturn, 1)]
theorem tx_md_hadBye_0 : zdec prog_10_method_18_code T_md_hadBye_0 = true := by decide +kernel
theorem d_md_hadBye_0 : decode prog_10_method_18_code 0 = .ok (.iconst 0, 1) := zD (q := (0, .iconst 0, 1)) tx_md_hadBye_0 0 rfl
theorem d_md_hadBye_1 : decode prog_10_method_18_code 1 = .ok (.istore_n 3, 1) := zD (q := (1, .istore_n 3, 1)) tx_md_hadBye_0 1 rfl
theorem d_md_hadBye_2 : decode prog_10_method_18_code 2 = .ok (.iconst 0, 1) := zD (q := (2, .iconst 0, 1)) tx_md_hadBye_0 2 rfl
theorem d_md_hadBye_3 : decode prog_10_method_18_code 3 = .ok (.istore 4, 2) := zD (q := (3, .istore 4, 2)) tx_md_hadBye_0 3 rfl
theorem d_md_hadBye_5 : decode prog_10_method_18_code 5 = .ok (.iload 4, 2) := zD (q := (5, .iload 4, 2)) tx_md_hadBye_0 4 rfl
theorem d_md_hadBye_7 : decode prog_10_method_18_code 7 = .ok (.iload_n 2, 1) := zD (q := (7, .iload_n 2, 1)) tx_md_hadBye_0 5 rfl
theorem d_md_hadBye_8 : decode prog_10_method_18_code 8 = .ok (.if_icmp .ge 35, 3) := zD (q := (8, .if_icmp .ge 35, 3)) tx_md_hadBye_0 6 rfl
theorem d_md_hadBye_11 : decode prog_10_method_18_code 11 = .ok (.iload_n 3, 1) := zD (q := (11, .iload_n 3, 1)) tx_md_hadBye_0 7 rfl
theorem d_md_hadBye_12 : decode prog_10_method_18_code 12 = .ok (.ifCond .ne 19, 3) := zD (q := (12, .ifCond .ne 19, 3)) tx_md_hadBye_0 8 rfl
theorem d_md_hadBye_15 : decode prog_10_method_18_code 15 = .ok (.aload_n 0, 1) := zD (q := (15, .aload_n 0, 1)) tx_md_hadBye_0 9 rfl
theorem d_md_hadBye_16 : decode prog_10_method_18_code 16 = .ok (.getfield 60, 3) := zD (q := (16, .getfield 60, 3)) tx_md_hadBye_0 10 rfl
theorem d_md_hadBye_19 : decode prog_10_method_18_code 19 = .ok (.bipush 20, 2) := zD (q := (19, .bipush 20, 2)) tx_md_hadBye_0 11 rfl
theorem d_md_hadBye_21 : decode prog_10_method_18_code 21 = .ok (.iload 4, 2) := zD (q := (21, .iload 4, 2)) tx_md_hadBye_0 12 rfl
theorem d_md_hadBye_23 : decode prog_10_method_18_code 23 = .ok (.imul, 1) := zD (q := (23, .imul, 1)) tx_md_hadBye_0 13 rfl
theorem d_md_hadBye_24 : decode prog_10_method_18_code 24 = .ok (.iload_n 1, 1) := zD (q := (24, .iload_n 1, 1)) tx_md_hadBye_0 14 rfl
theorem d_md_hadBye_25 : decode prog_10_method_18_code 25 = .ok (.iadd, 1) := zD (q := (25, .iadd, 1)) tx_md_hadBye_0 15 rfl
theorem d_md_hadBye_26 : decode prog_10_method_18_code 26 = .ok (.iaload, 1) := zD (q := (26, .iaload, 1)) tx_md_hadBye_0 16 rfl
theorem d_md_hadBye_27 : decode prog_10_method_18_code 27 = .ok (.iconst (-1), 1) := zD (q := (27, .iconst (-1), 1)) tx_md_hadBye_0 17 rfl
theorem d_md_hadBye_28 : decode prog_10_method_18_code 28 = .ok (.if_icmp .ne 7, 3) := zD (q := (28, .if_icmp .ne 7, 3)) tx_md_hadBye_0 18 rfl
theorem d_md_hadBye_31 : decode prog_10_method_18_code 31 = .ok (.iconst 1, 1) := zD (q := (31, .iconst 1, 1)) tx_md_hadBye_0 19 rfl
theorem d_md_hadBye_32 : decode prog_10_method_18_code 32 = .ok (.goto 4, 3) := zD (q := (32, .goto 4, 3)) tx_md_hadBye_0 20 rfl
theorem d_md_hadBye_35 : decode prog_10_method_18_code 35 = .ok (.iconst 0, 1) := zD (q := (35, .iconst 0, 1)) tx_md_hadBye_0 21 rfl
theorem d_md_hadBye_36 : decode prog_10_method_18_code 36 = .ok (.istore_n 3, 1) := zD (q := (36, .istore_n 3, 1)) tx_md_hadBye_0 22 rfl
theorem d_md_hadBye_37 : decode prog_10_method_18_code 37 = .ok (.iinc 4 1, 3) := zD (q := (37, .iinc 4 1, 3)) tx_md_hadBye_0 23 rfl
theorem d_md_hadBye_40 : decode prog_10_method_18_code 40 = .ok (.goto (-35), 3) := zD (q := (40, .goto (-35), 3)) tx_md_hadBye_0 24 rfl
theorem d_md_hadBye_43 : decode prog_10_method_18_code 43 = .ok (.iload_n 3, 1) := zD (q := (43, .iload_n 3, 1)) tx_md_hadBye_0 25 rfl
theorem d_md_hadBye_44 : decode prog_10_method_18_code 44 = .ok (.ireturn, 1) := zD (q := (44, .ireturn, 1)) tx_md_hadBye_0 26 rfl
def T_md_isOf_0 : List (Nat × Instr × Nat) := [(0, .aload_n 0, 1), (1, .getfield 24, 3), (4, .iload_n 1, 1), (5, .iaload, 1), (6, .iload_n 2, 1), (7, .if_icmp .eq 13, 3), (10, .aload_n 0, 1), (11, .getfield 27, 3), (14, .iload_n 1, 1), (15, .iaload, 1), (16, .iload_n 2, 1), (17, .if_icmp .ne 7, 3), (20, .iconst 1, 1), (21, .goto 4, 3), (24, .iconst 0, 1), (25, .ireturn, 1)]
theorem tx_md_isOf_0 : zdec prog_10_method_22_code T_md_isOf_0 = true := by decide +kernel
theorem d_md_isOf_0 : decode prog_10_method_22_code 0 = .ok (.aload_n 0, 1) := zD (q := (0, .aload_n 0, 1)) tx_md_isOf_0 0 rfl
theorem d_md_isOf_1 : decode prog_10_method_22_code 1 = .ok (.getfield 24, 3) := zD (q := (1, .getfield 24, 3)) tx_md_isOf_0 1 rfl
theorem d_md_isOf_4 : decode prog_10_method_22_code 4 = .ok (.iload_n 1, 1) := zD (q := (4, .iload_n 1, 1)) tx_md_isOf_0 2 rfl
theorem d_md_isOf_5 : decode prog_10_method_22_code 5 = .ok (.iaload, 1) := zD (q := (5, .iaload, 1)) tx_md_isOf_0 3 rfl
theorem d_md_isOf_6 : decode prog_10_method_22_code 6 = .ok (.iload_n 2, 1) := zD (q := (6, .iload_n 2, 1)) tx_md_isOf_0 4 rfl
theorem d_md_isOf_7 : decode prog_10_method_22_code 7 = .ok (.if_icmp .eq 13, 3) := zD (q := (7, .if_icmp .eq 13, 3)) tx_md_isOf_0 5 rfl
theorem d_md_isOf_10 : decode prog_10_method_22_code 10 = .ok (.aload_n 0, 1) := zD (q := (10, .aload_n 0, 1)) tx_md_isOf_0 6 rfl
theorem d_md_isOf_11 : decode prog_10_method_22_code 11 = .ok (.getfield 27, 3) := zD (q := (11, .getfield 27, 3)) tx_md_isOf_0 7 rfl
theorem d_md_isOf_14 : decode prog_10_method_22_code 14 = .ok (.iload_n 1, 1) := zD (q := (14, .iload_n 1, 1)) tx_md_isOf_0 8 rfl
theorem d_md_isOf_15 : decode prog_10_method_22_code 15 = .ok (.iaload, 1) := zD (q := (15, .iaload, 1)) tx_md_isOf_0 9 rfl
theorem d_md_isOf_16 : decode prog_10_method_22_code 16 = .ok (.iload_n 2, 1) := zD (q := (16, .iload_n 2, 1)) tx_md_isOf_0 10 rfl
theorem d_md_isOf_17 : decode prog_10_method_22_code 17 = .ok (.if_icmp .ne 7, 3) := zD (q := (17, .if_icmp .ne 7, 3)) tx_md_isOf_0 11 rfl
theorem d_md_isOf_20 : decode prog_10_method_22_code 20 = .ok (.iconst 1, 1) := zD (q := (20, .iconst 1, 1)) tx_md_isOf_0 12 rfl
theorem d_md_isOf_21 : decode prog_10_method_22_code 21 = .ok (.goto 4, 3) := zD (q := (21, .goto 4, 3)) tx_md_isOf_0 13 rfl
theorem d_md_isOf_24 : decode prog_10_method_22_code 24 = .ok (.iconst 0, 1) := zD (q := (24, .iconst 0, 1)) tx_md_isOf_0 14 rfl
theorem d_md_isOf_25 : decode prog_10_method_22_code 25 = .ok (.ireturn, 1) := zD (q := (25, .ireturn, 1)) tx_md_isOf_0 15 rfl
def T_md_haveMet_0 : List (Nat × Instr × Nat) := [(0, .iconst 0, 1), (1, .istore 4, 2), (3, .iconst 0, 1), (4, .istore 5, 2), (6, .iload 5, 2), (8, .iload_n 3, 1), (9, .if_icmp .gt 37, 3), (12, .iload 4, 2), (14, .ifCond .ne 19, 3), (17, .aload_n 0, 1), (18, .getfield 60, 3), (21, .bipush 20, 2), (23, .iload 5, 2), (25, .imul, 1), (26, .iload_n 1, 1), (27, .iadd, 1), (28, .iaload, 1), (29, .iload_n 2, 1), (30, .if_icmp .ne 7, 3), (33, .iconst 1, 1), (34, .goto 4, 3), (37, .iconst 0, 1), (38, .istore 4, 2), (40, .iinc 5 1, 3), (43, .goto (-37), 3), (46, .iload 4, 2), (48, .ireturn, 1)]
theorem tx_md_haveMet_0 : zdec prog_10_method_17_code T_md_haveMet_0 = true := by decide +kernel
theorem d_md_haveMet_0 : decode prog_10_method_17_code 0 = .ok (.iconst 0, 1) := zD (q := (0, .iconst 0, 1)) tx_md_haveMet_0 0 rfl
theorem d_md_haveMet_1 : decode prog_10_method_17_code 1 = .ok (.istore 4, 2) := zD (q := (1, .istore 4, 2)) tx_md_haveMet_0 1 rfl
theorem d_md_haveMet_3 : decode prog_10_method_17_code 3 = .ok (.iconst 0, 1) := zD (q := (3, .iconst 0, 1)) tx_md_haveMet_0 2 rfl
theorem d_md_haveMet_4 : decode prog_10_method_17_code 4 = .ok (.istore 5, 2) := zD (q := (4, .istore 5, 2)) tx_md_haveMet_0 3 rfl
theorem d_md_haveMet_6 : decode prog_10_method_17_code 6 = .ok (.iload 5, 2) := zD (q := (6, .iload 5, 2)) tx_md_haveMet_0 4 rfl
theorem d_md_haveMet_8 : decode prog_10_method_17_code 8 = .ok (.iload_n 3, 1) := zD (q := (8, .iload_n 3, 1)) tx_md_haveMet_0 5 rfl
theorem d_md_haveMet_9 : decode prog_10_method_17_code 9 = .ok (.if_icmp .gt 37, 3) := zD (q := (9, .if_icmp .gt 37, 3)) tx_md_haveMet_0 6 rfl
theorem d_md_haveMet_12 : decode prog_10_method_17_code 12 = .ok (.iload 4, 2) := zD (q := (12, .iload 4, 2)) tx_md_haveMet_0 7 rfl
theorem d_md_haveMet_14 : decode prog_10_method_17_code 14 = .ok (.ifCond .ne 19, 3) := zD (q := (14, .ifCond .ne 19, 3)) tx_md_haveMet_0 8 rfl
theorem d_md_haveMet_17 : decode prog_10_method_17_code 17 = .ok (.aload_n 0, 1) := zD (q := (17, .aload_n 0, 1)) tx_md_haveMet_0 9 rfl
theorem d_md_haveMet_18 : decode prog_10_method_17_code 18 = .ok (.getfield 60, 3) := zD (q := (18, .getfield 60, 3)) tx_md_haveMet_0 10 rfl
theorem d_md_haveMet_21 : decode prog_10_method_17_code 21 = .ok (.bipush 20, 2) := zD (q := (21, .bipush 20, 2)) tx_md_haveMet_0 11 rfl
theorem d_md_haveMet_23 : decode prog_10_method_17_code 23 = .ok (.iload 5, 2) := zD (q := (23, .iload 5, 2)) tx_md_haveMet_0 12 rfl
theorem d_md_haveMet_25 : decode prog_10_method_17_code 25 = .ok (.imul, 1) := zD (q := (25, .imul, 1)) tx_md_haveMet_0 13 rfl
theorem d_md_haveMet_26 : decode prog_10_method_17_code 26 = .ok (.iload_n 1, 1) := zD (q := (26, .iload_n 1, 1)) tx_md_haveMet_0 14 rfl
theorem d_md_haveMet_27 : decode prog_10_method_17_code 27 = .ok (.iadd, 1) := zD (q := (27, .iadd, 1)) tx_md_haveMet_0 15 rfl
theorem d_md_haveMet_28 : decode prog_10_method_17_code 28 = .ok (.iaload, 1) := zD (q := (28, .iaload, 1)) tx_md_haveMet_0 16 rfl
theorem d_md_haveMet_29 : decode prog_10_method_17_code 29 = .ok (.iload_n 2, 1) := zD (q := (29, .iload_n 2, 1)) tx_md_haveMet_0 17 rfl
theorem d_md_haveMet_30 : decode prog_10_method_17_code 30 = .ok (.if_icmp .ne 7, 3) := zD (q := (30, .if_icmp .ne 7, 3)) tx_md_haveMet_0 18 rfl
theorem d_md_haveMet_33 : decode prog_10_method_17_code 33 = .ok (.iconst 1, 1) := zD (q := (33, .iconst 1, 1)) tx_md_haveMet_0 19 rfl
theorem d_md_haveMet_34 : decode prog_10_method_17_code 34 = .ok (.goto 4, 3) := zD (q := (34, .goto 4, 3)) tx_md_haveMet_0 20 rfl
theorem d_md_haveMet_37 : decode prog_10_method_17_code 37 = .ok (.iconst 0, 1) := zD (q := (37, .iconst 0, 1)) tx_md_haveMet_0 21 rfl
theorem d_md_haveMet_38 : decode prog_10_method_17_code 38 = .ok (.istore 4, 2) := zD (q := (38, .istore 4, 2)) tx_md_haveMet_0 22 rfl
theorem d_md_haveMet_40 : decode prog_10_method_17_code 40 = .ok (.iinc 5 1, 3) := zD (q := (40, .iinc 5 1, 3)) tx_md_haveMet_0 23 rfl
theorem d_md_haveMet_43 : decode prog_10_method_17_code 43 = .ok (.goto (-37), 3) := zD (q := (43, .goto (-37), 3)) tx_md_haveMet_0 24 rfl
theorem d_md_haveMet_46 : decode prog_10_method_17_code 46 = .ok (.iload 4, 2) := zD (q := (46, .iload 4, 2)) tx_md_haveMet_0 25 rfl
theorem d_md_haveMet_48 : decode prog_10_method_17_code 48 = .ok (.ireturn, 1) := zD (q := (48, .ireturn, 1)) tx_md_haveMet_0 26 rfl
def T_md_mayPlay_0 : List (Nat × Instr × Nat) := [(0, .aload_n 0, 1), (1, .iload_n 1, 1), (2, .iload_n 3, 1), (3, .iconst 0, 1), (4, .invokevirtual 135, 3), (7, .ifCond .ne 26, 3), (10, .aload_n 0, 1), (11, .iload_n 2, 1), (12, .iload_n 3, 1), (13, .iconst 1, 1), (14, .invokevirtual 135, 3), (17, .ifCond .ne 16, 3), (20, .aload_n 0, 1), (21, .iload_n 1, 1), (22, .iload_n 3, 1), (23, .invokevirtual 138, 3), (26, .ifCond .ne 7, 3), (29, .iconst 1, 1), (30, .goto 4, 3), (33, .iconst 0, 1), (34, .istore 4, 2), (36, .iload 4, 2), (38, .ifCond .eq 37, 3), (41, .aload_n 0, 1), (42, .iload_n 1, 1), (43, .iload_n 2, 1), (44, .iload_n 3, 1), (45, .invokevirtual 141, 3), (48, .ifCond .eq 27, 3), (51, .aload_n 0, 1), (52, .getfield 113, 3), (55, .ifCond .eq 16, 3), (58, .aload_n 0, 1), (59, .iload_n 2, 1), (60, .iload_n 3, 1), (61, .invokevirtual 144, 3), (64, .aload_n 0, 1), (65, .getfield 113, 3), (68, .if_icmp .ge 7, 3), (71, .iconst 1, 1), (72, .goto 4, 3), (75, .iconst 0, 1), (76, .ireturn, 1)]
theorem tx_md_mayPlay_0 : zdec prog_10_method_23_code T_md_mayPlay_0 = true := by decide +kernel
theorem d_md_mayPlay_0 : decode prog_10_method_23_code 0 = .ok (.aload_n 0, 1) := zD (q := (0, .aload_n 0, 1)) tx_md_mayPlay_0 0 rfl
theorem d_md_mayPlay_1 : decode prog_10_method_23_code 1 = .ok (.iload_n 1, 1) := zD (q := (1, .iload_n 1, 1)) tx_md_mayPlay_0 1 rfl
theorem d_md_mayPlay_2 : decode prog_10_method_23_code 2 = .ok (.iload_n 3, 1) := zD (q := (2, .iload_n 3, 1)) tx_md_mayPlay_0 2 rfl
theorem d_md_mayPlay_3 : decode prog_10_method_23_code 3 = .ok (.iconst 0, 1) := zD (q := (3, .iconst 0, 1)) tx_md_mayPlay_0 3 rfl
theorem d_md_mayPlay_4 : decode prog_10_method_23_code 4 = .ok (.invokevirtual 135, 3) := zD (q := (4, .invokevirtual 135, 3)) tx_md_mayPlay_0 4 rfl
theorem d_md_mayPlay_7 : decode prog_10_method_23_code 7 = .ok (.ifCond .ne 26, 3) := zD (q := (7, .ifCond .ne 26, 3)) tx_md_mayPlay_0 5 rfl
theorem d_md_mayPlay_10 : decode prog_10_method_23_code 10 = .ok (.aload_n 0, 1) := zD (q := (10, .aload_n 0, 1)) tx_md_mayPlay_0 6 rfl
theorem d_md_mayPlay_11 : decode prog_10_method_23_code 11 = .ok (.iload_n 2, 1) := zD (q := (11, .iload_n 2, 1)) tx_md_mayPlay_0 7 rfl
theorem d_md_mayPlay_12 : decode prog_10_method_23_code 12 = .ok (.iload_n 3, 1) := zD (q := (12, .iload_n 3, 1)) tx_md_mayPlay_0 8 rfl
theorem d_md_mayPlay_13 : decode prog_10_method_23_code 13 = .ok (.iconst 1, 1) := zD (q := (13, .iconst 1, 1)) tx_md_mayPlay_0 9 rfl
theorem d_md_mayPlay_14 : decode prog_10_method_23_code 14 = .ok (.invokevirtual 135, 3) := zD (q := (14, .invokevirtual 135, 3)) tx_md_mayPlay_0 10 rfl
theorem d_md_mayPlay_17 : decode prog_10_method_23_code 17 = .ok (.ifCond .ne 16, 3) := zD (q := (17, .ifCond .ne 16, 3)) tx_md_mayPlay_0 11 rfl
theorem d_md_mayPlay_20 : decode prog_10_method_23_code 20 = .ok (.aload_n 0, 1) := zD (q := (20, .aload_n 0, 1)) tx_md_mayPlay_0 12 rfl
theorem d_md_mayPlay_21 : decode prog_10_method_23_code 21 = .ok (.iload_n 1, 1) := zD (q := (21, .iload_n 1, 1)) tx_md_mayPlay_0 13 rfl
theorem d_md_mayPlay_22 : decode prog_10_method_23_code 22 = .ok (.iload_n 3, 1) := zD (q := (22, .iload_n 3, 1)) tx_md_mayPlay_0 14 rfl
theorem d_md_mayPlay_23 : decode prog_10_method_23_code 23 = .ok (.invokevirtual 138, 3) := zD (q := (23, .invokevirtual 138, 3)) tx_md_mayPlay_0 15 rfl
theorem d_md_mayPlay_26 : decode prog_10_method_23_code 26 = .ok (.ifCond .ne 7, 3) := zD (q := (26, .ifCond .ne 7, 3)) tx_md_mayPlay_0 16 rfl
theorem d_md_mayPlay_29 : decode prog_10_method_23_code 29 = .ok (.iconst 1, 1) := zD (q := (29, .iconst 1, 1)) tx_md_mayPlay_0 17 rfl
theorem d_md_mayPlay_30 : decode prog_10_method_23_code 30 = .ok (.goto 4, 3) := zD (q := (30, .goto 4, 3)) tx_md_mayPlay_0 18 rfl
theorem d_md_mayPlay_33 : decode prog_10_method_23_code 33 = .ok (.iconst 0, 1) := zD (q := (33, .iconst 0, 1)) tx_md_mayPlay_0 19 rfl
theorem d_md_mayPlay_34 : decode prog_10_method_23_code 34 = .ok (.istore 4, 2) := zD (q := (34, .istore 4, 2)) tx_md_mayPlay_0 20 rfl
theorem d_md_mayPlay_36 : decode prog_10_method_23_code 36 = .ok (.iload 4, 2) := zD (q := (36, .iload 4, 2)) tx_md_mayPlay_0 21 rfl
theorem d_md_mayPlay_38 : decode prog_10_method_23_code 38 = .ok (.ifCond .eq 37, 3) := zD (q := (38, .ifCond .eq 37, 3)) tx_md_mayPlay_0 22 rfl
theorem d_md_mayPlay_41 : decode prog_10_method_23_code 41 = .ok (.aload_n 0, 1) := zD (q := (41, .aload_n 0, 1)) tx_md_mayPlay_0 23 rfl
theorem d_md_mayPlay_42 : decode prog_10_method_23_code 42 = .ok (.iload_n 1, 1) := zD (q := (42, .iload_n 1, 1)) tx_md_mayPlay_0 24 rfl
theorem d_md_mayPlay_43 : decode prog_10_method_23_code 43 = .ok (.iload_n 2, 1) := zD (q := (43, .iload_n 2, 1)) tx_md_mayPlay_0 25 rfl
theorem d_md_mayPlay_44 : decode prog_10_method_23_code 44 = .ok (.iload_n 3, 1) := zD (q := (44, .iload_n 3, 1)) tx_md_mayPlay_0 26 rfl
theorem d_md_mayPlay_45 : decode prog_10_method_23_code 45 = .ok (.invokevirtual 141, 3) := zD (q := (45, .invokevirtual 141, 3)) tx_md_mayPlay_0 27 rfl
theorem d_md_mayPlay_48 : decode prog_10_method_23_code 48 = .ok (.ifCond .eq 27, 3) := zD (q := (48, .ifCond .eq 27, 3)) tx_md_mayPlay_0 28 rfl
theorem d_md_mayPlay_51 : decode prog_10_method_23_code 51 = .ok (.aload_n 0, 1) := zD (q := (51, .aload_n 0, 1)) tx_md_mayPlay_0 29 rfl
theorem d_md_mayPlay_52 : decode prog_10_method_23_code 52 = .ok (.getfield 113, 3) := zD (q := (52, .getfield 113, 3)) tx_md_mayPlay_0 30 rfl
theorem d_md_mayPlay_55 : decode prog_10_method_23_code 55 = .ok (.ifCond .eq 16, 3) := zD (q := (55, .ifCond .eq 16, 3)) tx_md_mayPlay_0 31 rfl
theorem d_md_mayPlay_58 : decode prog_10_method_23_code 58 = .ok (.aload_n 0, 1) := zD (q := (58, .aload_n 0, 1)) tx_md_mayPlay_0 32 rfl
theorem d_md_mayPlay_59 : decode prog_10_method_23_code 59 = .ok (.iload_n 2, 1) := zD (q := (59, .iload_n 2, 1)) tx_md_mayPlay_0 33 rfl
theorem d_md_mayPlay_60 : decode prog_10_method_23_code 60 = .ok (.iload_n 3, 1) := zD (q := (60, .iload_n 3, 1)) tx_md_mayPlay_0 34 rfl
theorem d_md_mayPlay_61 : decode prog_10_method_23_code 61 = .ok (.invokevirtual 144, 3) := zD (q := (61, .invokevirtual 144, 3)) tx_md_mayPlay_0 35 rfl
theorem d_md_mayPlay_64 : decode prog_10_method_23_code 64 = .ok (.aload_n 0, 1) := zD (q := (64, .aload_n 0, 1)) tx_md_mayPlay_0 36 rfl
theorem d_md_mayPlay_65 : decode prog_10_method_23_code 65 = .ok (.getfield 113, 3) := zD (q := (65, .getfield 113, 3)) tx_md_mayPlay_0 37 rfl
theorem d_md_mayPlay_68 : decode prog_10_method_23_code 68 = .ok (.if_icmp .ge 7, 3) := zD (q := (68, .if_icmp .ge 7, 3)) tx_md_mayPlay_0 38 rfl
theorem d_md_mayPlay_71 : decode prog_10_method_23_code 71 = .ok (.iconst 1, 1) := zD (q := (71, .iconst 1, 1)) tx_md_mayPlay_0 39 rfl
theorem d_md_mayPlay_72 : decode prog_10_method_23_code 72 = .ok (.goto 4, 3) := zD (q := (72, .goto 4, 3)) tx_md_mayPlay_0 40 rfl
theorem d_md_mayPlay_75 : decode prog_10_method_23_code 75 = .ok (.iconst 0, 1) := zD (q := (75, .iconst 0, 1)) tx_md_mayPlay_0 41 rfl
theorem d_md_mayPlay_76 : decode prog_10_method_23_code 76 = .ok (.ireturn, 1) := zD (q := (76, .ireturn, 1)) tx_md_mayPlay_0 42 rfl
def T_md_isBanned_0 : List (Nat × Instr × Nat) := [(0, .aload_n 0, 1), (1, .getfield 13, 3), (4, .iconst 2, 1), (5, .bipush 39, 2), (7, .iload_n 1, 1), (8, .imul, 1), (9, .iload_n 2, 1), (10, .iadd, 1), (11, .imul, 1), (12, .iload_n 3, 1), (13, .iadd, 1), (14, .baload, 1), (15, .ireturn, 1)]
theorem tx_md_isBanned_0 : zdec prog_10_method_16_code T_md_isBanned_0 = true := by decide +kernel
theorem d_md_isBanned_0 : decode prog_10_method_16_code 0 = .ok (.aload_n 0, 1) := zD (q := (0, .aload_n 0, 1)) tx_md_isBanned_0 0 rfl
theorem d_md_isBanned_1 : decode prog_10_method_16_code 1 = .ok (.getfield 13, 3) := zD (q := (1, .getfield 13, 3)) tx_md_isBanned_0 1 rfl
theorem d_md_isBanned_4 : decode prog_10_method_16_code 4 = .ok (.iconst 2, 1) := zD (q := (4, .iconst 2, 1)) tx_md_isBanned_0 2 rfl
theorem d_md_isBanned_5 : decode prog_10_method_16_code 5 = .ok (.bipush 39, 2) := zD (q := (5, .bipush 39, 2)) tx_md_isBanned_0 3 rfl
theorem d_md_isBanned_7 : decode prog_10_method_16_code 7 = .ok (.iload_n 1, 1) := zD (q := (7, .iload_n 1, 1)) tx_md_isBanned_0 4 rfl
theorem d_md_isBanned_8 : decode prog_10_method_16_code 8 = .ok (.imul, 1) := zD (q := (8, .imul, 1)) tx_md_isBanned_0 5 rfl
theorem d_md_isBanned_9 : decode prog_10_method_16_code 9 = .ok (.iload_n 2, 1) := zD (q := (9, .iload_n 2, 1)) tx_md_isBanned_0 6 rfl
theorem d_md_isBanned_10 : decode prog_10_method_16_code 10 = .ok (.iadd, 1) := zD (q := (10, .iadd, 1)) tx_md_isBanned_0 7 rfl
theorem d_md_isBanned_11 : decode prog_10_method_16_code 11 = .ok (.imul, 1) := zD (q := (11, .imul, 1)) tx_md_isBanned_0 8 rfl
theorem d_md_isBanned_12 : decode prog_10_method_16_code 12 = .ok (.iload_n 3, 1) := zD (q := (12, .iload_n 3, 1)) tx_md_isBanned_0 9 rfl
theorem d_md_isBanned_13 : decode prog_10_method_16_code 13 = .ok (.iadd, 1) := zD (q := (13, .iadd, 1)) tx_md_isBanned_0 10 rfl
theorem d_md_isBanned_14 : decode prog_10_method_16_code 14 = .ok (.baload, 1) := zD (q := (14, .baload, 1)) tx_md_isBanned_0 11 rfl
theorem d_md_isBanned_15 : decode prog_10_method_16_code 15 = .ok (.ireturn, 1) := zD (q := (15, .ireturn, 1)) tx_md_isBanned_0 12 rfl
def T_md_sharesWithOne_0 : List (Nat × Instr × Nat) := [(0, .iconst 0, 1), (1, .istore_n 3, 1), (2, .iconst 0, 1), (3, .istore 4, 2), (5, .iload 4, 2), (7, .aload_n 0, 1), (8, .getfield 107, 3), (11, .if_icmp .ge 99, 3), (14, .aload_n 0, 1), (15, .getfield 17, 3), (18, .iload 4, 2), (20, .iaload, 1), (21, .iload_n 1, 1), (22, .if_icmp .ne 13, 3), (25, .aload_n 0, 1), (26, .getfield 21, 3), (29, .iload 4, 2), (31, .iaload, 1), (32, .goto 25, 3), (35, .aload_n 0, 1), (36, .getfield 21, 3), (39, .iload 4, 2), (41, .iaload, 1), (42, .iload_n 1, 1), (43, .if_icmp .ne 13, 3), (46, .aload_n 0, 1), (47, .getfield 17, 3), (50, .iload 4, 2), (52, .iaload, 1), (53, .goto 4, 3), (56, .iconst (-1), 1), (57, .istore 5, 2), (59, .iload_n 3, 1), (60, .ifCond .ne 38, 3), (63, .iload 5, 2), (65, .ifCond .lt 37, 3), (68, .aload_n 0, 1), (69, .getfield 60, 3), (72, .bipush 20, 2), (74, .iload_n 2, 1), (75, .imul, 1), (76, .iload 5, 2), (78, .iadd, 1), (79, .iaload, 1), (80, .ifCond .lt 22, 3), (83, .aload_n 0, 1), (84, .getfield 63, 3), (87, .bipush 20, 2), (89, .iload_n 2, 1), (90, .imul, 1), (91, .iload 5, 2), (93, .iadd, 1), (94, .baload, 1), (95, .ifCond .eq 7, 3), (98, .iconst 1, 1), (99, .goto 4, 3), (102, .iconst 0, 1), (103, .istore_n 3, 1), (104, .iinc 4 1, 3), (107, .goto (-102), 3)]
theorem tx_md_sharesWithOne_0 : zdec prog_10_method_20_code T_md_sharesWithOne_0 = true := by decide +kernel
theorem d_md_sharesWithOne_0 : decode prog_10_method_20_code 0 = .ok (.iconst 0, 1) := zD (q := (0, .iconst 0, 1)) tx_md_sharesWithOne_0 0 rfl
theorem d_md_sharesWithOne_1 : decode prog_10_method_20_code 1 = .ok (.istore_n 3, 1) := zD (q := (1, .istore_n 3, 1)) tx_md_sharesWithOne_0 1 rfl
theorem d_md_sharesWithOne_2 : decode prog_10_method_20_code 2 = .ok (.iconst 0, 1) := zD (q := (2, .iconst 0, 1)) tx_md_sharesWithOne_0 2 rfl
theorem d_md_sharesWithOne_3 : decode prog_10_method_20_code 3 = .ok (.istore 4, 2) := zD (q := (3, .istore 4, 2)) tx_md_sharesWithOne_0 3 rfl
theorem d_md_sharesWithOne_5 : decode prog_10_method_20_code 5 = .ok (.iload 4, 2) := zD (q := (5, .iload 4, 2)) tx_md_sharesWithOne_0 4 rfl
theorem d_md_sharesWithOne_7 : decode prog_10_method_20_code 7 = .ok (.aload_n 0, 1) := zD (q := (7, .aload_n 0, 1)) tx_md_sharesWithOne_0 5 rfl
theorem d_md_sharesWithOne_8 : decode prog_10_method_20_code 8 = .ok (.getfield 107, 3) := zD (q := (8, .getfield 107, 3)) tx_md_sharesWithOne_0 6 rfl
theorem d_md_sharesWithOne_11 : decode prog_10_method_20_code 11 = .ok (.if_icmp .ge 99, 3) := zD (q := (11, .if_icmp .ge 99, 3)) tx_md_sharesWithOne_0 7 rfl
theorem d_md_sharesWithOne_14 : decode prog_10_method_20_code 14 = .ok (.aload_n 0, 1) := zD (q := (14, .aload_n 0, 1)) tx_md_sharesWithOne_0 8 rfl
theorem d_md_sharesWithOne_15 : decode prog_10_method_20_code 15 = .ok (.getfield 17, 3) := zD (q := (15, .getfield 17, 3)) tx_md_sharesWithOne_0 9 rfl
theorem d_md_sharesWithOne_18 : decode prog_10_method_20_code 18 = .ok (.iload 4, 2) := zD (q := (18, .iload 4, 2)) tx_md_sharesWithOne_0 10 rfl
theorem d_md_sharesWithOne_20 : decode prog_10_method_20_code 20 = .ok (.iaload, 1) := zD (q := (20, .iaload, 1)) tx_md_sharesWithOne_0 11 rfl
theorem d_md_sharesWithOne_21 : decode prog_10_method_20_code 21 = .ok (.iload_n 1, 1) := zD (q := (21, .iload_n 1, 1)) tx_md_sharesWithOne_0 12 rfl
theorem d_md_sharesWithOne_22 : decode prog_10_method_20_code 22 = .ok (.if_icmp .ne 13, 3) := zD (q := (22, .if_icmp .ne 13, 3)) tx_md_sharesWithOne_0 13 rfl
theorem d_md_sharesWithOne_25 : decode prog_10_method_20_code 25 = .ok (.aload_n 0, 1) := zD (q := (25, .aload_n 0, 1)) tx_md_sharesWithOne_0 14 rfl
theorem d_md_sharesWithOne_26 : decode prog_10_method_20_code 26 = .ok (.getfield 21, 3) := zD (q := (26, .getfield 21, 3)) tx_md_sharesWithOne_0 15 rfl
theorem d_md_sharesWithOne_29 : decode prog_10_method_20_code 29 = .ok (.iload 4, 2) := zD (q := (29, .iload 4, 2)) tx_md_sharesWithOne_0 16 rfl
theorem d_md_sharesWithOne_31 : decode prog_10_method_20_code 31 = .ok (.iaload, 1) := zD (q := (31, .iaload, 1)) tx_md_sharesWithOne_0 17 rfl
theorem d_md_sharesWithOne_32 : decode prog_10_method_20_code 32 = .ok (.goto 25, 3) := zD (q := (32, .goto 25, 3)) tx_md_sharesWithOne_0 18 rfl
theorem d_md_sharesWithOne_35 : decode prog_10_method_20_code 35 = .ok (.aload_n 0, 1) := zD (q := (35, .aload_n 0, 1)) tx_md_sharesWithOne_0 19 rfl
theorem d_md_sharesWithOne_36 : decode prog_10_method_20_code 36 = .ok (.getfield 21, 3) := zD (q := (36, .getfield 21, 3)) tx_md_sharesWithOne_0 20 rfl
theorem d_md_sharesWithOne_39 : decode prog_10_method_20_code 39 = .ok (.iload 4, 2) := zD (q := (39, .iload 4, 2)) tx_md_sharesWithOne_0 21 rfl
theorem d_md_sharesWithOne_41 : decode prog_10_method_20_code 41 = .ok (.iaload, 1) := zD (q := (41, .iaload, 1)) tx_md_sharesWithOne_0 22 rfl
theorem d_md_sharesWithOne_42 : decode prog_10_method_20_code 42 = .ok (.iload_n 1, 1) := zD (q := (42, .iload_n 1, 1)) tx_md_sharesWithOne_0 23 rfl
theorem d_md_sharesWithOne_43 : decode prog_10_method_20_code 43 = .ok (.if_icmp .ne 13, 3) := zD (q := (43, .if_icmp .ne 13, 3)) tx_md_sharesWithOne_0 24 rfl
theorem d_md_sharesWithOne_46 : decode prog_10_method_20_code 46 = .ok (.aload_n 0, 1) := zD (q := (46, .aload_n 0, 1)) tx_md_sharesWithOne_0 25 rfl
theorem d_md_sharesWithOne_47 : decode prog_10_method_20_code 47 = .ok (.getfield 17, 3) := zD (q := (47, .getfield 17, 3)) tx_md_sharesWithOne_0 26 rfl
theorem d_md_sharesWithOne_50 : decode prog_10_method_20_code 50 = .ok (.iload 4, 2) := zD (q := (50, .iload 4, 2)) tx_md_sharesWithOne_0 27 rfl
theorem d_md_sharesWithOne_52 : decode prog_10_method_20_code 52 = .ok (.iaload, 1) := zD (q := (52, .iaload, 1)) tx_md_sharesWithOne_0 28 rfl
theorem d_md_sharesWithOne_53 : decode prog_10_method_20_code 53 = .ok (.goto 4, 3) := zD (q := (53, .goto 4, 3)) tx_md_sharesWithOne_0 29 rfl
theorem d_md_sharesWithOne_56 : decode prog_10_method_20_code 56 = .ok (.iconst (-1), 1) := zD (q := (56, .iconst (-1), 1)) tx_md_sharesWithOne_0 30 rfl
theorem d_md_sharesWithOne_57 : decode prog_10_method_20_code 57 = .ok (.istore 5, 2) := zD (q := (57, .istore 5, 2)) tx_md_sharesWithOne_0 31 rfl
theorem d_md_sharesWithOne_59 : decode prog_10_method_20_code 59 = .ok (.iload_n 3, 1) := zD (q := (59, .iload_n 3, 1)) tx_md_sharesWithOne_0 32 rfl
theorem d_md_sharesWithOne_60 : decode prog_10_method_20_code 60 = .ok (.ifCond .ne 38, 3) := zD (q := (60, .ifCond .ne 38, 3)) tx_md_sharesWithOne_0 33 rfl
theorem d_md_sharesWithOne_63 : decode prog_10_method_20_code 63 = .ok (.iload 5, 2) := zD (q := (63, .iload 5, 2)) tx_md_sharesWithOne_0 34 rfl
theorem d_md_sharesWithOne_65 : decode prog_10_method_20_code 65 = .ok (.ifCond .lt 37, 3) := zD (q := (65, .ifCond .lt 37, 3)) tx_md_sharesWithOne_0 35 rfl
theorem d_md_sharesWithOne_68 : decode prog_10_method_20_code 68 = .ok (.aload_n 0, 1) := zD (q := (68, .aload_n 0, 1)) tx_md_sharesWithOne_0 36 rfl
theorem d_md_sharesWithOne_69 : decode prog_10_method_20_code 69 = .ok (.getfield 60, 3) := zD (q := (69, .getfield 60, 3)) tx_md_sharesWithOne_0 37 rfl
theorem d_md_sharesWithOne_72 : decode prog_10_method_20_code 72 = .ok (.bipush 20, 2) := zD (q := (72, .bipush 20, 2)) tx_md_sharesWithOne_0 38 rfl
theorem d_md_sharesWithOne_74 : decode prog_10_method_20_code 74 = .ok (.iload_n 2, 1) := zD (q := (74, .iload_n 2, 1)) tx_md_sharesWithOne_0 39 rfl
theorem d_md_sharesWithOne_75 : decode prog_10_method_20_code 75 = .ok (.imul, 1) := zD (q := (75, .imul, 1)) tx_md_sharesWithOne_0 40 rfl
theorem d_md_sharesWithOne_76 : decode prog_10_method_20_code 76 = .ok (.iload 5, 2) := zD (q := (76, .iload 5, 2)) tx_md_sharesWithOne_0 41 rfl
theorem d_md_sharesWithOne_78 : decode prog_10_method_20_code 78 = .ok (.iadd, 1) := zD (q := (78, .iadd, 1)) tx_md_sharesWithOne_0 42 rfl
theorem d_md_sharesWithOne_79 : decode prog_10_method_20_code 79 = .ok (.iaload, 1) := zD (q := (79, .iaload, 1)) tx_md_sharesWithOne_0 43 rfl
theorem d_md_sharesWithOne_80 : decode prog_10_method_20_code 80 = .ok (.ifCond .lt 22, 3) := zD (q := (80, .ifCond .lt 22, 3)) tx_md_sharesWithOne_0 44 rfl
theorem d_md_sharesWithOne_83 : decode prog_10_method_20_code 83 = .ok (.aload_n 0, 1) := zD (q := (83, .aload_n 0, 1)) tx_md_sharesWithOne_0 45 rfl
theorem d_md_sharesWithOne_84 : decode prog_10_method_20_code 84 = .ok (.getfield 63, 3) := zD (q := (84, .getfield 63, 3)) tx_md_sharesWithOne_0 46 rfl
theorem d_md_sharesWithOne_87 : decode prog_10_method_20_code 87 = .ok (.bipush 20, 2) := zD (q := (87, .bipush 20, 2)) tx_md_sharesWithOne_0 47 rfl
theorem d_md_sharesWithOne_89 : decode prog_10_method_20_code 89 = .ok (.iload_n 2, 1) := zD (q := (89, .iload_n 2, 1)) tx_md_sharesWithOne_0 48 rfl
theorem d_md_sharesWithOne_90 : decode prog_10_method_20_code 90 = .ok (.imul, 1) := zD (q := (90, .imul, 1)) tx_md_sharesWithOne_0 49 rfl
theorem d_md_sharesWithOne_91 : decode prog_10_method_20_code 91 = .ok (.iload 5, 2) := zD (q := (91, .iload 5, 2)) tx_md_sharesWithOne_0 50 rfl
theorem d_md_sharesWithOne_93 : decode prog_10_method_20_code 93 = .ok (.iadd, 1) := zD (q := (93, .iadd, 1)) tx_md_sharesWithOne_0 51 rfl
theorem d_md_sharesWithOne_94 : decode prog_10_method_20_code 94 = .ok (.baload, 1) := zD (q := (94, .baload, 1)) tx_md_sharesWithOne_0 52 rfl
theorem d_md_sharesWithOne_95 : decode prog_10_method_20_code 95 = .ok (.ifCond .eq 7, 3) := zD (q := (95, .ifCond .eq 7, 3)) tx_md_sharesWithOne_0 53 rfl
theorem d_md_sharesWithOne_98 : decode prog_10_method_20_code 98 = .ok (.iconst 1, 1) := zD (q := (98, .iconst 1, 1)) tx_md_sharesWithOne_0 54 rfl
theorem d_md_sharesWithOne_99 : decode prog_10_method_20_code 99 = .ok (.goto 4, 3) := zD (q := (99, .goto 4, 3)) tx_md_sharesWithOne_0 55 rfl
theorem d_md_sharesWithOne_102 : decode prog_10_method_20_code 102 = .ok (.iconst 0, 1) := zD (q := (102, .iconst 0, 1)) tx_md_sharesWithOne_0 56 rfl
theorem d_md_sharesWithOne_103 : decode prog_10_method_20_code 103 = .ok (.istore_n 3, 1) := zD (q := (103, .istore_n 3, 1)) tx_md_sharesWithOne_0 57 rfl
theorem d_md_sharesWithOne_104 : decode prog_10_method_20_code 104 = .ok (.iinc 4 1, 3) := zD (q := (104, .iinc 4 1, 3)) tx_md_sharesWithOne_0 58 rfl
theorem d_md_sharesWithOne_107 : decode prog_10_method_20_code 107 = .ok (.goto (-102), 3) := zD (q := (107, .goto (-102), 3)) tx_md_sharesWithOne_0 59 rfl
def T_md_sharesWithOne_1 : List (Nat × Instr × Nat) := [(110, .iload_n 3, 1), (111, .ireturn, 1)]
theorem tx_md_sharesWithOne_1 : zdec prog_10_method_20_code T_md_sharesWithOne_1 = true := by decide +kernel
theorem d_md_sharesWithOne_110 : decode prog_10_method_20_code 110 = .ok (.iload_n 3, 1) := zD (q := (110, .iload_n 3, 1)) tx_md_sharesWithOne_1 0 rfl
theorem d_md_sharesWithOne_111 : decode prog_10_method_20_code 111 = .ok (.ireturn, 1) := zD (q := (111, .ireturn, 1)) tx_md_sharesWithOne_1 1 rfl
def T_md_keepsFixed_0 : List (Nat × Instr × Nat) := [(0, .iconst 1, 1), (1, .istore 4, 2), (3, .iconst 0, 1), (4, .istore 5, 2), (6, .iload 5, 2), (8, .aload_n 0, 1), (9, .getfield 110, 3), (12, .if_icmp .ge 140, 3), (15, .aload_n 0, 1), (16, .getfield 24, 3), (19, .iload 5, 2), (21, .iaload, 1), (22, .iload_n 1, 1), (23, .if_icmp .ne 18, 3), (26, .aload_n 0, 1), (27, .getfield 27, 3), (30, .iload 5, 2), (32, .iaload, 1), (33, .iload_n 2, 1), (34, .if_icmp .ne 7, 3), (37, .iconst 1, 1), (38, .goto 4, 3), (41, .iconst 0, 1), (42, .istore 6, 2), (44, .aload_n 0, 1), (45, .getfield 24, 3), (48, .iload 5, 2), (50, .iaload, 1), (51, .iload_n 2, 1), (52, .if_icmp .ne 18, 3), (55, .aload_n 0, 1), (56, .getfield 27, 3), (59, .iload 5, 2), (61, .iaload, 1), (62, .iload_n 1, 1), (63, .if_icmp .ne 7, 3), (66, .iconst 1, 1), (67, .goto 4, 3), (70, .iconst 0, 1), (71, .istore 7, 2), (73, .aload_n 0, 1), (74, .iload 5, 2), (76, .iload_n 1, 1), (77, .invokevirtual 131, 3), (80, .ifCond .ne 13, 3), (83, .aload_n 0, 1), (84, .iload 5, 2), (86, .iload_n 2, 1), (87, .invokevirtual 131, 3), (90, .ifCond .eq 7, 3), (93, .iconst 1, 1), (94, .goto 4, 3), (97, .iconst 0, 1), (98, .istore 8, 2), (100, .iload 4, 2), (102, .ifCond .eq 41, 3), (105, .aload_n 0, 1), (106, .getfield 30, 3), (109, .iload 5, 2), (111, .iaload, 1)]
theorem tx_md_keepsFixed_0 : zdec prog_10_method_21_code T_md_keepsFixed_0 = true := by decide +kernel
theorem d_md_keepsFixed_0 : decode prog_10_method_21_code 0 = .ok (.iconst 1, 1) := zD (q := (0, .iconst 1, 1)) tx_md_keepsFixed_0 0 rfl
theorem d_md_keepsFixed_1 : decode prog_10_method_21_code 1 = .ok (.istore 4, 2) := zD (q := (1, .istore 4, 2)) tx_md_keepsFixed_0 1 rfl
theorem d_md_keepsFixed_3 : decode prog_10_method_21_code 3 = .ok (.iconst 0, 1) := zD (q := (3, .iconst 0, 1)) tx_md_keepsFixed_0 2 rfl
theorem d_md_keepsFixed_4 : decode prog_10_method_21_code 4 = .ok (.istore 5, 2) := zD (q := (4, .istore 5, 2)) tx_md_keepsFixed_0 3 rfl
theorem d_md_keepsFixed_6 : decode prog_10_method_21_code 6 = .ok (.iload 5, 2) := zD (q := (6, .iload 5, 2)) tx_md_keepsFixed_0 4 rfl
theorem d_md_keepsFixed_8 : decode prog_10_method_21_code 8 = .ok (.aload_n 0, 1) := zD (q := (8, .aload_n 0, 1)) tx_md_keepsFixed_0 5 rfl
theorem d_md_keepsFixed_9 : decode prog_10_method_21_code 9 = .ok (.getfield 110, 3) := zD (q := (9, .getfield 110, 3)) tx_md_keepsFixed_0 6 rfl
theorem d_md_keepsFixed_12 : decode prog_10_method_21_code 12 = .ok (.if_icmp .ge 140, 3) := zD (q := (12, .if_icmp .ge 140, 3)) tx_md_keepsFixed_0 7 rfl
theorem d_md_keepsFixed_15 : decode prog_10_method_21_code 15 = .ok (.aload_n 0, 1) := zD (q := (15, .aload_n 0, 1)) tx_md_keepsFixed_0 8 rfl
theorem d_md_keepsFixed_16 : decode prog_10_method_21_code 16 = .ok (.getfield 24, 3) := zD (q := (16, .getfield 24, 3)) tx_md_keepsFixed_0 9 rfl
theorem d_md_keepsFixed_19 : decode prog_10_method_21_code 19 = .ok (.iload 5, 2) := zD (q := (19, .iload 5, 2)) tx_md_keepsFixed_0 10 rfl
theorem d_md_keepsFixed_21 : decode prog_10_method_21_code 21 = .ok (.iaload, 1) := zD (q := (21, .iaload, 1)) tx_md_keepsFixed_0 11 rfl
theorem d_md_keepsFixed_22 : decode prog_10_method_21_code 22 = .ok (.iload_n 1, 1) := zD (q := (22, .iload_n 1, 1)) tx_md_keepsFixed_0 12 rfl
theorem d_md_keepsFixed_23 : decode prog_10_method_21_code 23 = .ok (.if_icmp .ne 18, 3) := zD (q := (23, .if_icmp .ne 18, 3)) tx_md_keepsFixed_0 13 rfl
theorem d_md_keepsFixed_26 : decode prog_10_method_21_code 26 = .ok (.aload_n 0, 1) := zD (q := (26, .aload_n 0, 1)) tx_md_keepsFixed_0 14 rfl
theorem d_md_keepsFixed_27 : decode prog_10_method_21_code 27 = .ok (.getfield 27, 3) := zD (q := (27, .getfield 27, 3)) tx_md_keepsFixed_0 15 rfl
theorem d_md_keepsFixed_30 : decode prog_10_method_21_code 30 = .ok (.iload 5, 2) := zD (q := (30, .iload 5, 2)) tx_md_keepsFixed_0 16 rfl
theorem d_md_keepsFixed_32 : decode prog_10_method_21_code 32 = .ok (.iaload, 1) := zD (q := (32, .iaload, 1)) tx_md_keepsFixed_0 17 rfl
theorem d_md_keepsFixed_33 : decode prog_10_method_21_code 33 = .ok (.iload_n 2, 1) := zD (q := (33, .iload_n 2, 1)) tx_md_keepsFixed_0 18 rfl
theorem d_md_keepsFixed_34 : decode prog_10_method_21_code 34 = .ok (.if_icmp .ne 7, 3) := zD (q := (34, .if_icmp .ne 7, 3)) tx_md_keepsFixed_0 19 rfl
theorem d_md_keepsFixed_37 : decode prog_10_method_21_code 37 = .ok (.iconst 1, 1) := zD (q := (37, .iconst 1, 1)) tx_md_keepsFixed_0 20 rfl
theorem d_md_keepsFixed_38 : decode prog_10_method_21_code 38 = .ok (.goto 4, 3) := zD (q := (38, .goto 4, 3)) tx_md_keepsFixed_0 21 rfl
theorem d_md_keepsFixed_41 : decode prog_10_method_21_code 41 = .ok (.iconst 0, 1) := zD (q := (41, .iconst 0, 1)) tx_md_keepsFixed_0 22 rfl
theorem d_md_keepsFixed_42 : decode prog_10_method_21_code 42 = .ok (.istore 6, 2) := zD (q := (42, .istore 6, 2)) tx_md_keepsFixed_0 23 rfl
theorem d_md_keepsFixed_44 : decode prog_10_method_21_code 44 = .ok (.aload_n 0, 1) := zD (q := (44, .aload_n 0, 1)) tx_md_keepsFixed_0 24 rfl
theorem d_md_keepsFixed_45 : decode prog_10_method_21_code 45 = .ok (.getfield 24, 3) := zD (q := (45, .getfield 24, 3)) tx_md_keepsFixed_0 25 rfl
theorem d_md_keepsFixed_48 : decode prog_10_method_21_code 48 = .ok (.iload 5, 2) := zD (q := (48, .iload 5, 2)) tx_md_keepsFixed_0 26 rfl
theorem d_md_keepsFixed_50 : decode prog_10_method_21_code 50 = .ok (.iaload, 1) := zD (q := (50, .iaload, 1)) tx_md_keepsFixed_0 27 rfl
theorem d_md_keepsFixed_51 : decode prog_10_method_21_code 51 = .ok (.iload_n 2, 1) := zD (q := (51, .iload_n 2, 1)) tx_md_keepsFixed_0 28 rfl
theorem d_md_keepsFixed_52 : decode prog_10_method_21_code 52 = .ok (.if_icmp .ne 18, 3) := zD (q := (52, .if_icmp .ne 18, 3)) tx_md_keepsFixed_0 29 rfl
theorem d_md_keepsFixed_55 : decode prog_10_method_21_code 55 = .ok (.aload_n 0, 1) := zD (q := (55, .aload_n 0, 1)) tx_md_keepsFixed_0 30 rfl
theorem d_md_keepsFixed_56 : decode prog_10_method_21_code 56 = .ok (.getfield 27, 3) := zD (q := (56, .getfield 27, 3)) tx_md_keepsFixed_0 31 rfl
theorem d_md_keepsFixed_59 : decode prog_10_method_21_code 59 = .ok (.iload 5, 2) := zD (q := (59, .iload 5, 2)) tx_md_keepsFixed_0 32 rfl
theorem d_md_keepsFixed_61 : decode prog_10_method_21_code 61 = .ok (.iaload, 1) := zD (q := (61, .iaload, 1)) tx_md_keepsFixed_0 33 rfl
theorem d_md_keepsFixed_62 : decode prog_10_method_21_code 62 = .ok (.iload_n 1, 1) := zD (q := (62, .iload_n 1, 1)) tx_md_keepsFixed_0 34 rfl
theorem d_md_keepsFixed_63 : decode prog_10_method_21_code 63 = .ok (.if_icmp .ne 7, 3) := zD (q := (63, .if_icmp .ne 7, 3)) tx_md_keepsFixed_0 35 rfl
theorem d_md_keepsFixed_66 : decode prog_10_method_21_code 66 = .ok (.iconst 1, 1) := zD (q := (66, .iconst 1, 1)) tx_md_keepsFixed_0 36 rfl
theorem d_md_keepsFixed_67 : decode prog_10_method_21_code 67 = .ok (.goto 4, 3) := zD (q := (67, .goto 4, 3)) tx_md_keepsFixed_0 37 rfl
theorem d_md_keepsFixed_70 : decode prog_10_method_21_code 70 = .ok (.iconst 0, 1) := zD (q := (70, .iconst 0, 1)) tx_md_keepsFixed_0 38 rfl
theorem d_md_keepsFixed_71 : decode prog_10_method_21_code 71 = .ok (.istore 7, 2) := zD (q := (71, .istore 7, 2)) tx_md_keepsFixed_0 39 rfl
theorem d_md_keepsFixed_73 : decode prog_10_method_21_code 73 = .ok (.aload_n 0, 1) := zD (q := (73, .aload_n 0, 1)) tx_md_keepsFixed_0 40 rfl
theorem d_md_keepsFixed_74 : decode prog_10_method_21_code 74 = .ok (.iload 5, 2) := zD (q := (74, .iload 5, 2)) tx_md_keepsFixed_0 41 rfl
theorem d_md_keepsFixed_76 : decode prog_10_method_21_code 76 = .ok (.iload_n 1, 1) := zD (q := (76, .iload_n 1, 1)) tx_md_keepsFixed_0 42 rfl
theorem d_md_keepsFixed_77 : decode prog_10_method_21_code 77 = .ok (.invokevirtual 131, 3) := zD (q := (77, .invokevirtual 131, 3)) tx_md_keepsFixed_0 43 rfl
theorem d_md_keepsFixed_80 : decode prog_10_method_21_code 80 = .ok (.ifCond .ne 13, 3) := zD (q := (80, .ifCond .ne 13, 3)) tx_md_keepsFixed_0 44 rfl
theorem d_md_keepsFixed_83 : decode prog_10_method_21_code 83 = .ok (.aload_n 0, 1) := zD (q := (83, .aload_n 0, 1)) tx_md_keepsFixed_0 45 rfl
theorem d_md_keepsFixed_84 : decode prog_10_method_21_code 84 = .ok (.iload 5, 2) := zD (q := (84, .iload 5, 2)) tx_md_keepsFixed_0 46 rfl
theorem d_md_keepsFixed_86 : decode prog_10_method_21_code 86 = .ok (.iload_n 2, 1) := zD (q := (86, .iload_n 2, 1)) tx_md_keepsFixed_0 47 rfl
theorem d_md_keepsFixed_87 : decode prog_10_method_21_code 87 = .ok (.invokevirtual 131, 3) := zD (q := (87, .invokevirtual 131, 3)) tx_md_keepsFixed_0 48 rfl
theorem d_md_keepsFixed_90 : decode prog_10_method_21_code 90 = .ok (.ifCond .eq 7, 3) := zD (q := (90, .ifCond .eq 7, 3)) tx_md_keepsFixed_0 49 rfl
theorem d_md_keepsFixed_93 : decode prog_10_method_21_code 93 = .ok (.iconst 1, 1) := zD (q := (93, .iconst 1, 1)) tx_md_keepsFixed_0 50 rfl
theorem d_md_keepsFixed_94 : decode prog_10_method_21_code 94 = .ok (.goto 4, 3) := zD (q := (94, .goto 4, 3)) tx_md_keepsFixed_0 51 rfl
theorem d_md_keepsFixed_97 : decode prog_10_method_21_code 97 = .ok (.iconst 0, 1) := zD (q := (97, .iconst 0, 1)) tx_md_keepsFixed_0 52 rfl
theorem d_md_keepsFixed_98 : decode prog_10_method_21_code 98 = .ok (.istore 8, 2) := zD (q := (98, .istore 8, 2)) tx_md_keepsFixed_0 53 rfl
theorem d_md_keepsFixed_100 : decode prog_10_method_21_code 100 = .ok (.iload 4, 2) := zD (q := (100, .iload 4, 2)) tx_md_keepsFixed_0 54 rfl
theorem d_md_keepsFixed_102 : decode prog_10_method_21_code 102 = .ok (.ifCond .eq 41, 3) := zD (q := (102, .ifCond .eq 41, 3)) tx_md_keepsFixed_0 55 rfl
theorem d_md_keepsFixed_105 : decode prog_10_method_21_code 105 = .ok (.aload_n 0, 1) := zD (q := (105, .aload_n 0, 1)) tx_md_keepsFixed_0 56 rfl
theorem d_md_keepsFixed_106 : decode prog_10_method_21_code 106 = .ok (.getfield 30, 3) := zD (q := (106, .getfield 30, 3)) tx_md_keepsFixed_0 57 rfl
theorem d_md_keepsFixed_109 : decode prog_10_method_21_code 109 = .ok (.iload 5, 2) := zD (q := (109, .iload 5, 2)) tx_md_keepsFixed_0 58 rfl
theorem d_md_keepsFixed_111 : decode prog_10_method_21_code 111 = .ok (.iaload, 1) := zD (q := (111, .iaload, 1)) tx_md_keepsFixed_0 59 rfl
def T_md_keepsFixed_1 : List (Nat × Instr × Nat) := [(112, .iload_n 3, 1), (113, .if_icmp .ne 16, 3), (116, .iload 8, 2), (118, .ifCond .eq 21, 3), (121, .iload 6, 2), (123, .ifCond .eq 20, 3), (126, .goto 13, 3), (129, .iload 6, 2), (131, .ifCond .ne 12, 3), (134, .iload 7, 2), (136, .ifCond .ne 7, 3), (139, .iconst 1, 1), (140, .goto 4, 3), (143, .iconst 0, 1), (144, .istore 4, 2), (146, .iinc 5 1, 3), (149, .goto (-143), 3), (152, .iload 4, 2), (154, .ireturn, 1)]
theorem tx_md_keepsFixed_1 : zdec prog_10_method_21_code T_md_keepsFixed_1 = true := by decide +kernel
theorem d_md_keepsFixed_112 : decode prog_10_method_21_code 112 = .ok (.iload_n 3, 1) := zD (q := (112, .iload_n 3, 1)) tx_md_keepsFixed_1 0 rfl
theorem d_md_keepsFixed_113 : decode prog_10_method_21_code 113 = .ok (.if_icmp .ne 16, 3) := zD (q := (113, .if_icmp .ne 16, 3)) tx_md_keepsFixed_1 1 rfl
theorem d_md_keepsFixed_116 : decode prog_10_method_21_code 116 = .ok (.iload 8, 2) := zD (q := (116, .iload 8, 2)) tx_md_keepsFixed_1 2 rfl
theorem d_md_keepsFixed_118 : decode prog_10_method_21_code 118 = .ok (.ifCond .eq 21, 3) := zD (q := (118, .ifCond .eq 21, 3)) tx_md_keepsFixed_1 3 rfl
theorem d_md_keepsFixed_121 : decode prog_10_method_21_code 121 = .ok (.iload 6, 2) := zD (q := (121, .iload 6, 2)) tx_md_keepsFixed_1 4 rfl
theorem d_md_keepsFixed_123 : decode prog_10_method_21_code 123 = .ok (.ifCond .eq 20, 3) := zD (q := (123, .ifCond .eq 20, 3)) tx_md_keepsFixed_1 5 rfl
theorem d_md_keepsFixed_126 : decode prog_10_method_21_code 126 = .ok (.goto 13, 3) := zD (q := (126, .goto 13, 3)) tx_md_keepsFixed_1 6 rfl
theorem d_md_keepsFixed_129 : decode prog_10_method_21_code 129 = .ok (.iload 6, 2) := zD (q := (129, .iload 6, 2)) tx_md_keepsFixed_1 7 rfl
theorem d_md_keepsFixed_131 : decode prog_10_method_21_code 131 = .ok (.ifCond .ne 12, 3) := zD (q := (131, .ifCond .ne 12, 3)) tx_md_keepsFixed_1 8 rfl
theorem d_md_keepsFixed_134 : decode prog_10_method_21_code 134 = .ok (.iload 7, 2) := zD (q := (134, .iload 7, 2)) tx_md_keepsFixed_1 9 rfl
theorem d_md_keepsFixed_136 : decode prog_10_method_21_code 136 = .ok (.ifCond .ne 7, 3) := zD (q := (136, .ifCond .ne 7, 3)) tx_md_keepsFixed_1 10 rfl
theorem d_md_keepsFixed_139 : decode prog_10_method_21_code 139 = .ok (.iconst 1, 1) := zD (q := (139, .iconst 1, 1)) tx_md_keepsFixed_1 11 rfl
theorem d_md_keepsFixed_140 : decode prog_10_method_21_code 140 = .ok (.goto 4, 3) := zD (q := (140, .goto 4, 3)) tx_md_keepsFixed_1 12 rfl
theorem d_md_keepsFixed_143 : decode prog_10_method_21_code 143 = .ok (.iconst 0, 1) := zD (q := (143, .iconst 0, 1)) tx_md_keepsFixed_1 13 rfl
theorem d_md_keepsFixed_144 : decode prog_10_method_21_code 144 = .ok (.istore 4, 2) := zD (q := (144, .istore 4, 2)) tx_md_keepsFixed_1 14 rfl
theorem d_md_keepsFixed_146 : decode prog_10_method_21_code 146 = .ok (.iinc 5 1, 3) := zD (q := (146, .iinc 5 1, 3)) tx_md_keepsFixed_1 15 rfl
theorem d_md_keepsFixed_149 : decode prog_10_method_21_code 149 = .ok (.goto (-143), 3) := zD (q := (149, .goto (-143), 3)) tx_md_keepsFixed_1 16 rfl
theorem d_md_keepsFixed_152 : decode prog_10_method_21_code 152 = .ok (.iload 4, 2) := zD (q := (152, .iload 4, 2)) tx_md_keepsFixed_1 17 rfl
theorem d_md_keepsFixed_154 : decode prog_10_method_21_code 154 = .ok (.ireturn, 1) := zD (q := (154, .ireturn, 1)) tx_md_keepsFixed_1 18 rfl
def T_md_awayBefore_0 : List (Nat × Instr × Nat) := [(0, .iconst 0, 1), (1, .istore_n 3, 1), (2, .iload_n 2, 1), (3, .iconst 1, 1), (4, .isub, 1), (5, .istore 4, 2), (7, .iload 4, 2), (9, .ifCond .lt 42, 3), (12, .aload_n 0, 1), (13, .getfield 60, 3), (16, .bipush 20, 2), (18, .iload 4, 2), (20, .imul, 1), (21, .iload_n 1, 1), (22, .iadd, 1), (23, .iaload, 1), (24, .ifCond .lt 27, 3), (27, .aload_n 0, 1), (28, .getfield 63, 3), (31, .bipush 20, 2), (33, .iload 4, 2), (35, .imul, 1), (36, .iload_n 1, 1), (37, .iadd, 1), (38, .baload, 1), (39, .ifCond .ne 12, 3), (42, .iinc 3 1, 3), (45, .iinc 4 (-1), 3), (48, .goto (-41), 3), (51, .iload_n 3, 1), (52, .ireturn, 1)]
theorem tx_md_awayBefore_0 : zdec prog_10_method_19_code T_md_awayBefore_0 = true := by decide +kernel
theorem d_md_awayBefore_0 : decode prog_10_method_19_code 0 = .ok (.iconst 0, 1) := zD (q := (0, .iconst 0, 1)) tx_md_awayBefore_0 0 rfl
theorem d_md_awayBefore_1 : decode prog_10_method_19_code 1 = .ok (.istore_n 3, 1) := zD (q := (1, .istore_n 3, 1)) tx_md_awayBefore_0 1 rfl
theorem d_md_awayBefore_2 : decode prog_10_method_19_code 2 = .ok (.iload_n 2, 1) := zD (q := (2, .iload_n 2, 1)) tx_md_awayBefore_0 2 rfl
theorem d_md_awayBefore_3 : decode prog_10_method_19_code 3 = .ok (.iconst 1, 1) := zD (q := (3, .iconst 1, 1)) tx_md_awayBefore_0 3 rfl
theorem d_md_awayBefore_4 : decode prog_10_method_19_code 4 = .ok (.isub, 1) := zD (q := (4, .isub, 1)) tx_md_awayBefore_0 4 rfl
theorem d_md_awayBefore_5 : decode prog_10_method_19_code 5 = .ok (.istore 4, 2) := zD (q := (5, .istore 4, 2)) tx_md_awayBefore_0 5 rfl
theorem d_md_awayBefore_7 : decode prog_10_method_19_code 7 = .ok (.iload 4, 2) := zD (q := (7, .iload 4, 2)) tx_md_awayBefore_0 6 rfl
theorem d_md_awayBefore_9 : decode prog_10_method_19_code 9 = .ok (.ifCond .lt 42, 3) := zD (q := (9, .ifCond .lt 42, 3)) tx_md_awayBefore_0 7 rfl
theorem d_md_awayBefore_12 : decode prog_10_method_19_code 12 = .ok (.aload_n 0, 1) := zD (q := (12, .aload_n 0, 1)) tx_md_awayBefore_0 8 rfl
theorem d_md_awayBefore_13 : decode prog_10_method_19_code 13 = .ok (.getfield 60, 3) := zD (q := (13, .getfield 60, 3)) tx_md_awayBefore_0 9 rfl
theorem d_md_awayBefore_16 : decode prog_10_method_19_code 16 = .ok (.bipush 20, 2) := zD (q := (16, .bipush 20, 2)) tx_md_awayBefore_0 10 rfl
theorem d_md_awayBefore_18 : decode prog_10_method_19_code 18 = .ok (.iload 4, 2) := zD (q := (18, .iload 4, 2)) tx_md_awayBefore_0 11 rfl
theorem d_md_awayBefore_20 : decode prog_10_method_19_code 20 = .ok (.imul, 1) := zD (q := (20, .imul, 1)) tx_md_awayBefore_0 12 rfl
theorem d_md_awayBefore_21 : decode prog_10_method_19_code 21 = .ok (.iload_n 1, 1) := zD (q := (21, .iload_n 1, 1)) tx_md_awayBefore_0 13 rfl
theorem d_md_awayBefore_22 : decode prog_10_method_19_code 22 = .ok (.iadd, 1) := zD (q := (22, .iadd, 1)) tx_md_awayBefore_0 14 rfl
theorem d_md_awayBefore_23 : decode prog_10_method_19_code 23 = .ok (.iaload, 1) := zD (q := (23, .iaload, 1)) tx_md_awayBefore_0 15 rfl
theorem d_md_awayBefore_24 : decode prog_10_method_19_code 24 = .ok (.ifCond .lt 27, 3) := zD (q := (24, .ifCond .lt 27, 3)) tx_md_awayBefore_0 16 rfl
theorem d_md_awayBefore_27 : decode prog_10_method_19_code 27 = .ok (.aload_n 0, 1) := zD (q := (27, .aload_n 0, 1)) tx_md_awayBefore_0 17 rfl
theorem d_md_awayBefore_28 : decode prog_10_method_19_code 28 = .ok (.getfield 63, 3) := zD (q := (28, .getfield 63, 3)) tx_md_awayBefore_0 18 rfl
theorem d_md_awayBefore_31 : decode prog_10_method_19_code 31 = .ok (.bipush 20, 2) := zD (q := (31, .bipush 20, 2)) tx_md_awayBefore_0 19 rfl
theorem d_md_awayBefore_33 : decode prog_10_method_19_code 33 = .ok (.iload 4, 2) := zD (q := (33, .iload 4, 2)) tx_md_awayBefore_0 20 rfl
theorem d_md_awayBefore_35 : decode prog_10_method_19_code 35 = .ok (.imul, 1) := zD (q := (35, .imul, 1)) tx_md_awayBefore_0 21 rfl
theorem d_md_awayBefore_36 : decode prog_10_method_19_code 36 = .ok (.iload_n 1, 1) := zD (q := (36, .iload_n 1, 1)) tx_md_awayBefore_0 22 rfl
theorem d_md_awayBefore_37 : decode prog_10_method_19_code 37 = .ok (.iadd, 1) := zD (q := (37, .iadd, 1)) tx_md_awayBefore_0 23 rfl
theorem d_md_awayBefore_38 : decode prog_10_method_19_code 38 = .ok (.baload, 1) := zD (q := (38, .baload, 1)) tx_md_awayBefore_0 24 rfl
theorem d_md_awayBefore_39 : decode prog_10_method_19_code 39 = .ok (.ifCond .ne 12, 3) := zD (q := (39, .ifCond .ne 12, 3)) tx_md_awayBefore_0 25 rfl
theorem d_md_awayBefore_42 : decode prog_10_method_19_code 42 = .ok (.iinc 3 1, 3) := zD (q := (42, .iinc 3 1, 3)) tx_md_awayBefore_0 26 rfl
theorem d_md_awayBefore_45 : decode prog_10_method_19_code 45 = .ok (.iinc 4 (-1), 3) := zD (q := (45, .iinc 4 (-1), 3)) tx_md_awayBefore_0 27 rfl
theorem d_md_awayBefore_48 : decode prog_10_method_19_code 48 = .ok (.goto (-41), 3) := zD (q := (48, .goto (-41), 3)) tx_md_awayBefore_0 28 rfl
theorem d_md_awayBefore_51 : decode prog_10_method_19_code 51 = .ok (.iload_n 3, 1) := zD (q := (51, .iload_n 3, 1)) tx_md_awayBefore_0 29 rfl
theorem d_md_awayBefore_52 : decode prog_10_method_19_code 52 = .ok (.ireturn, 1) := zD (q := (52, .ireturn, 1)) tx_md_awayBefore_0 30 rfl
def T_md_choose_0 : List (Nat × Instr × Nat) := [(0, .iload_n 3, 1), (1, .iconst 2, 1), (2, .idiv, 1), (3, .istore 4, 2), (5, .iload 4, 2), (7, .aload_n 0, 1), (8, .getfield 7, 3), (11, .if_icmp .ne 16, 3), (14, .aload_n 0, 1), (15, .getfield 60, 3), (18, .bipush 20, 2), (20, .iload_n 2, 1), (21, .imul, 1), (22, .iload_n 1, 1), (23, .iadd, 1), (24, .iconst (-1), 1), (25, .iastore, 1), (26, .return_, 1), (27, .aload_n 0, 1), (28, .getfield 60, 3), (31, .bipush 20, 2), (33, .iload_n 2, 1), (34, .imul, 1), (35, .iload_n 1, 1), (36, .iadd, 1), (37, .iload 4, 2), (39, .iastore, 1), (40, .aload_n 0, 1), (41, .getfield 60, 3), (44, .bipush 20, 2), (46, .iload_n 2, 1), (47, .imul, 1), (48, .iload 4, 2), (50, .iadd, 1), (51, .iload_n 1, 1), (52, .iastore, 1), (53, .aload_n 0, 1), (54, .getfield 63, 3), (57, .bipush 20, 2), (59, .iload_n 2, 1), (60, .imul, 1), (61, .iload_n 1, 1), (62, .iadd, 1), (63, .iload_n 3, 1), (64, .iconst 2, 1), (65, .irem, 1), (66, .ifCond .ne 7, 3), (69, .iconst 1, 1), (70, .goto 4, 3), (73, .iconst 0, 1), (74, .bastore, 1), (75, .aload_n 0, 1), (76, .getfield 63, 3), (79, .bipush 20, 2), (81, .iload_n 2, 1), (82, .imul, 1), (83, .iload 4, 2), (85, .iadd, 1), (86, .iload_n 3, 1), (87, .iconst 2, 1)]
theorem tx_md_choose_0 : zdec prog_10_method_26_code T_md_choose_0 = true := by decide +kernel
theorem d_md_choose_0 : decode prog_10_method_26_code 0 = .ok (.iload_n 3, 1) := zD (q := (0, .iload_n 3, 1)) tx_md_choose_0 0 rfl
theorem d_md_choose_1 : decode prog_10_method_26_code 1 = .ok (.iconst 2, 1) := zD (q := (1, .iconst 2, 1)) tx_md_choose_0 1 rfl
theorem d_md_choose_2 : decode prog_10_method_26_code 2 = .ok (.idiv, 1) := zD (q := (2, .idiv, 1)) tx_md_choose_0 2 rfl
theorem d_md_choose_3 : decode prog_10_method_26_code 3 = .ok (.istore 4, 2) := zD (q := (3, .istore 4, 2)) tx_md_choose_0 3 rfl
theorem d_md_choose_5 : decode prog_10_method_26_code 5 = .ok (.iload 4, 2) := zD (q := (5, .iload 4, 2)) tx_md_choose_0 4 rfl
theorem d_md_choose_7 : decode prog_10_method_26_code 7 = .ok (.aload_n 0, 1) := zD (q := (7, .aload_n 0, 1)) tx_md_choose_0 5 rfl
theorem d_md_choose_8 : decode prog_10_method_26_code 8 = .ok (.getfield 7, 3) := zD (q := (8, .getfield 7, 3)) tx_md_choose_0 6 rfl
theorem d_md_choose_11 : decode prog_10_method_26_code 11 = .ok (.if_icmp .ne 16, 3) := zD (q := (11, .if_icmp .ne 16, 3)) tx_md_choose_0 7 rfl
theorem d_md_choose_14 : decode prog_10_method_26_code 14 = .ok (.aload_n 0, 1) := zD (q := (14, .aload_n 0, 1)) tx_md_choose_0 8 rfl
theorem d_md_choose_15 : decode prog_10_method_26_code 15 = .ok (.getfield 60, 3) := zD (q := (15, .getfield 60, 3)) tx_md_choose_0 9 rfl
theorem d_md_choose_18 : decode prog_10_method_26_code 18 = .ok (.bipush 20, 2) := zD (q := (18, .bipush 20, 2)) tx_md_choose_0 10 rfl
theorem d_md_choose_20 : decode prog_10_method_26_code 20 = .ok (.iload_n 2, 1) := zD (q := (20, .iload_n 2, 1)) tx_md_choose_0 11 rfl
theorem d_md_choose_21 : decode prog_10_method_26_code 21 = .ok (.imul, 1) := zD (q := (21, .imul, 1)) tx_md_choose_0 12 rfl
theorem d_md_choose_22 : decode prog_10_method_26_code 22 = .ok (.iload_n 1, 1) := zD (q := (22, .iload_n 1, 1)) tx_md_choose_0 13 rfl
theorem d_md_choose_23 : decode prog_10_method_26_code 23 = .ok (.iadd, 1) := zD (q := (23, .iadd, 1)) tx_md_choose_0 14 rfl
theorem d_md_choose_24 : decode prog_10_method_26_code 24 = .ok (.iconst (-1), 1) := zD (q := (24, .iconst (-1), 1)) tx_md_choose_0 15 rfl
theorem d_md_choose_25 : decode prog_10_method_26_code 25 = .ok (.iastore, 1) := zD (q := (25, .iastore, 1)) tx_md_choose_0 16 rfl
theorem d_md_choose_26 : decode prog_10_method_26_code 26 = .ok (.return_, 1) := zD (q := (26, .return_, 1)) tx_md_choose_0 17 rfl
theorem d_md_choose_27 : decode prog_10_method_26_code 27 = .ok (.aload_n 0, 1) := zD (q := (27, .aload_n 0, 1)) tx_md_choose_0 18 rfl
theorem d_md_choose_28 : decode prog_10_method_26_code 28 = .ok (.getfield 60, 3) := zD (q := (28, .getfield 60, 3)) tx_md_choose_0 19 rfl
theorem d_md_choose_31 : decode prog_10_method_26_code 31 = .ok (.bipush 20, 2) := zD (q := (31, .bipush 20, 2)) tx_md_choose_0 20 rfl
theorem d_md_choose_33 : decode prog_10_method_26_code 33 = .ok (.iload_n 2, 1) := zD (q := (33, .iload_n 2, 1)) tx_md_choose_0 21 rfl
theorem d_md_choose_34 : decode prog_10_method_26_code 34 = .ok (.imul, 1) := zD (q := (34, .imul, 1)) tx_md_choose_0 22 rfl
theorem d_md_choose_35 : decode prog_10_method_26_code 35 = .ok (.iload_n 1, 1) := zD (q := (35, .iload_n 1, 1)) tx_md_choose_0 23 rfl
theorem d_md_choose_36 : decode prog_10_method_26_code 36 = .ok (.iadd, 1) := zD (q := (36, .iadd, 1)) tx_md_choose_0 24 rfl
theorem d_md_choose_37 : decode prog_10_method_26_code 37 = .ok (.iload 4, 2) := zD (q := (37, .iload 4, 2)) tx_md_choose_0 25 rfl
theorem d_md_choose_39 : decode prog_10_method_26_code 39 = .ok (.iastore, 1) := zD (q := (39, .iastore, 1)) tx_md_choose_0 26 rfl
theorem d_md_choose_40 : decode prog_10_method_26_code 40 = .ok (.aload_n 0, 1) := zD (q := (40, .aload_n 0, 1)) tx_md_choose_0 27 rfl
theorem d_md_choose_41 : decode prog_10_method_26_code 41 = .ok (.getfield 60, 3) := zD (q := (41, .getfield 60, 3)) tx_md_choose_0 28 rfl
theorem d_md_choose_44 : decode prog_10_method_26_code 44 = .ok (.bipush 20, 2) := zD (q := (44, .bipush 20, 2)) tx_md_choose_0 29 rfl
theorem d_md_choose_46 : decode prog_10_method_26_code 46 = .ok (.iload_n 2, 1) := zD (q := (46, .iload_n 2, 1)) tx_md_choose_0 30 rfl
theorem d_md_choose_47 : decode prog_10_method_26_code 47 = .ok (.imul, 1) := zD (q := (47, .imul, 1)) tx_md_choose_0 31 rfl
theorem d_md_choose_48 : decode prog_10_method_26_code 48 = .ok (.iload 4, 2) := zD (q := (48, .iload 4, 2)) tx_md_choose_0 32 rfl
theorem d_md_choose_50 : decode prog_10_method_26_code 50 = .ok (.iadd, 1) := zD (q := (50, .iadd, 1)) tx_md_choose_0 33 rfl
theorem d_md_choose_51 : decode prog_10_method_26_code 51 = .ok (.iload_n 1, 1) := zD (q := (51, .iload_n 1, 1)) tx_md_choose_0 34 rfl
theorem d_md_choose_52 : decode prog_10_method_26_code 52 = .ok (.iastore, 1) := zD (q := (52, .iastore, 1)) tx_md_choose_0 35 rfl
theorem d_md_choose_53 : decode prog_10_method_26_code 53 = .ok (.aload_n 0, 1) := zD (q := (53, .aload_n 0, 1)) tx_md_choose_0 36 rfl
theorem d_md_choose_54 : decode prog_10_method_26_code 54 = .ok (.getfield 63, 3) := zD (q := (54, .getfield 63, 3)) tx_md_choose_0 37 rfl
theorem d_md_choose_57 : decode prog_10_method_26_code 57 = .ok (.bipush 20, 2) := zD (q := (57, .bipush 20, 2)) tx_md_choose_0 38 rfl
theorem d_md_choose_59 : decode prog_10_method_26_code 59 = .ok (.iload_n 2, 1) := zD (q := (59, .iload_n 2, 1)) tx_md_choose_0 39 rfl
theorem d_md_choose_60 : decode prog_10_method_26_code 60 = .ok (.imul, 1) := zD (q := (60, .imul, 1)) tx_md_choose_0 40 rfl
theorem d_md_choose_61 : decode prog_10_method_26_code 61 = .ok (.iload_n 1, 1) := zD (q := (61, .iload_n 1, 1)) tx_md_choose_0 41 rfl
theorem d_md_choose_62 : decode prog_10_method_26_code 62 = .ok (.iadd, 1) := zD (q := (62, .iadd, 1)) tx_md_choose_0 42 rfl
theorem d_md_choose_63 : decode prog_10_method_26_code 63 = .ok (.iload_n 3, 1) := zD (q := (63, .iload_n 3, 1)) tx_md_choose_0 43 rfl
theorem d_md_choose_64 : decode prog_10_method_26_code 64 = .ok (.iconst 2, 1) := zD (q := (64, .iconst 2, 1)) tx_md_choose_0 44 rfl
theorem d_md_choose_65 : decode prog_10_method_26_code 65 = .ok (.irem, 1) := zD (q := (65, .irem, 1)) tx_md_choose_0 45 rfl
theorem d_md_choose_66 : decode prog_10_method_26_code 66 = .ok (.ifCond .ne 7, 3) := zD (q := (66, .ifCond .ne 7, 3)) tx_md_choose_0 46 rfl
theorem d_md_choose_69 : decode prog_10_method_26_code 69 = .ok (.iconst 1, 1) := zD (q := (69, .iconst 1, 1)) tx_md_choose_0 47 rfl
theorem d_md_choose_70 : decode prog_10_method_26_code 70 = .ok (.goto 4, 3) := zD (q := (70, .goto 4, 3)) tx_md_choose_0 48 rfl
theorem d_md_choose_73 : decode prog_10_method_26_code 73 = .ok (.iconst 0, 1) := zD (q := (73, .iconst 0, 1)) tx_md_choose_0 49 rfl
theorem d_md_choose_74 : decode prog_10_method_26_code 74 = .ok (.bastore, 1) := zD (q := (74, .bastore, 1)) tx_md_choose_0 50 rfl
theorem d_md_choose_75 : decode prog_10_method_26_code 75 = .ok (.aload_n 0, 1) := zD (q := (75, .aload_n 0, 1)) tx_md_choose_0 51 rfl
theorem d_md_choose_76 : decode prog_10_method_26_code 76 = .ok (.getfield 63, 3) := zD (q := (76, .getfield 63, 3)) tx_md_choose_0 52 rfl
theorem d_md_choose_79 : decode prog_10_method_26_code 79 = .ok (.bipush 20, 2) := zD (q := (79, .bipush 20, 2)) tx_md_choose_0 53 rfl
theorem d_md_choose_81 : decode prog_10_method_26_code 81 = .ok (.iload_n 2, 1) := zD (q := (81, .iload_n 2, 1)) tx_md_choose_0 54 rfl
theorem d_md_choose_82 : decode prog_10_method_26_code 82 = .ok (.imul, 1) := zD (q := (82, .imul, 1)) tx_md_choose_0 55 rfl
theorem d_md_choose_83 : decode prog_10_method_26_code 83 = .ok (.iload 4, 2) := zD (q := (83, .iload 4, 2)) tx_md_choose_0 56 rfl
theorem d_md_choose_85 : decode prog_10_method_26_code 85 = .ok (.iadd, 1) := zD (q := (85, .iadd, 1)) tx_md_choose_0 57 rfl
theorem d_md_choose_86 : decode prog_10_method_26_code 86 = .ok (.iload_n 3, 1) := zD (q := (86, .iload_n 3, 1)) tx_md_choose_0 58 rfl
theorem d_md_choose_87 : decode prog_10_method_26_code 87 = .ok (.iconst 2, 1) := zD (q := (87, .iconst 2, 1)) tx_md_choose_0 59 rfl
def T_md_choose_1 : List (Nat × Instr × Nat) := [(88, .irem, 1), (89, .iconst 1, 1), (90, .if_icmp .ne 7, 3), (93, .iconst 1, 1), (94, .goto 4, 3), (97, .iconst 0, 1), (98, .bastore, 1), (99, .return_, 1)]
theorem tx_md_choose_1 : zdec prog_10_method_26_code T_md_choose_1 = true := by decide +kernel
theorem d_md_choose_88 : decode prog_10_method_26_code 88 = .ok (.irem, 1) := zD (q := (88, .irem, 1)) tx_md_choose_1 0 rfl
theorem d_md_choose_89 : decode prog_10_method_26_code 89 = .ok (.iconst 1, 1) := zD (q := (89, .iconst 1, 1)) tx_md_choose_1 1 rfl
theorem d_md_choose_90 : decode prog_10_method_26_code 90 = .ok (.if_icmp .ne 7, 3) := zD (q := (90, .if_icmp .ne 7, 3)) tx_md_choose_1 2 rfl
theorem d_md_choose_93 : decode prog_10_method_26_code 93 = .ok (.iconst 1, 1) := zD (q := (93, .iconst 1, 1)) tx_md_choose_1 3 rfl
theorem d_md_choose_94 : decode prog_10_method_26_code 94 = .ok (.goto 4, 3) := zD (q := (94, .goto 4, 3)) tx_md_choose_1 4 rfl
theorem d_md_choose_97 : decode prog_10_method_26_code 97 = .ok (.iconst 0, 1) := zD (q := (97, .iconst 0, 1)) tx_md_choose_1 5 rfl
theorem d_md_choose_98 : decode prog_10_method_26_code 98 = .ok (.bastore, 1) := zD (q := (98, .bastore, 1)) tx_md_choose_1 6 rfl
theorem d_md_choose_99 : decode prog_10_method_26_code 99 = .ok (.return_, 1) := zD (q := (99, .return_, 1)) tx_md_choose_1 7 rfl
def T_md_rounds_0 : List (Nat × Instr × Nat) := [(0, .aload_n 0, 1), (1, .iconst 0, 1), (2, .putfield 87, 3), (5, .aload_n 0, 1), (6, .getfield 94, 3), (9, .ireturn, 1)]
theorem tx_md_rounds_0 : zdec prog_10_method_33_code T_md_rounds_0 = true := by decide +kernel
theorem d_md_rounds_0 : decode prog_10_method_33_code 0 = .ok (.aload_n 0, 1) := zD (q := (0, .aload_n 0, 1)) tx_md_rounds_0 0 rfl
theorem d_md_rounds_1 : decode prog_10_method_33_code 1 = .ok (.iconst 0, 1) := zD (q := (1, .iconst 0, 1)) tx_md_rounds_0 1 rfl
theorem d_md_rounds_2 : decode prog_10_method_33_code 2 = .ok (.putfield 87, 3) := zD (q := (2, .putfield 87, 3)) tx_md_rounds_0 2 rfl
theorem d_md_rounds_5 : decode prog_10_method_33_code 5 = .ok (.aload_n 0, 1) := zD (q := (5, .aload_n 0, 1)) tx_md_rounds_0 3 rfl
theorem d_md_rounds_6 : decode prog_10_method_33_code 6 = .ok (.getfield 94, 3) := zD (q := (6, .getfield 94, 3)) tx_md_rounds_0 4 rfl
theorem d_md_rounds_9 : decode prog_10_method_33_code 9 = .ok (.ireturn, 1) := zD (q := (9, .ireturn, 1)) tx_md_rounds_0 5 rfl
def T_md_opponent_0 : List (Nat × Instr × Nat) := [(0, .aload_n 0, 1), (1, .aload_n 0, 1), (2, .iload_n 1, 1), (3, .invokevirtual 119, 3), (6, .ifCond .eq 11, 3), (9, .aload_n 0, 1), (10, .iload_n 2, 1), (11, .invokevirtual 182, 3), (14, .ifCond .ne 7, 3), (17, .iconst 1, 1), (18, .goto 4, 3), (21, .iconst 0, 1), (22, .iconst 0, 1), (23, .iconst 0, 1), (24, .iconst 0, 1), (25, .invokevirtual 100, 3), (28, .ifCond .eq 7, 3), (31, .iconst 0, 1), (32, .goto 14, 3), (35, .aload_n 0, 1), (36, .getfield 33, 3), (39, .bipush 20, 2), (41, .iload_n 2, 1), (42, .imul, 1), (43, .iload_n 1, 1), (44, .iadd, 1), (45, .iaload, 1), (46, .ireturn, 1)]
theorem tx_md_opponent_0 : zdec prog_10_method_34_code T_md_opponent_0 = true := by decide +kernel
theorem d_md_opponent_0 : decode prog_10_method_34_code 0 = .ok (.aload_n 0, 1) := zD (q := (0, .aload_n 0, 1)) tx_md_opponent_0 0 rfl
theorem d_md_opponent_1 : decode prog_10_method_34_code 1 = .ok (.aload_n 0, 1) := zD (q := (1, .aload_n 0, 1)) tx_md_opponent_0 1 rfl
theorem d_md_opponent_2 : decode prog_10_method_34_code 2 = .ok (.iload_n 1, 1) := zD (q := (2, .iload_n 1, 1)) tx_md_opponent_0 2 rfl
theorem d_md_opponent_3 : decode prog_10_method_34_code 3 = .ok (.invokevirtual 119, 3) := zD (q := (3, .invokevirtual 119, 3)) tx_md_opponent_0 3 rfl
theorem d_md_opponent_6 : decode prog_10_method_34_code 6 = .ok (.ifCond .eq 11, 3) := zD (q := (6, .ifCond .eq 11, 3)) tx_md_opponent_0 4 rfl
theorem d_md_opponent_9 : decode prog_10_method_34_code 9 = .ok (.aload_n 0, 1) := zD (q := (9, .aload_n 0, 1)) tx_md_opponent_0 5 rfl
theorem d_md_opponent_10 : decode prog_10_method_34_code 10 = .ok (.iload_n 2, 1) := zD (q := (10, .iload_n 2, 1)) tx_md_opponent_0 6 rfl
theorem d_md_opponent_11 : decode prog_10_method_34_code 11 = .ok (.invokevirtual 182, 3) := zD (q := (11, .invokevirtual 182, 3)) tx_md_opponent_0 7 rfl
theorem d_md_opponent_14 : decode prog_10_method_34_code 14 = .ok (.ifCond .ne 7, 3) := zD (q := (14, .ifCond .ne 7, 3)) tx_md_opponent_0 8 rfl
theorem d_md_opponent_17 : decode prog_10_method_34_code 17 = .ok (.iconst 1, 1) := zD (q := (17, .iconst 1, 1)) tx_md_opponent_0 9 rfl
theorem d_md_opponent_18 : decode prog_10_method_34_code 18 = .ok (.goto 4, 3) := zD (q := (18, .goto 4, 3)) tx_md_opponent_0 10 rfl
theorem d_md_opponent_21 : decode prog_10_method_34_code 21 = .ok (.iconst 0, 1) := zD (q := (21, .iconst 0, 1)) tx_md_opponent_0 11 rfl
theorem d_md_opponent_22 : decode prog_10_method_34_code 22 = .ok (.iconst 0, 1) := zD (q := (22, .iconst 0, 1)) tx_md_opponent_0 12 rfl
theorem d_md_opponent_23 : decode prog_10_method_34_code 23 = .ok (.iconst 0, 1) := zD (q := (23, .iconst 0, 1)) tx_md_opponent_0 13 rfl
theorem d_md_opponent_24 : decode prog_10_method_34_code 24 = .ok (.iconst 0, 1) := zD (q := (24, .iconst 0, 1)) tx_md_opponent_0 14 rfl
theorem d_md_opponent_25 : decode prog_10_method_34_code 25 = .ok (.invokevirtual 100, 3) := zD (q := (25, .invokevirtual 100, 3)) tx_md_opponent_0 15 rfl
theorem d_md_opponent_28 : decode prog_10_method_34_code 28 = .ok (.ifCond .eq 7, 3) := zD (q := (28, .ifCond .eq 7, 3)) tx_md_opponent_0 16 rfl
theorem d_md_opponent_31 : decode prog_10_method_34_code 31 = .ok (.iconst 0, 1) := zD (q := (31, .iconst 0, 1)) tx_md_opponent_0 17 rfl
theorem d_md_opponent_32 : decode prog_10_method_34_code 32 = .ok (.goto 14, 3) := zD (q := (32, .goto 14, 3)) tx_md_opponent_0 18 rfl
theorem d_md_opponent_35 : decode prog_10_method_34_code 35 = .ok (.aload_n 0, 1) := zD (q := (35, .aload_n 0, 1)) tx_md_opponent_0 19 rfl
theorem d_md_opponent_36 : decode prog_10_method_34_code 36 = .ok (.getfield 33, 3) := zD (q := (36, .getfield 33, 3)) tx_md_opponent_0 20 rfl
theorem d_md_opponent_39 : decode prog_10_method_34_code 39 = .ok (.bipush 20, 2) := zD (q := (39, .bipush 20, 2)) tx_md_opponent_0 21 rfl
theorem d_md_opponent_41 : decode prog_10_method_34_code 41 = .ok (.iload_n 2, 1) := zD (q := (41, .iload_n 2, 1)) tx_md_opponent_0 22 rfl
theorem d_md_opponent_42 : decode prog_10_method_34_code 42 = .ok (.imul, 1) := zD (q := (42, .imul, 1)) tx_md_opponent_0 23 rfl
theorem d_md_opponent_43 : decode prog_10_method_34_code 43 = .ok (.iload_n 1, 1) := zD (q := (43, .iload_n 1, 1)) tx_md_opponent_0 24 rfl
theorem d_md_opponent_44 : decode prog_10_method_34_code 44 = .ok (.iadd, 1) := zD (q := (44, .iadd, 1)) tx_md_opponent_0 25 rfl
theorem d_md_opponent_45 : decode prog_10_method_34_code 45 = .ok (.iaload, 1) := zD (q := (45, .iaload, 1)) tx_md_opponent_0 26 rfl
theorem d_md_opponent_46 : decode prog_10_method_34_code 46 = .ok (.ireturn, 1) := zD (q := (46, .ireturn, 1)) tx_md_opponent_0 27 rfl
def T_md_isRound_0 : List (Nat × Instr × Nat) := [(0, .iload_n 1, 1), (1, .iconst 0, 1), (2, .aload_n 0, 1), (3, .getfield 94, 3), (6, .iconst 1, 1), (7, .isub, 1), (8, .invokestatic 90, 3), (11, .ireturn, 1)]
theorem tx_md_isRound_0 : zdec prog_10_method_6_code T_md_isRound_0 = true := by decide +kernel
theorem d_md_isRound_0 : decode prog_10_method_6_code 0 = .ok (.iload_n 1, 1) := zD (q := (0, .iload_n 1, 1)) tx_md_isRound_0 0 rfl
theorem d_md_isRound_1 : decode prog_10_method_6_code 1 = .ok (.iconst 0, 1) := zD (q := (1, .iconst 0, 1)) tx_md_isRound_0 1 rfl
theorem d_md_isRound_2 : decode prog_10_method_6_code 2 = .ok (.aload_n 0, 1) := zD (q := (2, .aload_n 0, 1)) tx_md_isRound_0 2 rfl
theorem d_md_isRound_3 : decode prog_10_method_6_code 3 = .ok (.getfield 94, 3) := zD (q := (3, .getfield 94, 3)) tx_md_isRound_0 3 rfl
theorem d_md_isRound_6 : decode prog_10_method_6_code 6 = .ok (.iconst 1, 1) := zD (q := (6, .iconst 1, 1)) tx_md_isRound_0 4 rfl
theorem d_md_isRound_7 : decode prog_10_method_6_code 7 = .ok (.isub, 1) := zD (q := (7, .isub, 1)) tx_md_isRound_0 5 rfl
theorem d_md_isRound_8 : decode prog_10_method_6_code 8 = .ok (.invokestatic 90, 3) := zD (q := (8, .invokestatic 90, 3)) tx_md_isRound_0 6 rfl
theorem d_md_isRound_11 : decode prog_10_method_6_code 11 = .ok (.ireturn, 1) := zD (q := (11, .ireturn, 1)) tx_md_isRound_0 7 rfl
def T_md_venue_0 : List (Nat × Instr × Nat) := [(0, .aload_n 0, 1), (1, .aload_n 0, 1), (2, .iload_n 1, 1), (3, .invokevirtual 119, 3), (6, .ifCond .eq 11, 3), (9, .aload_n 0, 1), (10, .iload_n 2, 1), (11, .invokevirtual 182, 3), (14, .ifCond .ne 7, 3), (17, .iconst 1, 1), (18, .goto 4, 3), (21, .iconst 0, 1), (22, .iconst 0, 1), (23, .iconst 0, 1), (24, .iconst 0, 1), (25, .invokevirtual 100, 3), (28, .ifCond .eq 7, 3), (31, .iconst 0, 1), (32, .goto 9, 3), (35, .aload_n 0, 1), (36, .iload_n 1, 1), (37, .iload_n 2, 1), (38, .invokevirtual 185, 3), (41, .ireturn, 1)]
theorem tx_md_venue_0 : zdec prog_10_method_36_code T_md_venue_0 = true := by decide +kernel
theorem d_md_venue_0 : decode prog_10_method_36_code 0 = .ok (.aload_n 0, 1) := zD (q := (0, .aload_n 0, 1)) tx_md_venue_0 0 rfl
theorem d_md_venue_1 : decode prog_10_method_36_code 1 = .ok (.aload_n 0, 1) := zD (q := (1, .aload_n 0, 1)) tx_md_venue_0 1 rfl
theorem d_md_venue_2 : decode prog_10_method_36_code 2 = .ok (.iload_n 1, 1) := zD (q := (2, .iload_n 1, 1)) tx_md_venue_0 2 rfl
theorem d_md_venue_3 : decode prog_10_method_36_code 3 = .ok (.invokevirtual 119, 3) := zD (q := (3, .invokevirtual 119, 3)) tx_md_venue_0 3 rfl
theorem d_md_venue_6 : decode prog_10_method_36_code 6 = .ok (.ifCond .eq 11, 3) := zD (q := (6, .ifCond .eq 11, 3)) tx_md_venue_0 4 rfl
theorem d_md_venue_9 : decode prog_10_method_36_code 9 = .ok (.aload_n 0, 1) := zD (q := (9, .aload_n 0, 1)) tx_md_venue_0 5 rfl
theorem d_md_venue_10 : decode prog_10_method_36_code 10 = .ok (.iload_n 2, 1) := zD (q := (10, .iload_n 2, 1)) tx_md_venue_0 6 rfl
theorem d_md_venue_11 : decode prog_10_method_36_code 11 = .ok (.invokevirtual 182, 3) := zD (q := (11, .invokevirtual 182, 3)) tx_md_venue_0 7 rfl
theorem d_md_venue_14 : decode prog_10_method_36_code 14 = .ok (.ifCond .ne 7, 3) := zD (q := (14, .ifCond .ne 7, 3)) tx_md_venue_0 8 rfl
theorem d_md_venue_17 : decode prog_10_method_36_code 17 = .ok (.iconst 1, 1) := zD (q := (17, .iconst 1, 1)) tx_md_venue_0 9 rfl
theorem d_md_venue_18 : decode prog_10_method_36_code 18 = .ok (.goto 4, 3) := zD (q := (18, .goto 4, 3)) tx_md_venue_0 10 rfl
theorem d_md_venue_21 : decode prog_10_method_36_code 21 = .ok (.iconst 0, 1) := zD (q := (21, .iconst 0, 1)) tx_md_venue_0 11 rfl
theorem d_md_venue_22 : decode prog_10_method_36_code 22 = .ok (.iconst 0, 1) := zD (q := (22, .iconst 0, 1)) tx_md_venue_0 12 rfl
theorem d_md_venue_23 : decode prog_10_method_36_code 23 = .ok (.iconst 0, 1) := zD (q := (23, .iconst 0, 1)) tx_md_venue_0 13 rfl
theorem d_md_venue_24 : decode prog_10_method_36_code 24 = .ok (.iconst 0, 1) := zD (q := (24, .iconst 0, 1)) tx_md_venue_0 14 rfl
theorem d_md_venue_25 : decode prog_10_method_36_code 25 = .ok (.invokevirtual 100, 3) := zD (q := (25, .invokevirtual 100, 3)) tx_md_venue_0 15 rfl
theorem d_md_venue_28 : decode prog_10_method_36_code 28 = .ok (.ifCond .eq 7, 3) := zD (q := (28, .ifCond .eq 7, 3)) tx_md_venue_0 16 rfl
theorem d_md_venue_31 : decode prog_10_method_36_code 31 = .ok (.iconst 0, 1) := zD (q := (31, .iconst 0, 1)) tx_md_venue_0 17 rfl
theorem d_md_venue_32 : decode prog_10_method_36_code 32 = .ok (.goto 9, 3) := zD (q := (32, .goto 9, 3)) tx_md_venue_0 18 rfl
theorem d_md_venue_35 : decode prog_10_method_36_code 35 = .ok (.aload_n 0, 1) := zD (q := (35, .aload_n 0, 1)) tx_md_venue_0 19 rfl
theorem d_md_venue_36 : decode prog_10_method_36_code 36 = .ok (.iload_n 1, 1) := zD (q := (36, .iload_n 1, 1)) tx_md_venue_0 20 rfl
theorem d_md_venue_37 : decode prog_10_method_36_code 37 = .ok (.iload_n 2, 1) := zD (q := (37, .iload_n 2, 1)) tx_md_venue_0 21 rfl
theorem d_md_venue_38 : decode prog_10_method_36_code 38 = .ok (.invokevirtual 185, 3) := zD (q := (38, .invokevirtual 185, 3)) tx_md_venue_0 22 rfl
theorem d_md_venue_41 : decode prog_10_method_36_code 41 = .ok (.ireturn, 1) := zD (q := (41, .ireturn, 1)) tx_md_venue_0 23 rfl
def T_md_venueOf_0 : List (Nat × Instr × Nat) := [(0, .bipush 20, 2), (2, .iload_n 2, 1), (3, .imul, 1), (4, .iload_n 1, 1), (5, .iadd, 1), (6, .istore_n 3, 1), (7, .aload_n 0, 1), (8, .getfield 33, 3), (11, .iload_n 3, 1), (12, .iaload, 1), (13, .ifCond .ge 7, 3), (16, .iconst (-1), 1), (17, .goto 17, 3), (20, .aload_n 0, 1), (21, .getfield 36, 3), (24, .iload_n 3, 1), (25, .baload, 1), (26, .ifCond .eq 7, 3), (29, .iconst 1, 1), (30, .goto 4, 3), (33, .iconst 0, 1), (34, .ireturn, 1)]
theorem tx_md_venueOf_0 : zdec prog_10_method_35_code T_md_venueOf_0 = true := by decide +kernel
theorem d_md_venueOf_0 : decode prog_10_method_35_code 0 = .ok (.bipush 20, 2) := zD (q := (0, .bipush 20, 2)) tx_md_venueOf_0 0 rfl
theorem d_md_venueOf_2 : decode prog_10_method_35_code 2 = .ok (.iload_n 2, 1) := zD (q := (2, .iload_n 2, 1)) tx_md_venueOf_0 1 rfl
theorem d_md_venueOf_3 : decode prog_10_method_35_code 3 = .ok (.imul, 1) := zD (q := (3, .imul, 1)) tx_md_venueOf_0 2 rfl
theorem d_md_venueOf_4 : decode prog_10_method_35_code 4 = .ok (.iload_n 1, 1) := zD (q := (4, .iload_n 1, 1)) tx_md_venueOf_0 3 rfl
theorem d_md_venueOf_5 : decode prog_10_method_35_code 5 = .ok (.iadd, 1) := zD (q := (5, .iadd, 1)) tx_md_venueOf_0 4 rfl
theorem d_md_venueOf_6 : decode prog_10_method_35_code 6 = .ok (.istore_n 3, 1) := zD (q := (6, .istore_n 3, 1)) tx_md_venueOf_0 5 rfl
theorem d_md_venueOf_7 : decode prog_10_method_35_code 7 = .ok (.aload_n 0, 1) := zD (q := (7, .aload_n 0, 1)) tx_md_venueOf_0 6 rfl
theorem d_md_venueOf_8 : decode prog_10_method_35_code 8 = .ok (.getfield 33, 3) := zD (q := (8, .getfield 33, 3)) tx_md_venueOf_0 7 rfl
theorem d_md_venueOf_11 : decode prog_10_method_35_code 11 = .ok (.iload_n 3, 1) := zD (q := (11, .iload_n 3, 1)) tx_md_venueOf_0 8 rfl
theorem d_md_venueOf_12 : decode prog_10_method_35_code 12 = .ok (.iaload, 1) := zD (q := (12, .iaload, 1)) tx_md_venueOf_0 9 rfl
theorem d_md_venueOf_13 : decode prog_10_method_35_code 13 = .ok (.ifCond .ge 7, 3) := zD (q := (13, .ifCond .ge 7, 3)) tx_md_venueOf_0 10 rfl
theorem d_md_venueOf_16 : decode prog_10_method_35_code 16 = .ok (.iconst (-1), 1) := zD (q := (16, .iconst (-1), 1)) tx_md_venueOf_0 11 rfl
theorem d_md_venueOf_17 : decode prog_10_method_35_code 17 = .ok (.goto 17, 3) := zD (q := (17, .goto 17, 3)) tx_md_venueOf_0 12 rfl
theorem d_md_venueOf_20 : decode prog_10_method_35_code 20 = .ok (.aload_n 0, 1) := zD (q := (20, .aload_n 0, 1)) tx_md_venueOf_0 13 rfl
theorem d_md_venueOf_21 : decode prog_10_method_35_code 21 = .ok (.getfield 36, 3) := zD (q := (21, .getfield 36, 3)) tx_md_venueOf_0 14 rfl
theorem d_md_venueOf_24 : decode prog_10_method_35_code 24 = .ok (.iload_n 3, 1) := zD (q := (24, .iload_n 3, 1)) tx_md_venueOf_0 15 rfl
theorem d_md_venueOf_25 : decode prog_10_method_35_code 25 = .ok (.baload, 1) := zD (q := (25, .baload, 1)) tx_md_venueOf_0 16 rfl
theorem d_md_venueOf_26 : decode prog_10_method_35_code 26 = .ok (.ifCond .eq 7, 3) := zD (q := (26, .ifCond .eq 7, 3)) tx_md_venueOf_0 17 rfl
theorem d_md_venueOf_29 : decode prog_10_method_35_code 29 = .ok (.iconst 1, 1) := zD (q := (29, .iconst 1, 1)) tx_md_venueOf_0 18 rfl
theorem d_md_venueOf_30 : decode prog_10_method_35_code 30 = .ok (.goto 4, 3) := zD (q := (30, .goto 4, 3)) tx_md_venueOf_0 19 rfl
theorem d_md_venueOf_33 : decode prog_10_method_35_code 33 = .ok (.iconst 0, 1) := zD (q := (33, .iconst 0, 1)) tx_md_venueOf_0 20 rfl
theorem d_md_venueOf_34 : decode prog_10_method_35_code 34 = .ok (.ireturn, 1) := zD (q := (34, .ireturn, 1)) tx_md_venueOf_0 21 rfl
def T_md_breaks_0 : List (Nat × Instr × Nat) := [(0, .aload_n 0, 1), (1, .iload_n 1, 1), (2, .iconst (-1), 1), (3, .if_icmp .eq 15, 3), (6, .aload_n 0, 1), (7, .iload_n 1, 1), (8, .invokevirtual 119, 3), (11, .ifCond .ne 7, 3), (14, .iconst 1, 1), (15, .goto 4, 3), (18, .iconst 0, 1), (19, .iconst 0, 1), (20, .iconst 0, 1), (21, .iconst 0, 1), (22, .invokevirtual 100, 3), (25, .ifCond .eq 5, 3), (28, .iconst 0, 1), (29, .ireturn, 1), (30, .iconst 0, 1), (31, .istore_n 2, 1), (32, .iconst 0, 1), (33, .istore_n 3, 1), (34, .iload_n 3, 1), (35, .aload_n 0, 1), (36, .getfield 7, 3), (39, .if_icmp .ge 31, 3), (42, .iload_n 1, 1), (43, .iconst (-1), 1), (44, .if_icmp .eq 8, 3), (47, .iload_n 3, 1), (48, .iload_n 1, 1), (49, .if_icmp .ne 13, 3), (52, .iload_n 2, 1), (53, .aload_n 0, 1), (54, .iload_n 3, 1), (55, .invokevirtual 188, 3), (58, .iadd, 1), (59, .goto 4, 3), (62, .iload_n 2, 1), (63, .istore_n 2, 1), (64, .iinc 3 1, 3), (67, .goto (-33), 3), (70, .iload_n 2, 1), (71, .ireturn, 1)]
theorem tx_md_breaks_0 : zdec prog_10_method_38_code T_md_breaks_0 = true := by decide +kernel
theorem d_md_breaks_0 : decode prog_10_method_38_code 0 = .ok (.aload_n 0, 1) := zD (q := (0, .aload_n 0, 1)) tx_md_breaks_0 0 rfl
theorem d_md_breaks_1 : decode prog_10_method_38_code 1 = .ok (.iload_n 1, 1) := zD (q := (1, .iload_n 1, 1)) tx_md_breaks_0 1 rfl
theorem d_md_breaks_2 : decode prog_10_method_38_code 2 = .ok (.iconst (-1), 1) := zD (q := (2, .iconst (-1), 1)) tx_md_breaks_0 2 rfl
theorem d_md_breaks_3 : decode prog_10_method_38_code 3 = .ok (.if_icmp .eq 15, 3) := zD (q := (3, .if_icmp .eq 15, 3)) tx_md_breaks_0 3 rfl
theorem d_md_breaks_6 : decode prog_10_method_38_code 6 = .ok (.aload_n 0, 1) := zD (q := (6, .aload_n 0, 1)) tx_md_breaks_0 4 rfl
theorem d_md_breaks_7 : decode prog_10_method_38_code 7 = .ok (.iload_n 1, 1) := zD (q := (7, .iload_n 1, 1)) tx_md_breaks_0 5 rfl
theorem d_md_breaks_8 : decode prog_10_method_38_code 8 = .ok (.invokevirtual 119, 3) := zD (q := (8, .invokevirtual 119, 3)) tx_md_breaks_0 6 rfl
theorem d_md_breaks_11 : decode prog_10_method_38_code 11 = .ok (.ifCond .ne 7, 3) := zD (q := (11, .ifCond .ne 7, 3)) tx_md_breaks_0 7 rfl
theorem d_md_breaks_14 : decode prog_10_method_38_code 14 = .ok (.iconst 1, 1) := zD (q := (14, .iconst 1, 1)) tx_md_breaks_0 8 rfl
theorem d_md_breaks_15 : decode prog_10_method_38_code 15 = .ok (.goto 4, 3) := zD (q := (15, .goto 4, 3)) tx_md_breaks_0 9 rfl
theorem d_md_breaks_18 : decode prog_10_method_38_code 18 = .ok (.iconst 0, 1) := zD (q := (18, .iconst 0, 1)) tx_md_breaks_0 10 rfl
theorem d_md_breaks_19 : decode prog_10_method_38_code 19 = .ok (.iconst 0, 1) := zD (q := (19, .iconst 0, 1)) tx_md_breaks_0 11 rfl
theorem d_md_breaks_20 : decode prog_10_method_38_code 20 = .ok (.iconst 0, 1) := zD (q := (20, .iconst 0, 1)) tx_md_breaks_0 12 rfl
theorem d_md_breaks_21 : decode prog_10_method_38_code 21 = .ok (.iconst 0, 1) := zD (q := (21, .iconst 0, 1)) tx_md_breaks_0 13 rfl
theorem d_md_breaks_22 : decode prog_10_method_38_code 22 = .ok (.invokevirtual 100, 3) := zD (q := (22, .invokevirtual 100, 3)) tx_md_breaks_0 14 rfl
theorem d_md_breaks_25 : decode prog_10_method_38_code 25 = .ok (.ifCond .eq 5, 3) := zD (q := (25, .ifCond .eq 5, 3)) tx_md_breaks_0 15 rfl
theorem d_md_breaks_28 : decode prog_10_method_38_code 28 = .ok (.iconst 0, 1) := zD (q := (28, .iconst 0, 1)) tx_md_breaks_0 16 rfl
theorem d_md_breaks_29 : decode prog_10_method_38_code 29 = .ok (.ireturn, 1) := zD (q := (29, .ireturn, 1)) tx_md_breaks_0 17 rfl
theorem d_md_breaks_30 : decode prog_10_method_38_code 30 = .ok (.iconst 0, 1) := zD (q := (30, .iconst 0, 1)) tx_md_breaks_0 18 rfl
theorem d_md_breaks_31 : decode prog_10_method_38_code 31 = .ok (.istore_n 2, 1) := zD (q := (31, .istore_n 2, 1)) tx_md_breaks_0 19 rfl
theorem d_md_breaks_32 : decode prog_10_method_38_code 32 = .ok (.iconst 0, 1) := zD (q := (32, .iconst 0, 1)) tx_md_breaks_0 20 rfl
theorem d_md_breaks_33 : decode prog_10_method_38_code 33 = .ok (.istore_n 3, 1) := zD (q := (33, .istore_n 3, 1)) tx_md_breaks_0 21 rfl
theorem d_md_breaks_34 : decode prog_10_method_38_code 34 = .ok (.iload_n 3, 1) := zD (q := (34, .iload_n 3, 1)) tx_md_breaks_0 22 rfl
theorem d_md_breaks_35 : decode prog_10_method_38_code 35 = .ok (.aload_n 0, 1) := zD (q := (35, .aload_n 0, 1)) tx_md_breaks_0 23 rfl
theorem d_md_breaks_36 : decode prog_10_method_38_code 36 = .ok (.getfield 7, 3) := zD (q := (36, .getfield 7, 3)) tx_md_breaks_0 24 rfl
theorem d_md_breaks_39 : decode prog_10_method_38_code 39 = .ok (.if_icmp .ge 31, 3) := zD (q := (39, .if_icmp .ge 31, 3)) tx_md_breaks_0 25 rfl
theorem d_md_breaks_42 : decode prog_10_method_38_code 42 = .ok (.iload_n 1, 1) := zD (q := (42, .iload_n 1, 1)) tx_md_breaks_0 26 rfl
theorem d_md_breaks_43 : decode prog_10_method_38_code 43 = .ok (.iconst (-1), 1) := zD (q := (43, .iconst (-1), 1)) tx_md_breaks_0 27 rfl
theorem d_md_breaks_44 : decode prog_10_method_38_code 44 = .ok (.if_icmp .eq 8, 3) := zD (q := (44, .if_icmp .eq 8, 3)) tx_md_breaks_0 28 rfl
theorem d_md_breaks_47 : decode prog_10_method_38_code 47 = .ok (.iload_n 3, 1) := zD (q := (47, .iload_n 3, 1)) tx_md_breaks_0 29 rfl
theorem d_md_breaks_48 : decode prog_10_method_38_code 48 = .ok (.iload_n 1, 1) := zD (q := (48, .iload_n 1, 1)) tx_md_breaks_0 30 rfl
theorem d_md_breaks_49 : decode prog_10_method_38_code 49 = .ok (.if_icmp .ne 13, 3) := zD (q := (49, .if_icmp .ne 13, 3)) tx_md_breaks_0 31 rfl
theorem d_md_breaks_52 : decode prog_10_method_38_code 52 = .ok (.iload_n 2, 1) := zD (q := (52, .iload_n 2, 1)) tx_md_breaks_0 32 rfl
theorem d_md_breaks_53 : decode prog_10_method_38_code 53 = .ok (.aload_n 0, 1) := zD (q := (53, .aload_n 0, 1)) tx_md_breaks_0 33 rfl
theorem d_md_breaks_54 : decode prog_10_method_38_code 54 = .ok (.iload_n 3, 1) := zD (q := (54, .iload_n 3, 1)) tx_md_breaks_0 34 rfl
theorem d_md_breaks_55 : decode prog_10_method_38_code 55 = .ok (.invokevirtual 188, 3) := zD (q := (55, .invokevirtual 188, 3)) tx_md_breaks_0 35 rfl
theorem d_md_breaks_58 : decode prog_10_method_38_code 58 = .ok (.iadd, 1) := zD (q := (58, .iadd, 1)) tx_md_breaks_0 36 rfl
theorem d_md_breaks_59 : decode prog_10_method_38_code 59 = .ok (.goto 4, 3) := zD (q := (59, .goto 4, 3)) tx_md_breaks_0 37 rfl
theorem d_md_breaks_62 : decode prog_10_method_38_code 62 = .ok (.iload_n 2, 1) := zD (q := (62, .iload_n 2, 1)) tx_md_breaks_0 38 rfl
theorem d_md_breaks_63 : decode prog_10_method_38_code 63 = .ok (.istore_n 2, 1) := zD (q := (63, .istore_n 2, 1)) tx_md_breaks_0 39 rfl
theorem d_md_breaks_64 : decode prog_10_method_38_code 64 = .ok (.iinc 3 1, 3) := zD (q := (64, .iinc 3 1, 3)) tx_md_breaks_0 40 rfl
theorem d_md_breaks_67 : decode prog_10_method_38_code 67 = .ok (.goto (-33), 3) := zD (q := (67, .goto (-33), 3)) tx_md_breaks_0 41 rfl
theorem d_md_breaks_70 : decode prog_10_method_38_code 70 = .ok (.iload_n 2, 1) := zD (q := (70, .iload_n 2, 1)) tx_md_breaks_0 42 rfl
theorem d_md_breaks_71 : decode prog_10_method_38_code 71 = .ok (.ireturn, 1) := zD (q := (71, .ireturn, 1)) tx_md_breaks_0 43 rfl
def T_md_breaksOf_0 : List (Nat × Instr × Nat) := [(0, .iconst 0, 1), (1, .istore_n 2, 1), (2, .iconst 1, 1), (3, .istore_n 3, 1), (4, .iload_n 3, 1), (5, .aload_n 0, 1), (6, .getfield 94, 3), (9, .if_icmp .ge 43, 3), (12, .aload_n 0, 1), (13, .iload_n 1, 1), (14, .iload_n 3, 1), (15, .invokevirtual 185, 3), (18, .ifCond .lt 26, 3), (21, .aload_n 0, 1), (22, .iload_n 1, 1), (23, .iload_n 3, 1), (24, .invokevirtual 185, 3), (27, .aload_n 0, 1), (28, .iload_n 1, 1), (29, .iload_n 3, 1), (30, .iconst 1, 1), (31, .isub, 1), (32, .invokevirtual 185, 3), (35, .if_icmp .ne 9, 3), (38, .iload_n 2, 1), (39, .iconst 1, 1), (40, .iadd, 1), (41, .goto 4, 3), (44, .iload_n 2, 1), (45, .istore_n 2, 1), (46, .iinc 3 1, 3), (49, .goto (-45), 3), (52, .iload_n 2, 1), (53, .ireturn, 1)]
theorem tx_md_breaksOf_0 : zdec prog_10_method_37_code T_md_breaksOf_0 = true := by decide +kernel
theorem d_md_breaksOf_0 : decode prog_10_method_37_code 0 = .ok (.iconst 0, 1) := zD (q := (0, .iconst 0, 1)) tx_md_breaksOf_0 0 rfl
theorem d_md_breaksOf_1 : decode prog_10_method_37_code 1 = .ok (.istore_n 2, 1) := zD (q := (1, .istore_n 2, 1)) tx_md_breaksOf_0 1 rfl
theorem d_md_breaksOf_2 : decode prog_10_method_37_code 2 = .ok (.iconst 1, 1) := zD (q := (2, .iconst 1, 1)) tx_md_breaksOf_0 2 rfl
theorem d_md_breaksOf_3 : decode prog_10_method_37_code 3 = .ok (.istore_n 3, 1) := zD (q := (3, .istore_n 3, 1)) tx_md_breaksOf_0 3 rfl
theorem d_md_breaksOf_4 : decode prog_10_method_37_code 4 = .ok (.iload_n 3, 1) := zD (q := (4, .iload_n 3, 1)) tx_md_breaksOf_0 4 rfl
theorem d_md_breaksOf_5 : decode prog_10_method_37_code 5 = .ok (.aload_n 0, 1) := zD (q := (5, .aload_n 0, 1)) tx_md_breaksOf_0 5 rfl
theorem d_md_breaksOf_6 : decode prog_10_method_37_code 6 = .ok (.getfield 94, 3) := zD (q := (6, .getfield 94, 3)) tx_md_breaksOf_0 6 rfl
theorem d_md_breaksOf_9 : decode prog_10_method_37_code 9 = .ok (.if_icmp .ge 43, 3) := zD (q := (9, .if_icmp .ge 43, 3)) tx_md_breaksOf_0 7 rfl
theorem d_md_breaksOf_12 : decode prog_10_method_37_code 12 = .ok (.aload_n 0, 1) := zD (q := (12, .aload_n 0, 1)) tx_md_breaksOf_0 8 rfl
theorem d_md_breaksOf_13 : decode prog_10_method_37_code 13 = .ok (.iload_n 1, 1) := zD (q := (13, .iload_n 1, 1)) tx_md_breaksOf_0 9 rfl
theorem d_md_breaksOf_14 : decode prog_10_method_37_code 14 = .ok (.iload_n 3, 1) := zD (q := (14, .iload_n 3, 1)) tx_md_breaksOf_0 10 rfl
theorem d_md_breaksOf_15 : decode prog_10_method_37_code 15 = .ok (.invokevirtual 185, 3) := zD (q := (15, .invokevirtual 185, 3)) tx_md_breaksOf_0 11 rfl
theorem d_md_breaksOf_18 : decode prog_10_method_37_code 18 = .ok (.ifCond .lt 26, 3) := zD (q := (18, .ifCond .lt 26, 3)) tx_md_breaksOf_0 12 rfl
theorem d_md_breaksOf_21 : decode prog_10_method_37_code 21 = .ok (.aload_n 0, 1) := zD (q := (21, .aload_n 0, 1)) tx_md_breaksOf_0 13 rfl
theorem d_md_breaksOf_22 : decode prog_10_method_37_code 22 = .ok (.iload_n 1, 1) := zD (q := (22, .iload_n 1, 1)) tx_md_breaksOf_0 14 rfl
theorem d_md_breaksOf_23 : decode prog_10_method_37_code 23 = .ok (.iload_n 3, 1) := zD (q := (23, .iload_n 3, 1)) tx_md_breaksOf_0 15 rfl
theorem d_md_breaksOf_24 : decode prog_10_method_37_code 24 = .ok (.invokevirtual 185, 3) := zD (q := (24, .invokevirtual 185, 3)) tx_md_breaksOf_0 16 rfl
theorem d_md_breaksOf_27 : decode prog_10_method_37_code 27 = .ok (.aload_n 0, 1) := zD (q := (27, .aload_n 0, 1)) tx_md_breaksOf_0 17 rfl
theorem d_md_breaksOf_28 : decode prog_10_method_37_code 28 = .ok (.iload_n 1, 1) := zD (q := (28, .iload_n 1, 1)) tx_md_breaksOf_0 18 rfl
theorem d_md_breaksOf_29 : decode prog_10_method_37_code 29 = .ok (.iload_n 3, 1) := zD (q := (29, .iload_n 3, 1)) tx_md_breaksOf_0 19 rfl
theorem d_md_breaksOf_30 : decode prog_10_method_37_code 30 = .ok (.iconst 1, 1) := zD (q := (30, .iconst 1, 1)) tx_md_breaksOf_0 20 rfl
theorem d_md_breaksOf_31 : decode prog_10_method_37_code 31 = .ok (.isub, 1) := zD (q := (31, .isub, 1)) tx_md_breaksOf_0 21 rfl
theorem d_md_breaksOf_32 : decode prog_10_method_37_code 32 = .ok (.invokevirtual 185, 3) := zD (q := (32, .invokevirtual 185, 3)) tx_md_breaksOf_0 22 rfl
theorem d_md_breaksOf_35 : decode prog_10_method_37_code 35 = .ok (.if_icmp .ne 9, 3) := zD (q := (35, .if_icmp .ne 9, 3)) tx_md_breaksOf_0 23 rfl
theorem d_md_breaksOf_38 : decode prog_10_method_37_code 38 = .ok (.iload_n 2, 1) := zD (q := (38, .iload_n 2, 1)) tx_md_breaksOf_0 24 rfl
theorem d_md_breaksOf_39 : decode prog_10_method_37_code 39 = .ok (.iconst 1, 1) := zD (q := (39, .iconst 1, 1)) tx_md_breaksOf_0 25 rfl
theorem d_md_breaksOf_40 : decode prog_10_method_37_code 40 = .ok (.iadd, 1) := zD (q := (40, .iadd, 1)) tx_md_breaksOf_0 26 rfl
theorem d_md_breaksOf_41 : decode prog_10_method_37_code 41 = .ok (.goto 4, 3) := zD (q := (41, .goto 4, 3)) tx_md_breaksOf_0 27 rfl
theorem d_md_breaksOf_44 : decode prog_10_method_37_code 44 = .ok (.iload_n 2, 1) := zD (q := (44, .iload_n 2, 1)) tx_md_breaksOf_0 28 rfl
theorem d_md_breaksOf_45 : decode prog_10_method_37_code 45 = .ok (.istore_n 2, 1) := zD (q := (45, .istore_n 2, 1)) tx_md_breaksOf_0 29 rfl
theorem d_md_breaksOf_46 : decode prog_10_method_37_code 46 = .ok (.iinc 3 1, 3) := zD (q := (46, .iinc 3 1, 3)) tx_md_breaksOf_0 30 rfl
theorem d_md_breaksOf_49 : decode prog_10_method_37_code 49 = .ok (.goto (-45), 3) := zD (q := (49, .goto (-45), 3)) tx_md_breaksOf_0 31 rfl
theorem d_md_breaksOf_52 : decode prog_10_method_37_code 52 = .ok (.iload_n 2, 1) := zD (q := (52, .iload_n 2, 1)) tx_md_breaksOf_0 32 rfl
theorem d_md_breaksOf_53 : decode prog_10_method_37_code 53 = .ok (.ireturn, 1) := zD (q := (53, .ireturn, 1)) tx_md_breaksOf_0 33 rfl
def T_md_verify_0 : List (Nat × Instr × Nat) := [(0, .aload_n 0, 1), (1, .iconst 0, 1), (2, .putfield 87, 3), (5, .aload_n 0, 1), (6, .invokevirtual 204, 3), (9, .ireturn, 1)]
theorem tx_md_verify_0 : zdec prog_10_method_44_code T_md_verify_0 = true := by decide +kernel
theorem d_md_verify_0 : decode prog_10_method_44_code 0 = .ok (.aload_n 0, 1) := zD (q := (0, .aload_n 0, 1)) tx_md_verify_0 0 rfl
theorem d_md_verify_1 : decode prog_10_method_44_code 1 = .ok (.iconst 0, 1) := zD (q := (1, .iconst 0, 1)) tx_md_verify_0 1 rfl
theorem d_md_verify_2 : decode prog_10_method_44_code 2 = .ok (.putfield 87, 3) := zD (q := (2, .putfield 87, 3)) tx_md_verify_0 2 rfl
theorem d_md_verify_5 : decode prog_10_method_44_code 5 = .ok (.aload_n 0, 1) := zD (q := (5, .aload_n 0, 1)) tx_md_verify_0 3 rfl
theorem d_md_verify_6 : decode prog_10_method_44_code 6 = .ok (.invokevirtual 204, 3) := zD (q := (6, .invokevirtual 204, 3)) tx_md_verify_0 4 rfl
theorem d_md_verify_9 : decode prog_10_method_44_code 9 = .ok (.ireturn, 1) := zD (q := (9, .ireturn, 1)) tx_md_verify_0 5 rfl
def T_md_firstBroken_0 : List (Nat × Instr × Nat) := [(0, .aload_n 0, 1), (1, .getfield 94, 3), (4, .ifCond .ne 7, 3), (7, .iconst 1, 1), (8, .goto 48, 3), (11, .aload_n 0, 1), (12, .invokevirtual 191, 3), (15, .ifCond .eq 7, 3), (18, .iconst 2, 1), (19, .goto 37, 3), (22, .aload_n 0, 1), (23, .invokevirtual 195, 3), (26, .ifCond .eq 7, 3), (29, .iconst 3, 1), (30, .goto 26, 3), (33, .aload_n 0, 1), (34, .invokevirtual 198, 3), (37, .ifCond .eq 7, 3), (40, .iconst 4, 1), (41, .goto 15, 3), (44, .aload_n 0, 1), (45, .invokevirtual 201, 3), (48, .ifCond .eq 7, 3), (51, .iconst 5, 1), (52, .goto 4, 3), (55, .iconst 0, 1), (56, .ireturn, 1)]
theorem tx_md_firstBroken_0 : zdec prog_10_method_43_code T_md_firstBroken_0 = true := by decide +kernel
theorem d_md_firstBroken_0 : decode prog_10_method_43_code 0 = .ok (.aload_n 0, 1) := zD (q := (0, .aload_n 0, 1)) tx_md_firstBroken_0 0 rfl
theorem d_md_firstBroken_1 : decode prog_10_method_43_code 1 = .ok (.getfield 94, 3) := zD (q := (1, .getfield 94, 3)) tx_md_firstBroken_0 1 rfl
theorem d_md_firstBroken_4 : decode prog_10_method_43_code 4 = .ok (.ifCond .ne 7, 3) := zD (q := (4, .ifCond .ne 7, 3)) tx_md_firstBroken_0 2 rfl
theorem d_md_firstBroken_7 : decode prog_10_method_43_code 7 = .ok (.iconst 1, 1) := zD (q := (7, .iconst 1, 1)) tx_md_firstBroken_0 3 rfl
theorem d_md_firstBroken_8 : decode prog_10_method_43_code 8 = .ok (.goto 48, 3) := zD (q := (8, .goto 48, 3)) tx_md_firstBroken_0 4 rfl
theorem d_md_firstBroken_11 : decode prog_10_method_43_code 11 = .ok (.aload_n 0, 1) := zD (q := (11, .aload_n 0, 1)) tx_md_firstBroken_0 5 rfl
theorem d_md_firstBroken_12 : decode prog_10_method_43_code 12 = .ok (.invokevirtual 191, 3) := zD (q := (12, .invokevirtual 191, 3)) tx_md_firstBroken_0 6 rfl
theorem d_md_firstBroken_15 : decode prog_10_method_43_code 15 = .ok (.ifCond .eq 7, 3) := zD (q := (15, .ifCond .eq 7, 3)) tx_md_firstBroken_0 7 rfl
theorem d_md_firstBroken_18 : decode prog_10_method_43_code 18 = .ok (.iconst 2, 1) := zD (q := (18, .iconst 2, 1)) tx_md_firstBroken_0 8 rfl
theorem d_md_firstBroken_19 : decode prog_10_method_43_code 19 = .ok (.goto 37, 3) := zD (q := (19, .goto 37, 3)) tx_md_firstBroken_0 9 rfl
theorem d_md_firstBroken_22 : decode prog_10_method_43_code 22 = .ok (.aload_n 0, 1) := zD (q := (22, .aload_n 0, 1)) tx_md_firstBroken_0 10 rfl
theorem d_md_firstBroken_23 : decode prog_10_method_43_code 23 = .ok (.invokevirtual 195, 3) := zD (q := (23, .invokevirtual 195, 3)) tx_md_firstBroken_0 11 rfl
theorem d_md_firstBroken_26 : decode prog_10_method_43_code 26 = .ok (.ifCond .eq 7, 3) := zD (q := (26, .ifCond .eq 7, 3)) tx_md_firstBroken_0 12 rfl
theorem d_md_firstBroken_29 : decode prog_10_method_43_code 29 = .ok (.iconst 3, 1) := zD (q := (29, .iconst 3, 1)) tx_md_firstBroken_0 13 rfl
theorem d_md_firstBroken_30 : decode prog_10_method_43_code 30 = .ok (.goto 26, 3) := zD (q := (30, .goto 26, 3)) tx_md_firstBroken_0 14 rfl
theorem d_md_firstBroken_33 : decode prog_10_method_43_code 33 = .ok (.aload_n 0, 1) := zD (q := (33, .aload_n 0, 1)) tx_md_firstBroken_0 15 rfl
theorem d_md_firstBroken_34 : decode prog_10_method_43_code 34 = .ok (.invokevirtual 198, 3) := zD (q := (34, .invokevirtual 198, 3)) tx_md_firstBroken_0 16 rfl
theorem d_md_firstBroken_37 : decode prog_10_method_43_code 37 = .ok (.ifCond .eq 7, 3) := zD (q := (37, .ifCond .eq 7, 3)) tx_md_firstBroken_0 17 rfl
theorem d_md_firstBroken_40 : decode prog_10_method_43_code 40 = .ok (.iconst 4, 1) := zD (q := (40, .iconst 4, 1)) tx_md_firstBroken_0 18 rfl
theorem d_md_firstBroken_41 : decode prog_10_method_43_code 41 = .ok (.goto 15, 3) := zD (q := (41, .goto 15, 3)) tx_md_firstBroken_0 19 rfl
theorem d_md_firstBroken_44 : decode prog_10_method_43_code 44 = .ok (.aload_n 0, 1) := zD (q := (44, .aload_n 0, 1)) tx_md_firstBroken_0 20 rfl
theorem d_md_firstBroken_45 : decode prog_10_method_43_code 45 = .ok (.invokevirtual 201, 3) := zD (q := (45, .invokevirtual 201, 3)) tx_md_firstBroken_0 21 rfl
theorem d_md_firstBroken_48 : decode prog_10_method_43_code 48 = .ok (.ifCond .eq 7, 3) := zD (q := (48, .ifCond .eq 7, 3)) tx_md_firstBroken_0 22 rfl
theorem d_md_firstBroken_51 : decode prog_10_method_43_code 51 = .ok (.iconst 5, 1) := zD (q := (51, .iconst 5, 1)) tx_md_firstBroken_0 23 rfl
theorem d_md_firstBroken_52 : decode prog_10_method_43_code 52 = .ok (.goto 4, 3) := zD (q := (52, .goto 4, 3)) tx_md_firstBroken_0 24 rfl
theorem d_md_firstBroken_55 : decode prog_10_method_43_code 55 = .ok (.iconst 0, 1) := zD (q := (55, .iconst 0, 1)) tx_md_firstBroken_0 25 rfl
theorem d_md_firstBroken_56 : decode prog_10_method_43_code 56 = .ok (.ireturn, 1) := zD (q := (56, .ireturn, 1)) tx_md_firstBroken_0 26 rfl
def T_md_breaksBan_0 : List (Nat × Instr × Nat) := [(0, .iconst 0, 1), (1, .istore_n 1, 1), (2, .iconst 0, 1), (3, .istore_n 2, 1), (4, .iload_n 2, 1), (5, .aload_n 0, 1), (6, .getfield 94, 3), (9, .if_icmp .ge 74, 3), (12, .iconst 0, 1), (13, .istore_n 3, 1), (14, .iload_n 3, 1), (15, .aload_n 0, 1), (16, .getfield 7, 3), (19, .if_icmp .ge 58, 3), (22, .aload_n 0, 1), (23, .iload_n 3, 1), (24, .iload_n 2, 1), (25, .invokevirtual 185, 3), (28, .istore 4, 2), (30, .iload_n 1, 1), (31, .ifCond .ne 34, 3), (34, .iload 4, 2), (36, .iconst 1, 1), (37, .if_icmp .ne 13, 3), (40, .aload_n 0, 1), (41, .iload_n 3, 1), (42, .iload_n 2, 1), (43, .iconst 0, 1), (44, .invokevirtual 135, 3), (47, .ifCond .ne 18, 3), (50, .iload 4, 2), (52, .ifCond .ne 17, 3), (55, .aload_n 0, 1), (56, .iload_n 3, 1), (57, .iload_n 2, 1), (58, .iconst 1, 1), (59, .invokevirtual 135, 3), (62, .ifCond .eq 7, 3), (65, .iconst 1, 1), (66, .goto 4, 3), (69, .iconst 0, 1), (70, .istore_n 1, 1), (71, .iinc 3 1, 3), (74, .goto (-60), 3), (77, .iinc 2 1, 3), (80, .goto (-76), 3), (83, .iload_n 1, 1), (84, .ireturn, 1)]
theorem tx_md_breaksBan_0 : zdec prog_10_method_39_code T_md_breaksBan_0 = true := by decide +kernel
theorem d_md_breaksBan_0 : decode prog_10_method_39_code 0 = .ok (.iconst 0, 1) := zD (q := (0, .iconst 0, 1)) tx_md_breaksBan_0 0 rfl
theorem d_md_breaksBan_1 : decode prog_10_method_39_code 1 = .ok (.istore_n 1, 1) := zD (q := (1, .istore_n 1, 1)) tx_md_breaksBan_0 1 rfl
theorem d_md_breaksBan_2 : decode prog_10_method_39_code 2 = .ok (.iconst 0, 1) := zD (q := (2, .iconst 0, 1)) tx_md_breaksBan_0 2 rfl
theorem d_md_breaksBan_3 : decode prog_10_method_39_code 3 = .ok (.istore_n 2, 1) := zD (q := (3, .istore_n 2, 1)) tx_md_breaksBan_0 3 rfl
theorem d_md_breaksBan_4 : decode prog_10_method_39_code 4 = .ok (.iload_n 2, 1) := zD (q := (4, .iload_n 2, 1)) tx_md_breaksBan_0 4 rfl
theorem d_md_breaksBan_5 : decode prog_10_method_39_code 5 = .ok (.aload_n 0, 1) := zD (q := (5, .aload_n 0, 1)) tx_md_breaksBan_0 5 rfl
theorem d_md_breaksBan_6 : decode prog_10_method_39_code 6 = .ok (.getfield 94, 3) := zD (q := (6, .getfield 94, 3)) tx_md_breaksBan_0 6 rfl
theorem d_md_breaksBan_9 : decode prog_10_method_39_code 9 = .ok (.if_icmp .ge 74, 3) := zD (q := (9, .if_icmp .ge 74, 3)) tx_md_breaksBan_0 7 rfl
theorem d_md_breaksBan_12 : decode prog_10_method_39_code 12 = .ok (.iconst 0, 1) := zD (q := (12, .iconst 0, 1)) tx_md_breaksBan_0 8 rfl
theorem d_md_breaksBan_13 : decode prog_10_method_39_code 13 = .ok (.istore_n 3, 1) := zD (q := (13, .istore_n 3, 1)) tx_md_breaksBan_0 9 rfl
theorem d_md_breaksBan_14 : decode prog_10_method_39_code 14 = .ok (.iload_n 3, 1) := zD (q := (14, .iload_n 3, 1)) tx_md_breaksBan_0 10 rfl
theorem d_md_breaksBan_15 : decode prog_10_method_39_code 15 = .ok (.aload_n 0, 1) := zD (q := (15, .aload_n 0, 1)) tx_md_breaksBan_0 11 rfl
theorem d_md_breaksBan_16 : decode prog_10_method_39_code 16 = .ok (.getfield 7, 3) := zD (q := (16, .getfield 7, 3)) tx_md_breaksBan_0 12 rfl
theorem d_md_breaksBan_19 : decode prog_10_method_39_code 19 = .ok (.if_icmp .ge 58, 3) := zD (q := (19, .if_icmp .ge 58, 3)) tx_md_breaksBan_0 13 rfl
theorem d_md_breaksBan_22 : decode prog_10_method_39_code 22 = .ok (.aload_n 0, 1) := zD (q := (22, .aload_n 0, 1)) tx_md_breaksBan_0 14 rfl
theorem d_md_breaksBan_23 : decode prog_10_method_39_code 23 = .ok (.iload_n 3, 1) := zD (q := (23, .iload_n 3, 1)) tx_md_breaksBan_0 15 rfl
theorem d_md_breaksBan_24 : decode prog_10_method_39_code 24 = .ok (.iload_n 2, 1) := zD (q := (24, .iload_n 2, 1)) tx_md_breaksBan_0 16 rfl
theorem d_md_breaksBan_25 : decode prog_10_method_39_code 25 = .ok (.invokevirtual 185, 3) := zD (q := (25, .invokevirtual 185, 3)) tx_md_breaksBan_0 17 rfl
theorem d_md_breaksBan_28 : decode prog_10_method_39_code 28 = .ok (.istore 4, 2) := zD (q := (28, .istore 4, 2)) tx_md_breaksBan_0 18 rfl
theorem d_md_breaksBan_30 : decode prog_10_method_39_code 30 = .ok (.iload_n 1, 1) := zD (q := (30, .iload_n 1, 1)) tx_md_breaksBan_0 19 rfl
theorem d_md_breaksBan_31 : decode prog_10_method_39_code 31 = .ok (.ifCond .ne 34, 3) := zD (q := (31, .ifCond .ne 34, 3)) tx_md_breaksBan_0 20 rfl
theorem d_md_breaksBan_34 : decode prog_10_method_39_code 34 = .ok (.iload 4, 2) := zD (q := (34, .iload 4, 2)) tx_md_breaksBan_0 21 rfl
theorem d_md_breaksBan_36 : decode prog_10_method_39_code 36 = .ok (.iconst 1, 1) := zD (q := (36, .iconst 1, 1)) tx_md_breaksBan_0 22 rfl
theorem d_md_breaksBan_37 : decode prog_10_method_39_code 37 = .ok (.if_icmp .ne 13, 3) := zD (q := (37, .if_icmp .ne 13, 3)) tx_md_breaksBan_0 23 rfl
theorem d_md_breaksBan_40 : decode prog_10_method_39_code 40 = .ok (.aload_n 0, 1) := zD (q := (40, .aload_n 0, 1)) tx_md_breaksBan_0 24 rfl
theorem d_md_breaksBan_41 : decode prog_10_method_39_code 41 = .ok (.iload_n 3, 1) := zD (q := (41, .iload_n 3, 1)) tx_md_breaksBan_0 25 rfl
theorem d_md_breaksBan_42 : decode prog_10_method_39_code 42 = .ok (.iload_n 2, 1) := zD (q := (42, .iload_n 2, 1)) tx_md_breaksBan_0 26 rfl
theorem d_md_breaksBan_43 : decode prog_10_method_39_code 43 = .ok (.iconst 0, 1) := zD (q := (43, .iconst 0, 1)) tx_md_breaksBan_0 27 rfl
theorem d_md_breaksBan_44 : decode prog_10_method_39_code 44 = .ok (.invokevirtual 135, 3) := zD (q := (44, .invokevirtual 135, 3)) tx_md_breaksBan_0 28 rfl
theorem d_md_breaksBan_47 : decode prog_10_method_39_code 47 = .ok (.ifCond .ne 18, 3) := zD (q := (47, .ifCond .ne 18, 3)) tx_md_breaksBan_0 29 rfl
theorem d_md_breaksBan_50 : decode prog_10_method_39_code 50 = .ok (.iload 4, 2) := zD (q := (50, .iload 4, 2)) tx_md_breaksBan_0 30 rfl
theorem d_md_breaksBan_52 : decode prog_10_method_39_code 52 = .ok (.ifCond .ne 17, 3) := zD (q := (52, .ifCond .ne 17, 3)) tx_md_breaksBan_0 31 rfl
theorem d_md_breaksBan_55 : decode prog_10_method_39_code 55 = .ok (.aload_n 0, 1) := zD (q := (55, .aload_n 0, 1)) tx_md_breaksBan_0 32 rfl
theorem d_md_breaksBan_56 : decode prog_10_method_39_code 56 = .ok (.iload_n 3, 1) := zD (q := (56, .iload_n 3, 1)) tx_md_breaksBan_0 33 rfl
theorem d_md_breaksBan_57 : decode prog_10_method_39_code 57 = .ok (.iload_n 2, 1) := zD (q := (57, .iload_n 2, 1)) tx_md_breaksBan_0 34 rfl
theorem d_md_breaksBan_58 : decode prog_10_method_39_code 58 = .ok (.iconst 1, 1) := zD (q := (58, .iconst 1, 1)) tx_md_breaksBan_0 35 rfl
theorem d_md_breaksBan_59 : decode prog_10_method_39_code 59 = .ok (.invokevirtual 135, 3) := zD (q := (59, .invokevirtual 135, 3)) tx_md_breaksBan_0 36 rfl
theorem d_md_breaksBan_62 : decode prog_10_method_39_code 62 = .ok (.ifCond .eq 7, 3) := zD (q := (62, .ifCond .eq 7, 3)) tx_md_breaksBan_0 37 rfl
theorem d_md_breaksBan_65 : decode prog_10_method_39_code 65 = .ok (.iconst 1, 1) := zD (q := (65, .iconst 1, 1)) tx_md_breaksBan_0 38 rfl
theorem d_md_breaksBan_66 : decode prog_10_method_39_code 66 = .ok (.goto 4, 3) := zD (q := (66, .goto 4, 3)) tx_md_breaksBan_0 39 rfl
theorem d_md_breaksBan_69 : decode prog_10_method_39_code 69 = .ok (.iconst 0, 1) := zD (q := (69, .iconst 0, 1)) tx_md_breaksBan_0 40 rfl
theorem d_md_breaksBan_70 : decode prog_10_method_39_code 70 = .ok (.istore_n 1, 1) := zD (q := (70, .istore_n 1, 1)) tx_md_breaksBan_0 41 rfl
theorem d_md_breaksBan_71 : decode prog_10_method_39_code 71 = .ok (.iinc 3 1, 3) := zD (q := (71, .iinc 3 1, 3)) tx_md_breaksBan_0 42 rfl
theorem d_md_breaksBan_74 : decode prog_10_method_39_code 74 = .ok (.goto (-60), 3) := zD (q := (74, .goto (-60), 3)) tx_md_breaksBan_0 43 rfl
theorem d_md_breaksBan_77 : decode prog_10_method_39_code 77 = .ok (.iinc 2 1, 3) := zD (q := (77, .iinc 2 1, 3)) tx_md_breaksBan_0 44 rfl
theorem d_md_breaksBan_80 : decode prog_10_method_39_code 80 = .ok (.goto (-76), 3) := zD (q := (80, .goto (-76), 3)) tx_md_breaksBan_0 45 rfl
theorem d_md_breaksBan_83 : decode prog_10_method_39_code 83 = .ok (.iload_n 1, 1) := zD (q := (83, .iload_n 1, 1)) tx_md_breaksBan_0 46 rfl
theorem d_md_breaksBan_84 : decode prog_10_method_39_code 84 = .ok (.ireturn, 1) := zD (q := (84, .ireturn, 1)) tx_md_breaksBan_0 47 rfl
def T_md_breaksPair_0 : List (Nat × Instr × Nat) := [(0, .iconst 0, 1), (1, .istore_n 1, 1), (2, .iconst 0, 1), (3, .istore_n 2, 1), (4, .iload_n 2, 1), (5, .aload_n 0, 1), (6, .getfield 107, 3), (9, .if_icmp .ge 65, 3), (12, .iconst 0, 1), (13, .istore_n 3, 1), (14, .iload_n 3, 1), (15, .aload_n 0, 1), (16, .getfield 94, 3), (19, .if_icmp .ge 49, 3), (22, .iload_n 1, 1), (23, .ifCond .ne 33, 3), (26, .aload_n 0, 1), (27, .aload_n 0, 1), (28, .getfield 17, 3), (31, .iload_n 2, 1), (32, .iaload, 1), (33, .iload_n 3, 1), (34, .invokevirtual 185, 3), (37, .iconst 1, 1), (38, .if_icmp .ne 22, 3), (41, .aload_n 0, 1), (42, .aload_n 0, 1), (43, .getfield 21, 3), (46, .iload_n 2, 1), (47, .iaload, 1), (48, .iload_n 3, 1), (49, .invokevirtual 185, 3), (52, .iconst 1, 1), (53, .if_icmp .ne 7, 3), (56, .iconst 1, 1), (57, .goto 4, 3), (60, .iconst 0, 1), (61, .istore_n 1, 1), (62, .iinc 3 1, 3), (65, .goto (-51), 3), (68, .iinc 2 1, 3), (71, .goto (-67), 3), (74, .iload_n 1, 1), (75, .ireturn, 1)]
theorem tx_md_breaksPair_0 : zdec prog_10_method_40_code T_md_breaksPair_0 = true := by decide +kernel
theorem d_md_breaksPair_0 : decode prog_10_method_40_code 0 = .ok (.iconst 0, 1) := zD (q := (0, .iconst 0, 1)) tx_md_breaksPair_0 0 rfl
theorem d_md_breaksPair_1 : decode prog_10_method_40_code 1 = .ok (.istore_n 1, 1) := zD (q := (1, .istore_n 1, 1)) tx_md_breaksPair_0 1 rfl
theorem d_md_breaksPair_2 : decode prog_10_method_40_code 2 = .ok (.iconst 0, 1) := zD (q := (2, .iconst 0, 1)) tx_md_breaksPair_0 2 rfl
theorem d_md_breaksPair_3 : decode prog_10_method_40_code 3 = .ok (.istore_n 2, 1) := zD (q := (3, .istore_n 2, 1)) tx_md_breaksPair_0 3 rfl
theorem d_md_breaksPair_4 : decode prog_10_method_40_code 4 = .ok (.iload_n 2, 1) := zD (q := (4, .iload_n 2, 1)) tx_md_breaksPair_0 4 rfl
theorem d_md_breaksPair_5 : decode prog_10_method_40_code 5 = .ok (.aload_n 0, 1) := zD (q := (5, .aload_n 0, 1)) tx_md_breaksPair_0 5 rfl
theorem d_md_breaksPair_6 : decode prog_10_method_40_code 6 = .ok (.getfield 107, 3) := zD (q := (6, .getfield 107, 3)) tx_md_breaksPair_0 6 rfl
theorem d_md_breaksPair_9 : decode prog_10_method_40_code 9 = .ok (.if_icmp .ge 65, 3) := zD (q := (9, .if_icmp .ge 65, 3)) tx_md_breaksPair_0 7 rfl
theorem d_md_breaksPair_12 : decode prog_10_method_40_code 12 = .ok (.iconst 0, 1) := zD (q := (12, .iconst 0, 1)) tx_md_breaksPair_0 8 rfl
theorem d_md_breaksPair_13 : decode prog_10_method_40_code 13 = .ok (.istore_n 3, 1) := zD (q := (13, .istore_n 3, 1)) tx_md_breaksPair_0 9 rfl
theorem d_md_breaksPair_14 : decode prog_10_method_40_code 14 = .ok (.iload_n 3, 1) := zD (q := (14, .iload_n 3, 1)) tx_md_breaksPair_0 10 rfl
theorem d_md_breaksPair_15 : decode prog_10_method_40_code 15 = .ok (.aload_n 0, 1) := zD (q := (15, .aload_n 0, 1)) tx_md_breaksPair_0 11 rfl
theorem d_md_breaksPair_16 : decode prog_10_method_40_code 16 = .ok (.getfield 94, 3) := zD (q := (16, .getfield 94, 3)) tx_md_breaksPair_0 12 rfl
theorem d_md_breaksPair_19 : decode prog_10_method_40_code 19 = .ok (.if_icmp .ge 49, 3) := zD (q := (19, .if_icmp .ge 49, 3)) tx_md_breaksPair_0 13 rfl
theorem d_md_breaksPair_22 : decode prog_10_method_40_code 22 = .ok (.iload_n 1, 1) := zD (q := (22, .iload_n 1, 1)) tx_md_breaksPair_0 14 rfl
theorem d_md_breaksPair_23 : decode prog_10_method_40_code 23 = .ok (.ifCond .ne 33, 3) := zD (q := (23, .ifCond .ne 33, 3)) tx_md_breaksPair_0 15 rfl
theorem d_md_breaksPair_26 : decode prog_10_method_40_code 26 = .ok (.aload_n 0, 1) := zD (q := (26, .aload_n 0, 1)) tx_md_breaksPair_0 16 rfl
theorem d_md_breaksPair_27 : decode prog_10_method_40_code 27 = .ok (.aload_n 0, 1) := zD (q := (27, .aload_n 0, 1)) tx_md_breaksPair_0 17 rfl
theorem d_md_breaksPair_28 : decode prog_10_method_40_code 28 = .ok (.getfield 17, 3) := zD (q := (28, .getfield 17, 3)) tx_md_breaksPair_0 18 rfl
theorem d_md_breaksPair_31 : decode prog_10_method_40_code 31 = .ok (.iload_n 2, 1) := zD (q := (31, .iload_n 2, 1)) tx_md_breaksPair_0 19 rfl
theorem d_md_breaksPair_32 : decode prog_10_method_40_code 32 = .ok (.iaload, 1) := zD (q := (32, .iaload, 1)) tx_md_breaksPair_0 20 rfl
theorem d_md_breaksPair_33 : decode prog_10_method_40_code 33 = .ok (.iload_n 3, 1) := zD (q := (33, .iload_n 3, 1)) tx_md_breaksPair_0 21 rfl
theorem d_md_breaksPair_34 : decode prog_10_method_40_code 34 = .ok (.invokevirtual 185, 3) := zD (q := (34, .invokevirtual 185, 3)) tx_md_breaksPair_0 22 rfl
theorem d_md_breaksPair_37 : decode prog_10_method_40_code 37 = .ok (.iconst 1, 1) := zD (q := (37, .iconst 1, 1)) tx_md_breaksPair_0 23 rfl
theorem d_md_breaksPair_38 : decode prog_10_method_40_code 38 = .ok (.if_icmp .ne 22, 3) := zD (q := (38, .if_icmp .ne 22, 3)) tx_md_breaksPair_0 24 rfl
theorem d_md_breaksPair_41 : decode prog_10_method_40_code 41 = .ok (.aload_n 0, 1) := zD (q := (41, .aload_n 0, 1)) tx_md_breaksPair_0 25 rfl
theorem d_md_breaksPair_42 : decode prog_10_method_40_code 42 = .ok (.aload_n 0, 1) := zD (q := (42, .aload_n 0, 1)) tx_md_breaksPair_0 26 rfl
theorem d_md_breaksPair_43 : decode prog_10_method_40_code 43 = .ok (.getfield 21, 3) := zD (q := (43, .getfield 21, 3)) tx_md_breaksPair_0 27 rfl
theorem d_md_breaksPair_46 : decode prog_10_method_40_code 46 = .ok (.iload_n 2, 1) := zD (q := (46, .iload_n 2, 1)) tx_md_breaksPair_0 28 rfl
theorem d_md_breaksPair_47 : decode prog_10_method_40_code 47 = .ok (.iaload, 1) := zD (q := (47, .iaload, 1)) tx_md_breaksPair_0 29 rfl
theorem d_md_breaksPair_48 : decode prog_10_method_40_code 48 = .ok (.iload_n 3, 1) := zD (q := (48, .iload_n 3, 1)) tx_md_breaksPair_0 30 rfl
theorem d_md_breaksPair_49 : decode prog_10_method_40_code 49 = .ok (.invokevirtual 185, 3) := zD (q := (49, .invokevirtual 185, 3)) tx_md_breaksPair_0 31 rfl
theorem d_md_breaksPair_52 : decode prog_10_method_40_code 52 = .ok (.iconst 1, 1) := zD (q := (52, .iconst 1, 1)) tx_md_breaksPair_0 32 rfl
theorem d_md_breaksPair_53 : decode prog_10_method_40_code 53 = .ok (.if_icmp .ne 7, 3) := zD (q := (53, .if_icmp .ne 7, 3)) tx_md_breaksPair_0 33 rfl
theorem d_md_breaksPair_56 : decode prog_10_method_40_code 56 = .ok (.iconst 1, 1) := zD (q := (56, .iconst 1, 1)) tx_md_breaksPair_0 34 rfl
theorem d_md_breaksPair_57 : decode prog_10_method_40_code 57 = .ok (.goto 4, 3) := zD (q := (57, .goto 4, 3)) tx_md_breaksPair_0 35 rfl
theorem d_md_breaksPair_60 : decode prog_10_method_40_code 60 = .ok (.iconst 0, 1) := zD (q := (60, .iconst 0, 1)) tx_md_breaksPair_0 36 rfl
theorem d_md_breaksPair_61 : decode prog_10_method_40_code 61 = .ok (.istore_n 1, 1) := zD (q := (61, .istore_n 1, 1)) tx_md_breaksPair_0 37 rfl
theorem d_md_breaksPair_62 : decode prog_10_method_40_code 62 = .ok (.iinc 3 1, 3) := zD (q := (62, .iinc 3 1, 3)) tx_md_breaksPair_0 38 rfl
theorem d_md_breaksPair_65 : decode prog_10_method_40_code 65 = .ok (.goto (-51), 3) := zD (q := (65, .goto (-51), 3)) tx_md_breaksPair_0 39 rfl
theorem d_md_breaksPair_68 : decode prog_10_method_40_code 68 = .ok (.iinc 2 1, 3) := zD (q := (68, .iinc 2 1, 3)) tx_md_breaksPair_0 40 rfl
theorem d_md_breaksPair_71 : decode prog_10_method_40_code 71 = .ok (.goto (-67), 3) := zD (q := (71, .goto (-67), 3)) tx_md_breaksPair_0 41 rfl
theorem d_md_breaksPair_74 : decode prog_10_method_40_code 74 = .ok (.iload_n 1, 1) := zD (q := (74, .iload_n 1, 1)) tx_md_breaksPair_0 42 rfl
theorem d_md_breaksPair_75 : decode prog_10_method_40_code 75 = .ok (.ireturn, 1) := zD (q := (75, .ireturn, 1)) tx_md_breaksPair_0 43 rfl
def T_md_breaksFixed_0 : List (Nat × Instr × Nat) := [(0, .iconst 0, 1), (1, .istore_n 1, 1), (2, .iconst 0, 1), (3, .istore_n 2, 1), (4, .iload_n 2, 1), (5, .aload_n 0, 1), (6, .getfield 110, 3), (9, .if_icmp .ge 74, 3), (12, .aload_n 0, 1), (13, .getfield 30, 3), (16, .iload_n 2, 1), (17, .iaload, 1), (18, .istore_n 3, 1), (19, .iload_n 1, 1), (20, .ifCond .ne 51, 3), (23, .iload_n 3, 1), (24, .aload_n 0, 1), (25, .getfield 94, 3), (28, .if_icmp .ge 43, 3), (31, .aload_n 0, 1), (32, .getfield 33, 3), (35, .bipush 20, 2), (37, .iload_n 3, 1), (38, .imul, 1), (39, .aload_n 0, 1), (40, .getfield 24, 3), (43, .iload_n 2, 1), (44, .iaload, 1), (45, .iadd, 1), (46, .iaload, 1), (47, .aload_n 0, 1), (48, .getfield 27, 3), (51, .iload_n 2, 1), (52, .iaload, 1), (53, .if_icmp .ne 18, 3), (56, .aload_n 0, 1), (57, .aload_n 0, 1), (58, .getfield 24, 3), (61, .iload_n 2, 1), (62, .iaload, 1), (63, .iload_n 3, 1), (64, .invokevirtual 185, 3), (67, .iconst 1, 1), (68, .if_icmp .eq 7, 3), (71, .iconst 1, 1), (72, .goto 4, 3), (75, .iconst 0, 1), (76, .istore_n 1, 1), (77, .iinc 2 1, 3), (80, .goto (-76), 3), (83, .iload_n 1, 1), (84, .ireturn, 1)]
theorem tx_md_breaksFixed_0 : zdec prog_10_method_41_code T_md_breaksFixed_0 = true := by decide +kernel
theorem d_md_breaksFixed_0 : decode prog_10_method_41_code 0 = .ok (.iconst 0, 1) := zD (q := (0, .iconst 0, 1)) tx_md_breaksFixed_0 0 rfl
theorem d_md_breaksFixed_1 : decode prog_10_method_41_code 1 = .ok (.istore_n 1, 1) := zD (q := (1, .istore_n 1, 1)) tx_md_breaksFixed_0 1 rfl
theorem d_md_breaksFixed_2 : decode prog_10_method_41_code 2 = .ok (.iconst 0, 1) := zD (q := (2, .iconst 0, 1)) tx_md_breaksFixed_0 2 rfl
theorem d_md_breaksFixed_3 : decode prog_10_method_41_code 3 = .ok (.istore_n 2, 1) := zD (q := (3, .istore_n 2, 1)) tx_md_breaksFixed_0 3 rfl
theorem d_md_breaksFixed_4 : decode prog_10_method_41_code 4 = .ok (.iload_n 2, 1) := zD (q := (4, .iload_n 2, 1)) tx_md_breaksFixed_0 4 rfl
theorem d_md_breaksFixed_5 : decode prog_10_method_41_code 5 = .ok (.aload_n 0, 1) := zD (q := (5, .aload_n 0, 1)) tx_md_breaksFixed_0 5 rfl
theorem d_md_breaksFixed_6 : decode prog_10_method_41_code 6 = .ok (.getfield 110, 3) := zD (q := (6, .getfield 110, 3)) tx_md_breaksFixed_0 6 rfl
theorem d_md_breaksFixed_9 : decode prog_10_method_41_code 9 = .ok (.if_icmp .ge 74, 3) := zD (q := (9, .if_icmp .ge 74, 3)) tx_md_breaksFixed_0 7 rfl
theorem d_md_breaksFixed_12 : decode prog_10_method_41_code 12 = .ok (.aload_n 0, 1) := zD (q := (12, .aload_n 0, 1)) tx_md_breaksFixed_0 8 rfl
theorem d_md_breaksFixed_13 : decode prog_10_method_41_code 13 = .ok (.getfield 30, 3) := zD (q := (13, .getfield 30, 3)) tx_md_breaksFixed_0 9 rfl
theorem d_md_breaksFixed_16 : decode prog_10_method_41_code 16 = .ok (.iload_n 2, 1) := zD (q := (16, .iload_n 2, 1)) tx_md_breaksFixed_0 10 rfl
theorem d_md_breaksFixed_17 : decode prog_10_method_41_code 17 = .ok (.iaload, 1) := zD (q := (17, .iaload, 1)) tx_md_breaksFixed_0 11 rfl
theorem d_md_breaksFixed_18 : decode prog_10_method_41_code 18 = .ok (.istore_n 3, 1) := zD (q := (18, .istore_n 3, 1)) tx_md_breaksFixed_0 12 rfl
theorem d_md_breaksFixed_19 : decode prog_10_method_41_code 19 = .ok (.iload_n 1, 1) := zD (q := (19, .iload_n 1, 1)) tx_md_breaksFixed_0 13 rfl
theorem d_md_breaksFixed_20 : decode prog_10_method_41_code 20 = .ok (.ifCond .ne 51, 3) := zD (q := (20, .ifCond .ne 51, 3)) tx_md_breaksFixed_0 14 rfl
theorem d_md_breaksFixed_23 : decode prog_10_method_41_code 23 = .ok (.iload_n 3, 1) := zD (q := (23, .iload_n 3, 1)) tx_md_breaksFixed_0 15 rfl
theorem d_md_breaksFixed_24 : decode prog_10_method_41_code 24 = .ok (.aload_n 0, 1) := zD (q := (24, .aload_n 0, 1)) tx_md_breaksFixed_0 16 rfl
theorem d_md_breaksFixed_25 : decode prog_10_method_41_code 25 = .ok (.getfield 94, 3) := zD (q := (25, .getfield 94, 3)) tx_md_breaksFixed_0 17 rfl
theorem d_md_breaksFixed_28 : decode prog_10_method_41_code 28 = .ok (.if_icmp .ge 43, 3) := zD (q := (28, .if_icmp .ge 43, 3)) tx_md_breaksFixed_0 18 rfl
theorem d_md_breaksFixed_31 : decode prog_10_method_41_code 31 = .ok (.aload_n 0, 1) := zD (q := (31, .aload_n 0, 1)) tx_md_breaksFixed_0 19 rfl
theorem d_md_breaksFixed_32 : decode prog_10_method_41_code 32 = .ok (.getfield 33, 3) := zD (q := (32, .getfield 33, 3)) tx_md_breaksFixed_0 20 rfl
theorem d_md_breaksFixed_35 : decode prog_10_method_41_code 35 = .ok (.bipush 20, 2) := zD (q := (35, .bipush 20, 2)) tx_md_breaksFixed_0 21 rfl
theorem d_md_breaksFixed_37 : decode prog_10_method_41_code 37 = .ok (.iload_n 3, 1) := zD (q := (37, .iload_n 3, 1)) tx_md_breaksFixed_0 22 rfl
theorem d_md_breaksFixed_38 : decode prog_10_method_41_code 38 = .ok (.imul, 1) := zD (q := (38, .imul, 1)) tx_md_breaksFixed_0 23 rfl
theorem d_md_breaksFixed_39 : decode prog_10_method_41_code 39 = .ok (.aload_n 0, 1) := zD (q := (39, .aload_n 0, 1)) tx_md_breaksFixed_0 24 rfl
theorem d_md_breaksFixed_40 : decode prog_10_method_41_code 40 = .ok (.getfield 24, 3) := zD (q := (40, .getfield 24, 3)) tx_md_breaksFixed_0 25 rfl
theorem d_md_breaksFixed_43 : decode prog_10_method_41_code 43 = .ok (.iload_n 2, 1) := zD (q := (43, .iload_n 2, 1)) tx_md_breaksFixed_0 26 rfl
theorem d_md_breaksFixed_44 : decode prog_10_method_41_code 44 = .ok (.iaload, 1) := zD (q := (44, .iaload, 1)) tx_md_breaksFixed_0 27 rfl
theorem d_md_breaksFixed_45 : decode prog_10_method_41_code 45 = .ok (.iadd, 1) := zD (q := (45, .iadd, 1)) tx_md_breaksFixed_0 28 rfl
theorem d_md_breaksFixed_46 : decode prog_10_method_41_code 46 = .ok (.iaload, 1) := zD (q := (46, .iaload, 1)) tx_md_breaksFixed_0 29 rfl
theorem d_md_breaksFixed_47 : decode prog_10_method_41_code 47 = .ok (.aload_n 0, 1) := zD (q := (47, .aload_n 0, 1)) tx_md_breaksFixed_0 30 rfl
theorem d_md_breaksFixed_48 : decode prog_10_method_41_code 48 = .ok (.getfield 27, 3) := zD (q := (48, .getfield 27, 3)) tx_md_breaksFixed_0 31 rfl
theorem d_md_breaksFixed_51 : decode prog_10_method_41_code 51 = .ok (.iload_n 2, 1) := zD (q := (51, .iload_n 2, 1)) tx_md_breaksFixed_0 32 rfl
theorem d_md_breaksFixed_52 : decode prog_10_method_41_code 52 = .ok (.iaload, 1) := zD (q := (52, .iaload, 1)) tx_md_breaksFixed_0 33 rfl
theorem d_md_breaksFixed_53 : decode prog_10_method_41_code 53 = .ok (.if_icmp .ne 18, 3) := zD (q := (53, .if_icmp .ne 18, 3)) tx_md_breaksFixed_0 34 rfl
theorem d_md_breaksFixed_56 : decode prog_10_method_41_code 56 = .ok (.aload_n 0, 1) := zD (q := (56, .aload_n 0, 1)) tx_md_breaksFixed_0 35 rfl
theorem d_md_breaksFixed_57 : decode prog_10_method_41_code 57 = .ok (.aload_n 0, 1) := zD (q := (57, .aload_n 0, 1)) tx_md_breaksFixed_0 36 rfl
theorem d_md_breaksFixed_58 : decode prog_10_method_41_code 58 = .ok (.getfield 24, 3) := zD (q := (58, .getfield 24, 3)) tx_md_breaksFixed_0 37 rfl
theorem d_md_breaksFixed_61 : decode prog_10_method_41_code 61 = .ok (.iload_n 2, 1) := zD (q := (61, .iload_n 2, 1)) tx_md_breaksFixed_0 38 rfl
theorem d_md_breaksFixed_62 : decode prog_10_method_41_code 62 = .ok (.iaload, 1) := zD (q := (62, .iaload, 1)) tx_md_breaksFixed_0 39 rfl
theorem d_md_breaksFixed_63 : decode prog_10_method_41_code 63 = .ok (.iload_n 3, 1) := zD (q := (63, .iload_n 3, 1)) tx_md_breaksFixed_0 40 rfl
theorem d_md_breaksFixed_64 : decode prog_10_method_41_code 64 = .ok (.invokevirtual 185, 3) := zD (q := (64, .invokevirtual 185, 3)) tx_md_breaksFixed_0 41 rfl
theorem d_md_breaksFixed_67 : decode prog_10_method_41_code 67 = .ok (.iconst 1, 1) := zD (q := (67, .iconst 1, 1)) tx_md_breaksFixed_0 42 rfl
theorem d_md_breaksFixed_68 : decode prog_10_method_41_code 68 = .ok (.if_icmp .eq 7, 3) := zD (q := (68, .if_icmp .eq 7, 3)) tx_md_breaksFixed_0 43 rfl
theorem d_md_breaksFixed_71 : decode prog_10_method_41_code 71 = .ok (.iconst 1, 1) := zD (q := (71, .iconst 1, 1)) tx_md_breaksFixed_0 44 rfl
theorem d_md_breaksFixed_72 : decode prog_10_method_41_code 72 = .ok (.goto 4, 3) := zD (q := (72, .goto 4, 3)) tx_md_breaksFixed_0 45 rfl
theorem d_md_breaksFixed_75 : decode prog_10_method_41_code 75 = .ok (.iconst 0, 1) := zD (q := (75, .iconst 0, 1)) tx_md_breaksFixed_0 46 rfl
theorem d_md_breaksFixed_76 : decode prog_10_method_41_code 76 = .ok (.istore_n 1, 1) := zD (q := (76, .istore_n 1, 1)) tx_md_breaksFixed_0 47 rfl
theorem d_md_breaksFixed_77 : decode prog_10_method_41_code 77 = .ok (.iinc 2 1, 3) := zD (q := (77, .iinc 2 1, 3)) tx_md_breaksFixed_0 48 rfl
theorem d_md_breaksFixed_80 : decode prog_10_method_41_code 80 = .ok (.goto (-76), 3) := zD (q := (80, .goto (-76), 3)) tx_md_breaksFixed_0 49 rfl
theorem d_md_breaksFixed_83 : decode prog_10_method_41_code 83 = .ok (.iload_n 1, 1) := zD (q := (83, .iload_n 1, 1)) tx_md_breaksFixed_0 50 rfl
theorem d_md_breaksFixed_84 : decode prog_10_method_41_code 84 = .ok (.ireturn, 1) := zD (q := (84, .ireturn, 1)) tx_md_breaksFixed_0 51 rfl
def T_md_breaksCap_0 : List (Nat × Instr × Nat) := [(0, .iconst 0, 1), (1, .istore_n 1, 1), (2, .iconst 0, 1), (3, .istore_n 2, 1), (4, .iload_n 2, 1), (5, .aload_n 0, 1), (6, .getfield 7, 3), (9, .if_icmp .ge 72, 3), (12, .iconst 0, 1), (13, .istore_n 3, 1), (14, .iconst 0, 1), (15, .istore 4, 2), (17, .iload 4, 2), (19, .aload_n 0, 1), (20, .getfield 94, 3), (23, .if_icmp .ge 52, 3), (26, .aload_n 0, 1), (27, .iload_n 2, 1), (28, .iload 4, 2), (30, .invokevirtual 185, 3), (33, .ifCond .ne 9, 3), (36, .iload_n 3, 1), (37, .iconst 1, 1), (38, .iadd, 1), (39, .goto 4, 3), (42, .iconst 0, 1), (43, .istore_n 3, 1), (44, .iload_n 1, 1), (45, .ifCond .ne 18, 3), (48, .aload_n 0, 1), (49, .getfield 113, 3), (52, .ifCond .le 15, 3), (55, .iload_n 3, 1), (56, .aload_n 0, 1), (57, .getfield 113, 3), (60, .if_icmp .le 7, 3), (63, .iconst 1, 1), (64, .goto 4, 3), (67, .iconst 0, 1), (68, .istore_n 1, 1), (69, .iinc 4 1, 3), (72, .goto (-55), 3), (75, .iinc 2 1, 3), (78, .goto (-74), 3), (81, .iload_n 1, 1), (82, .ireturn, 1)]
theorem tx_md_breaksCap_0 : zdec prog_10_method_42_code T_md_breaksCap_0 = true := by decide +kernel
theorem d_md_breaksCap_0 : decode prog_10_method_42_code 0 = .ok (.iconst 0, 1) := zD (q := (0, .iconst 0, 1)) tx_md_breaksCap_0 0 rfl
theorem d_md_breaksCap_1 : decode prog_10_method_42_code 1 = .ok (.istore_n 1, 1) := zD (q := (1, .istore_n 1, 1)) tx_md_breaksCap_0 1 rfl
theorem d_md_breaksCap_2 : decode prog_10_method_42_code 2 = .ok (.iconst 0, 1) := zD (q := (2, .iconst 0, 1)) tx_md_breaksCap_0 2 rfl
theorem d_md_breaksCap_3 : decode prog_10_method_42_code 3 = .ok (.istore_n 2, 1) := zD (q := (3, .istore_n 2, 1)) tx_md_breaksCap_0 3 rfl
theorem d_md_breaksCap_4 : decode prog_10_method_42_code 4 = .ok (.iload_n 2, 1) := zD (q := (4, .iload_n 2, 1)) tx_md_breaksCap_0 4 rfl
theorem d_md_breaksCap_5 : decode prog_10_method_42_code 5 = .ok (.aload_n 0, 1) := zD (q := (5, .aload_n 0, 1)) tx_md_breaksCap_0 5 rfl
theorem d_md_breaksCap_6 : decode prog_10_method_42_code 6 = .ok (.getfield 7, 3) := zD (q := (6, .getfield 7, 3)) tx_md_breaksCap_0 6 rfl
theorem d_md_breaksCap_9 : decode prog_10_method_42_code 9 = .ok (.if_icmp .ge 72, 3) := zD (q := (9, .if_icmp .ge 72, 3)) tx_md_breaksCap_0 7 rfl
theorem d_md_breaksCap_12 : decode prog_10_method_42_code 12 = .ok (.iconst 0, 1) := zD (q := (12, .iconst 0, 1)) tx_md_breaksCap_0 8 rfl
theorem d_md_breaksCap_13 : decode prog_10_method_42_code 13 = .ok (.istore_n 3, 1) := zD (q := (13, .istore_n 3, 1)) tx_md_breaksCap_0 9 rfl
theorem d_md_breaksCap_14 : decode prog_10_method_42_code 14 = .ok (.iconst 0, 1) := zD (q := (14, .iconst 0, 1)) tx_md_breaksCap_0 10 rfl
theorem d_md_breaksCap_15 : decode prog_10_method_42_code 15 = .ok (.istore 4, 2) := zD (q := (15, .istore 4, 2)) tx_md_breaksCap_0 11 rfl
theorem d_md_breaksCap_17 : decode prog_10_method_42_code 17 = .ok (.iload 4, 2) := zD (q := (17, .iload 4, 2)) tx_md_breaksCap_0 12 rfl
theorem d_md_breaksCap_19 : decode prog_10_method_42_code 19 = .ok (.aload_n 0, 1) := zD (q := (19, .aload_n 0, 1)) tx_md_breaksCap_0 13 rfl
theorem d_md_breaksCap_20 : decode prog_10_method_42_code 20 = .ok (.getfield 94, 3) := zD (q := (20, .getfield 94, 3)) tx_md_breaksCap_0 14 rfl
theorem d_md_breaksCap_23 : decode prog_10_method_42_code 23 = .ok (.if_icmp .ge 52, 3) := zD (q := (23, .if_icmp .ge 52, 3)) tx_md_breaksCap_0 15 rfl
theorem d_md_breaksCap_26 : decode prog_10_method_42_code 26 = .ok (.aload_n 0, 1) := zD (q := (26, .aload_n 0, 1)) tx_md_breaksCap_0 16 rfl
theorem d_md_breaksCap_27 : decode prog_10_method_42_code 27 = .ok (.iload_n 2, 1) := zD (q := (27, .iload_n 2, 1)) tx_md_breaksCap_0 17 rfl
theorem d_md_breaksCap_28 : decode prog_10_method_42_code 28 = .ok (.iload 4, 2) := zD (q := (28, .iload 4, 2)) tx_md_breaksCap_0 18 rfl
theorem d_md_breaksCap_30 : decode prog_10_method_42_code 30 = .ok (.invokevirtual 185, 3) := zD (q := (30, .invokevirtual 185, 3)) tx_md_breaksCap_0 19 rfl
theorem d_md_breaksCap_33 : decode prog_10_method_42_code 33 = .ok (.ifCond .ne 9, 3) := zD (q := (33, .ifCond .ne 9, 3)) tx_md_breaksCap_0 20 rfl
theorem d_md_breaksCap_36 : decode prog_10_method_42_code 36 = .ok (.iload_n 3, 1) := zD (q := (36, .iload_n 3, 1)) tx_md_breaksCap_0 21 rfl
theorem d_md_breaksCap_37 : decode prog_10_method_42_code 37 = .ok (.iconst 1, 1) := zD (q := (37, .iconst 1, 1)) tx_md_breaksCap_0 22 rfl
theorem d_md_breaksCap_38 : decode prog_10_method_42_code 38 = .ok (.iadd, 1) := zD (q := (38, .iadd, 1)) tx_md_breaksCap_0 23 rfl
theorem d_md_breaksCap_39 : decode prog_10_method_42_code 39 = .ok (.goto 4, 3) := zD (q := (39, .goto 4, 3)) tx_md_breaksCap_0 24 rfl
theorem d_md_breaksCap_42 : decode prog_10_method_42_code 42 = .ok (.iconst 0, 1) := zD (q := (42, .iconst 0, 1)) tx_md_breaksCap_0 25 rfl
theorem d_md_breaksCap_43 : decode prog_10_method_42_code 43 = .ok (.istore_n 3, 1) := zD (q := (43, .istore_n 3, 1)) tx_md_breaksCap_0 26 rfl
theorem d_md_breaksCap_44 : decode prog_10_method_42_code 44 = .ok (.iload_n 1, 1) := zD (q := (44, .iload_n 1, 1)) tx_md_breaksCap_0 27 rfl
theorem d_md_breaksCap_45 : decode prog_10_method_42_code 45 = .ok (.ifCond .ne 18, 3) := zD (q := (45, .ifCond .ne 18, 3)) tx_md_breaksCap_0 28 rfl
theorem d_md_breaksCap_48 : decode prog_10_method_42_code 48 = .ok (.aload_n 0, 1) := zD (q := (48, .aload_n 0, 1)) tx_md_breaksCap_0 29 rfl
theorem d_md_breaksCap_49 : decode prog_10_method_42_code 49 = .ok (.getfield 113, 3) := zD (q := (49, .getfield 113, 3)) tx_md_breaksCap_0 30 rfl
theorem d_md_breaksCap_52 : decode prog_10_method_42_code 52 = .ok (.ifCond .le 15, 3) := zD (q := (52, .ifCond .le 15, 3)) tx_md_breaksCap_0 31 rfl
theorem d_md_breaksCap_55 : decode prog_10_method_42_code 55 = .ok (.iload_n 3, 1) := zD (q := (55, .iload_n 3, 1)) tx_md_breaksCap_0 32 rfl
theorem d_md_breaksCap_56 : decode prog_10_method_42_code 56 = .ok (.aload_n 0, 1) := zD (q := (56, .aload_n 0, 1)) tx_md_breaksCap_0 33 rfl
theorem d_md_breaksCap_57 : decode prog_10_method_42_code 57 = .ok (.getfield 113, 3) := zD (q := (57, .getfield 113, 3)) tx_md_breaksCap_0 34 rfl
theorem d_md_breaksCap_60 : decode prog_10_method_42_code 60 = .ok (.if_icmp .le 7, 3) := zD (q := (60, .if_icmp .le 7, 3)) tx_md_breaksCap_0 35 rfl
theorem d_md_breaksCap_63 : decode prog_10_method_42_code 63 = .ok (.iconst 1, 1) := zD (q := (63, .iconst 1, 1)) tx_md_breaksCap_0 36 rfl
theorem d_md_breaksCap_64 : decode prog_10_method_42_code 64 = .ok (.goto 4, 3) := zD (q := (64, .goto 4, 3)) tx_md_breaksCap_0 37 rfl
theorem d_md_breaksCap_67 : decode prog_10_method_42_code 67 = .ok (.iconst 0, 1) := zD (q := (67, .iconst 0, 1)) tx_md_breaksCap_0 38 rfl
theorem d_md_breaksCap_68 : decode prog_10_method_42_code 68 = .ok (.istore_n 1, 1) := zD (q := (68, .istore_n 1, 1)) tx_md_breaksCap_0 39 rfl
theorem d_md_breaksCap_69 : decode prog_10_method_42_code 69 = .ok (.iinc 4 1, 3) := zD (q := (69, .iinc 4 1, 3)) tx_md_breaksCap_0 40 rfl
theorem d_md_breaksCap_72 : decode prog_10_method_42_code 72 = .ok (.goto (-55), 3) := zD (q := (72, .goto (-55), 3)) tx_md_breaksCap_0 41 rfl
theorem d_md_breaksCap_75 : decode prog_10_method_42_code 75 = .ok (.iinc 2 1, 3) := zD (q := (75, .iinc 2 1, 3)) tx_md_breaksCap_0 42 rfl
theorem d_md_breaksCap_78 : decode prog_10_method_42_code 78 = .ok (.goto (-74), 3) := zD (q := (78, .goto (-74), 3)) tx_md_breaksCap_0 43 rfl
theorem d_md_breaksCap_81 : decode prog_10_method_42_code 81 = .ok (.iload_n 1, 1) := zD (q := (81, .iload_n 1, 1)) tx_md_breaksCap_0 44 rfl
theorem d_md_breaksCap_82 : decode prog_10_method_42_code 82 = .ok (.ireturn, 1) := zD (q := (82, .ireturn, 1)) tx_md_breaksCap_0 45 rfl
def T_md_swapRounds_0 : List (Nat × Instr × Nat) := [(0, .aload_n 0, 1), (1, .aload_n 0, 1), (2, .iload_n 1, 1), (3, .invokevirtual 182, 3), (6, .ifCond .eq 11, 3), (9, .aload_n 0, 1), (10, .iload_n 2, 1), (11, .invokevirtual 182, 3), (14, .ifCond .ne 7, 3), (17, .iconst 1, 1), (18, .goto 4, 3), (21, .iconst 0, 1), (22, .aload_n 0, 1), (23, .invokevirtual 208, 3), (26, .aload_n 0, 1), (27, .invokevirtual 211, 3), (30, .iadd, 1), (31, .ifCond .le 7, 3), (34, .iconst 1, 1), (35, .goto 4, 3), (38, .iconst 0, 1), (39, .iconst 0, 1), (40, .iconst 0, 1), (41, .invokevirtual 100, 3), (44, .ifCond .eq 5, 3), (47, .iconst 0, 1), (48, .ireturn, 1), (49, .aload_n 0, 1), (50, .iload_n 1, 1), (51, .iload_n 2, 1), (52, .invokevirtual 214, 3), (55, .aload_n 0, 1), (56, .invokevirtual 204, 3), (59, .ifCond .ne 5, 3), (62, .iconst 1, 1), (63, .ireturn, 1), (64, .aload_n 0, 1), (65, .iload_n 1, 1), (66, .iload_n 2, 1), (67, .invokevirtual 214, 3), (70, .iconst 0, 1), (71, .ireturn, 1)]
theorem tx_md_swapRounds_0 : zdec prog_10_method_48_code T_md_swapRounds_0 = true := by decide +kernel
theorem d_md_swapRounds_0 : decode prog_10_method_48_code 0 = .ok (.aload_n 0, 1) := zD (q := (0, .aload_n 0, 1)) tx_md_swapRounds_0 0 rfl
theorem d_md_swapRounds_1 : decode prog_10_method_48_code 1 = .ok (.aload_n 0, 1) := zD (q := (1, .aload_n 0, 1)) tx_md_swapRounds_0 1 rfl
theorem d_md_swapRounds_2 : decode prog_10_method_48_code 2 = .ok (.iload_n 1, 1) := zD (q := (2, .iload_n 1, 1)) tx_md_swapRounds_0 2 rfl
theorem d_md_swapRounds_3 : decode prog_10_method_48_code 3 = .ok (.invokevirtual 182, 3) := zD (q := (3, .invokevirtual 182, 3)) tx_md_swapRounds_0 3 rfl
theorem d_md_swapRounds_6 : decode prog_10_method_48_code 6 = .ok (.ifCond .eq 11, 3) := zD (q := (6, .ifCond .eq 11, 3)) tx_md_swapRounds_0 4 rfl
theorem d_md_swapRounds_9 : decode prog_10_method_48_code 9 = .ok (.aload_n 0, 1) := zD (q := (9, .aload_n 0, 1)) tx_md_swapRounds_0 5 rfl
theorem d_md_swapRounds_10 : decode prog_10_method_48_code 10 = .ok (.iload_n 2, 1) := zD (q := (10, .iload_n 2, 1)) tx_md_swapRounds_0 6 rfl
theorem d_md_swapRounds_11 : decode prog_10_method_48_code 11 = .ok (.invokevirtual 182, 3) := zD (q := (11, .invokevirtual 182, 3)) tx_md_swapRounds_0 7 rfl
theorem d_md_swapRounds_14 : decode prog_10_method_48_code 14 = .ok (.ifCond .ne 7, 3) := zD (q := (14, .ifCond .ne 7, 3)) tx_md_swapRounds_0 8 rfl
theorem d_md_swapRounds_17 : decode prog_10_method_48_code 17 = .ok (.iconst 1, 1) := zD (q := (17, .iconst 1, 1)) tx_md_swapRounds_0 9 rfl
theorem d_md_swapRounds_18 : decode prog_10_method_48_code 18 = .ok (.goto 4, 3) := zD (q := (18, .goto 4, 3)) tx_md_swapRounds_0 10 rfl
theorem d_md_swapRounds_21 : decode prog_10_method_48_code 21 = .ok (.iconst 0, 1) := zD (q := (21, .iconst 0, 1)) tx_md_swapRounds_0 11 rfl
theorem d_md_swapRounds_22 : decode prog_10_method_48_code 22 = .ok (.aload_n 0, 1) := zD (q := (22, .aload_n 0, 1)) tx_md_swapRounds_0 12 rfl
theorem d_md_swapRounds_23 : decode prog_10_method_48_code 23 = .ok (.invokevirtual 208, 3) := zD (q := (23, .invokevirtual 208, 3)) tx_md_swapRounds_0 13 rfl
theorem d_md_swapRounds_26 : decode prog_10_method_48_code 26 = .ok (.aload_n 0, 1) := zD (q := (26, .aload_n 0, 1)) tx_md_swapRounds_0 14 rfl
theorem d_md_swapRounds_27 : decode prog_10_method_48_code 27 = .ok (.invokevirtual 211, 3) := zD (q := (27, .invokevirtual 211, 3)) tx_md_swapRounds_0 15 rfl
theorem d_md_swapRounds_30 : decode prog_10_method_48_code 30 = .ok (.iadd, 1) := zD (q := (30, .iadd, 1)) tx_md_swapRounds_0 16 rfl
theorem d_md_swapRounds_31 : decode prog_10_method_48_code 31 = .ok (.ifCond .le 7, 3) := zD (q := (31, .ifCond .le 7, 3)) tx_md_swapRounds_0 17 rfl
theorem d_md_swapRounds_34 : decode prog_10_method_48_code 34 = .ok (.iconst 1, 1) := zD (q := (34, .iconst 1, 1)) tx_md_swapRounds_0 18 rfl
theorem d_md_swapRounds_35 : decode prog_10_method_48_code 35 = .ok (.goto 4, 3) := zD (q := (35, .goto 4, 3)) tx_md_swapRounds_0 19 rfl
theorem d_md_swapRounds_38 : decode prog_10_method_48_code 38 = .ok (.iconst 0, 1) := zD (q := (38, .iconst 0, 1)) tx_md_swapRounds_0 20 rfl
theorem d_md_swapRounds_39 : decode prog_10_method_48_code 39 = .ok (.iconst 0, 1) := zD (q := (39, .iconst 0, 1)) tx_md_swapRounds_0 21 rfl
theorem d_md_swapRounds_40 : decode prog_10_method_48_code 40 = .ok (.iconst 0, 1) := zD (q := (40, .iconst 0, 1)) tx_md_swapRounds_0 22 rfl
theorem d_md_swapRounds_41 : decode prog_10_method_48_code 41 = .ok (.invokevirtual 100, 3) := zD (q := (41, .invokevirtual 100, 3)) tx_md_swapRounds_0 23 rfl
theorem d_md_swapRounds_44 : decode prog_10_method_48_code 44 = .ok (.ifCond .eq 5, 3) := zD (q := (44, .ifCond .eq 5, 3)) tx_md_swapRounds_0 24 rfl
theorem d_md_swapRounds_47 : decode prog_10_method_48_code 47 = .ok (.iconst 0, 1) := zD (q := (47, .iconst 0, 1)) tx_md_swapRounds_0 25 rfl
theorem d_md_swapRounds_48 : decode prog_10_method_48_code 48 = .ok (.ireturn, 1) := zD (q := (48, .ireturn, 1)) tx_md_swapRounds_0 26 rfl
theorem d_md_swapRounds_49 : decode prog_10_method_48_code 49 = .ok (.aload_n 0, 1) := zD (q := (49, .aload_n 0, 1)) tx_md_swapRounds_0 27 rfl
theorem d_md_swapRounds_50 : decode prog_10_method_48_code 50 = .ok (.iload_n 1, 1) := zD (q := (50, .iload_n 1, 1)) tx_md_swapRounds_0 28 rfl
theorem d_md_swapRounds_51 : decode prog_10_method_48_code 51 = .ok (.iload_n 2, 1) := zD (q := (51, .iload_n 2, 1)) tx_md_swapRounds_0 29 rfl
theorem d_md_swapRounds_52 : decode prog_10_method_48_code 52 = .ok (.invokevirtual 214, 3) := zD (q := (52, .invokevirtual 214, 3)) tx_md_swapRounds_0 30 rfl
theorem d_md_swapRounds_55 : decode prog_10_method_48_code 55 = .ok (.aload_n 0, 1) := zD (q := (55, .aload_n 0, 1)) tx_md_swapRounds_0 31 rfl
theorem d_md_swapRounds_56 : decode prog_10_method_48_code 56 = .ok (.invokevirtual 204, 3) := zD (q := (56, .invokevirtual 204, 3)) tx_md_swapRounds_0 32 rfl
theorem d_md_swapRounds_59 : decode prog_10_method_48_code 59 = .ok (.ifCond .ne 5, 3) := zD (q := (59, .ifCond .ne 5, 3)) tx_md_swapRounds_0 33 rfl
theorem d_md_swapRounds_62 : decode prog_10_method_48_code 62 = .ok (.iconst 1, 1) := zD (q := (62, .iconst 1, 1)) tx_md_swapRounds_0 34 rfl
theorem d_md_swapRounds_63 : decode prog_10_method_48_code 63 = .ok (.ireturn, 1) := zD (q := (63, .ireturn, 1)) tx_md_swapRounds_0 35 rfl
theorem d_md_swapRounds_64 : decode prog_10_method_48_code 64 = .ok (.aload_n 0, 1) := zD (q := (64, .aload_n 0, 1)) tx_md_swapRounds_0 36 rfl
theorem d_md_swapRounds_65 : decode prog_10_method_48_code 65 = .ok (.iload_n 1, 1) := zD (q := (65, .iload_n 1, 1)) tx_md_swapRounds_0 37 rfl
theorem d_md_swapRounds_66 : decode prog_10_method_48_code 66 = .ok (.iload_n 2, 1) := zD (q := (66, .iload_n 2, 1)) tx_md_swapRounds_0 38 rfl
theorem d_md_swapRounds_67 : decode prog_10_method_48_code 67 = .ok (.invokevirtual 214, 3) := zD (q := (67, .invokevirtual 214, 3)) tx_md_swapRounds_0 39 rfl
theorem d_md_swapRounds_70 : decode prog_10_method_48_code 70 = .ok (.iconst 0, 1) := zD (q := (70, .iconst 0, 1)) tx_md_swapRounds_0 40 rfl
theorem d_md_swapRounds_71 : decode prog_10_method_48_code 71 = .ok (.ireturn, 1) := zD (q := (71, .ireturn, 1)) tx_md_swapRounds_0 41 rfl
def T_md_playedGames_0 : List (Nat × Instr × Nat) := [(0, .iconst 0, 1), (1, .istore_n 1, 1), (2, .iconst 0, 1), (3, .istore_n 2, 1), (4, .iload_n 2, 1), (5, .sipush 800, 3), (8, .if_icmp .ge 26, 3), (11, .aload_n 0, 1), (12, .getfield 39, 3), (15, .iload_n 2, 1), (16, .baload, 1), (17, .ifCond .eq 9, 3), (20, .iload_n 1, 1), (21, .iconst 1, 1), (22, .iadd, 1), (23, .goto 4, 3), (26, .iload_n 1, 1), (27, .istore_n 1, 1), (28, .iinc 2 1, 3), (31, .goto (-27), 3), (34, .iload_n 1, 1), (35, .ireturn, 1)]
theorem tx_md_playedGames_0 : zdec prog_10_method_46_code T_md_playedGames_0 = true := by decide +kernel
theorem d_md_playedGames_0 : decode prog_10_method_46_code 0 = .ok (.iconst 0, 1) := zD (q := (0, .iconst 0, 1)) tx_md_playedGames_0 0 rfl
theorem d_md_playedGames_1 : decode prog_10_method_46_code 1 = .ok (.istore_n 1, 1) := zD (q := (1, .istore_n 1, 1)) tx_md_playedGames_0 1 rfl
theorem d_md_playedGames_2 : decode prog_10_method_46_code 2 = .ok (.iconst 0, 1) := zD (q := (2, .iconst 0, 1)) tx_md_playedGames_0 2 rfl
theorem d_md_playedGames_3 : decode prog_10_method_46_code 3 = .ok (.istore_n 2, 1) := zD (q := (3, .istore_n 2, 1)) tx_md_playedGames_0 3 rfl
theorem d_md_playedGames_4 : decode prog_10_method_46_code 4 = .ok (.iload_n 2, 1) := zD (q := (4, .iload_n 2, 1)) tx_md_playedGames_0 4 rfl
theorem d_md_playedGames_5 : decode prog_10_method_46_code 5 = .ok (.sipush 800, 3) := zD (q := (5, .sipush 800, 3)) tx_md_playedGames_0 5 rfl
theorem d_md_playedGames_8 : decode prog_10_method_46_code 8 = .ok (.if_icmp .ge 26, 3) := zD (q := (8, .if_icmp .ge 26, 3)) tx_md_playedGames_0 6 rfl
theorem d_md_playedGames_11 : decode prog_10_method_46_code 11 = .ok (.aload_n 0, 1) := zD (q := (11, .aload_n 0, 1)) tx_md_playedGames_0 7 rfl
theorem d_md_playedGames_12 : decode prog_10_method_46_code 12 = .ok (.getfield 39, 3) := zD (q := (12, .getfield 39, 3)) tx_md_playedGames_0 8 rfl
theorem d_md_playedGames_15 : decode prog_10_method_46_code 15 = .ok (.iload_n 2, 1) := zD (q := (15, .iload_n 2, 1)) tx_md_playedGames_0 9 rfl
theorem d_md_playedGames_16 : decode prog_10_method_46_code 16 = .ok (.baload, 1) := zD (q := (16, .baload, 1)) tx_md_playedGames_0 10 rfl
theorem d_md_playedGames_17 : decode prog_10_method_46_code 17 = .ok (.ifCond .eq 9, 3) := zD (q := (17, .ifCond .eq 9, 3)) tx_md_playedGames_0 11 rfl
theorem d_md_playedGames_20 : decode prog_10_method_46_code 20 = .ok (.iload_n 1, 1) := zD (q := (20, .iload_n 1, 1)) tx_md_playedGames_0 12 rfl
theorem d_md_playedGames_21 : decode prog_10_method_46_code 21 = .ok (.iconst 1, 1) := zD (q := (21, .iconst 1, 1)) tx_md_playedGames_0 13 rfl
theorem d_md_playedGames_22 : decode prog_10_method_46_code 22 = .ok (.iadd, 1) := zD (q := (22, .iadd, 1)) tx_md_playedGames_0 14 rfl
theorem d_md_playedGames_23 : decode prog_10_method_46_code 23 = .ok (.goto 4, 3) := zD (q := (23, .goto 4, 3)) tx_md_playedGames_0 15 rfl
theorem d_md_playedGames_26 : decode prog_10_method_46_code 26 = .ok (.iload_n 1, 1) := zD (q := (26, .iload_n 1, 1)) tx_md_playedGames_0 16 rfl
theorem d_md_playedGames_27 : decode prog_10_method_46_code 27 = .ok (.istore_n 1, 1) := zD (q := (27, .istore_n 1, 1)) tx_md_playedGames_0 17 rfl
theorem d_md_playedGames_28 : decode prog_10_method_46_code 28 = .ok (.iinc 2 1, 3) := zD (q := (28, .iinc 2 1, 3)) tx_md_playedGames_0 18 rfl
theorem d_md_playedGames_31 : decode prog_10_method_46_code 31 = .ok (.goto (-27), 3) := zD (q := (31, .goto (-27), 3)) tx_md_playedGames_0 19 rfl
theorem d_md_playedGames_34 : decode prog_10_method_46_code 34 = .ok (.iload_n 1, 1) := zD (q := (34, .iload_n 1, 1)) tx_md_playedGames_0 20 rfl
theorem d_md_playedGames_35 : decode prog_10_method_46_code 35 = .ok (.ireturn, 1) := zD (q := (35, .ireturn, 1)) tx_md_playedGames_0 21 rfl
def T_md_washedRounds_0 : List (Nat × Instr × Nat) := [(0, .iconst 0, 1), (1, .istore_n 1, 1), (2, .iconst 0, 1), (3, .istore_n 2, 1), (4, .iload_n 2, 1), (5, .bipush 40, 2), (7, .if_icmp .ge 26, 3), (10, .aload_n 0, 1), (11, .getfield 54, 3), (14, .iload_n 2, 1), (15, .baload, 1), (16, .ifCond .eq 9, 3), (19, .iload_n 1, 1), (20, .iconst 1, 1), (21, .iadd, 1), (22, .goto 4, 3), (25, .iload_n 1, 1), (26, .istore_n 1, 1), (27, .iinc 2 1, 3), (30, .goto (-26), 3), (33, .iload_n 1, 1), (34, .ireturn, 1)]
theorem tx_md_washedRounds_0 : zdec prog_10_method_47_code T_md_washedRounds_0 = true := by decide +kernel
theorem d_md_washedRounds_0 : decode prog_10_method_47_code 0 = .ok (.iconst 0, 1) := zD (q := (0, .iconst 0, 1)) tx_md_washedRounds_0 0 rfl
theorem d_md_washedRounds_1 : decode prog_10_method_47_code 1 = .ok (.istore_n 1, 1) := zD (q := (1, .istore_n 1, 1)) tx_md_washedRounds_0 1 rfl
theorem d_md_washedRounds_2 : decode prog_10_method_47_code 2 = .ok (.iconst 0, 1) := zD (q := (2, .iconst 0, 1)) tx_md_washedRounds_0 2 rfl
theorem d_md_washedRounds_3 : decode prog_10_method_47_code 3 = .ok (.istore_n 2, 1) := zD (q := (3, .istore_n 2, 1)) tx_md_washedRounds_0 3 rfl
theorem d_md_washedRounds_4 : decode prog_10_method_47_code 4 = .ok (.iload_n 2, 1) := zD (q := (4, .iload_n 2, 1)) tx_md_washedRounds_0 4 rfl
theorem d_md_washedRounds_5 : decode prog_10_method_47_code 5 = .ok (.bipush 40, 2) := zD (q := (5, .bipush 40, 2)) tx_md_washedRounds_0 5 rfl
theorem d_md_washedRounds_7 : decode prog_10_method_47_code 7 = .ok (.if_icmp .ge 26, 3) := zD (q := (7, .if_icmp .ge 26, 3)) tx_md_washedRounds_0 6 rfl
theorem d_md_washedRounds_10 : decode prog_10_method_47_code 10 = .ok (.aload_n 0, 1) := zD (q := (10, .aload_n 0, 1)) tx_md_washedRounds_0 7 rfl
theorem d_md_washedRounds_11 : decode prog_10_method_47_code 11 = .ok (.getfield 54, 3) := zD (q := (11, .getfield 54, 3)) tx_md_washedRounds_0 8 rfl
theorem d_md_washedRounds_14 : decode prog_10_method_47_code 14 = .ok (.iload_n 2, 1) := zD (q := (14, .iload_n 2, 1)) tx_md_washedRounds_0 9 rfl
theorem d_md_washedRounds_15 : decode prog_10_method_47_code 15 = .ok (.baload, 1) := zD (q := (15, .baload, 1)) tx_md_washedRounds_0 10 rfl
theorem d_md_washedRounds_16 : decode prog_10_method_47_code 16 = .ok (.ifCond .eq 9, 3) := zD (q := (16, .ifCond .eq 9, 3)) tx_md_washedRounds_0 11 rfl
theorem d_md_washedRounds_19 : decode prog_10_method_47_code 19 = .ok (.iload_n 1, 1) := zD (q := (19, .iload_n 1, 1)) tx_md_washedRounds_0 12 rfl
theorem d_md_washedRounds_20 : decode prog_10_method_47_code 20 = .ok (.iconst 1, 1) := zD (q := (20, .iconst 1, 1)) tx_md_washedRounds_0 13 rfl
theorem d_md_washedRounds_21 : decode prog_10_method_47_code 21 = .ok (.iadd, 1) := zD (q := (21, .iadd, 1)) tx_md_washedRounds_0 14 rfl
theorem d_md_washedRounds_22 : decode prog_10_method_47_code 22 = .ok (.goto 4, 3) := zD (q := (22, .goto 4, 3)) tx_md_washedRounds_0 15 rfl
theorem d_md_washedRounds_25 : decode prog_10_method_47_code 25 = .ok (.iload_n 1, 1) := zD (q := (25, .iload_n 1, 1)) tx_md_washedRounds_0 16 rfl
theorem d_md_washedRounds_26 : decode prog_10_method_47_code 26 = .ok (.istore_n 1, 1) := zD (q := (26, .istore_n 1, 1)) tx_md_washedRounds_0 17 rfl
theorem d_md_washedRounds_27 : decode prog_10_method_47_code 27 = .ok (.iinc 2 1, 3) := zD (q := (27, .iinc 2 1, 3)) tx_md_washedRounds_0 18 rfl
theorem d_md_washedRounds_30 : decode prog_10_method_47_code 30 = .ok (.goto (-26), 3) := zD (q := (30, .goto (-26), 3)) tx_md_washedRounds_0 19 rfl
theorem d_md_washedRounds_33 : decode prog_10_method_47_code 33 = .ok (.iload_n 1, 1) := zD (q := (33, .iload_n 1, 1)) tx_md_washedRounds_0 20 rfl
theorem d_md_washedRounds_34 : decode prog_10_method_47_code 34 = .ok (.ireturn, 1) := zD (q := (34, .ireturn, 1)) tx_md_washedRounds_0 21 rfl
def T_md_exchange_0 : List (Nat × Instr × Nat) := [(0, .iconst 0, 1), (1, .istore_n 3, 1), (2, .iload_n 3, 1), (3, .aload_n 0, 1), (4, .getfield 7, 3), (7, .if_icmp .ge 105, 3), (10, .aload_n 0, 1), (11, .getfield 33, 3), (14, .bipush 20, 2), (16, .iload_n 1, 1), (17, .imul, 1), (18, .iload_n 3, 1), (19, .iadd, 1), (20, .iaload, 1), (21, .istore 4, 2), (23, .aload_n 0, 1), (24, .getfield 36, 3), (27, .bipush 20, 2), (29, .iload_n 1, 1), (30, .imul, 1), (31, .iload_n 3, 1), (32, .iadd, 1), (33, .baload, 1), (34, .istore 5, 2), (36, .aload_n 0, 1), (37, .getfield 33, 3), (40, .bipush 20, 2), (42, .iload_n 1, 1), (43, .imul, 1), (44, .iload_n 3, 1), (45, .iadd, 1), (46, .aload_n 0, 1), (47, .getfield 33, 3), (50, .bipush 20, 2), (52, .iload_n 2, 1), (53, .imul, 1), (54, .iload_n 3, 1), (55, .iadd, 1), (56, .iaload, 1), (57, .iastore, 1), (58, .aload_n 0, 1), (59, .getfield 36, 3), (62, .bipush 20, 2), (64, .iload_n 1, 1), (65, .imul, 1), (66, .iload_n 3, 1), (67, .iadd, 1), (68, .aload_n 0, 1), (69, .getfield 36, 3), (72, .bipush 20, 2), (74, .iload_n 2, 1), (75, .imul, 1), (76, .iload_n 3, 1), (77, .iadd, 1), (78, .baload, 1), (79, .bastore, 1), (80, .aload_n 0, 1), (81, .getfield 33, 3), (84, .bipush 20, 2), (86, .iload_n 2, 1)]
theorem tx_md_exchange_0 : zdec prog_10_method_45_code T_md_exchange_0 = true := by decide +kernel
theorem d_md_exchange_0 : decode prog_10_method_45_code 0 = .ok (.iconst 0, 1) := zD (q := (0, .iconst 0, 1)) tx_md_exchange_0 0 rfl
theorem d_md_exchange_1 : decode prog_10_method_45_code 1 = .ok (.istore_n 3, 1) := zD (q := (1, .istore_n 3, 1)) tx_md_exchange_0 1 rfl
theorem d_md_exchange_2 : decode prog_10_method_45_code 2 = .ok (.iload_n 3, 1) := zD (q := (2, .iload_n 3, 1)) tx_md_exchange_0 2 rfl
theorem d_md_exchange_3 : decode prog_10_method_45_code 3 = .ok (.aload_n 0, 1) := zD (q := (3, .aload_n 0, 1)) tx_md_exchange_0 3 rfl
theorem d_md_exchange_4 : decode prog_10_method_45_code 4 = .ok (.getfield 7, 3) := zD (q := (4, .getfield 7, 3)) tx_md_exchange_0 4 rfl
theorem d_md_exchange_7 : decode prog_10_method_45_code 7 = .ok (.if_icmp .ge 105, 3) := zD (q := (7, .if_icmp .ge 105, 3)) tx_md_exchange_0 5 rfl
theorem d_md_exchange_10 : decode prog_10_method_45_code 10 = .ok (.aload_n 0, 1) := zD (q := (10, .aload_n 0, 1)) tx_md_exchange_0 6 rfl
theorem d_md_exchange_11 : decode prog_10_method_45_code 11 = .ok (.getfield 33, 3) := zD (q := (11, .getfield 33, 3)) tx_md_exchange_0 7 rfl
theorem d_md_exchange_14 : decode prog_10_method_45_code 14 = .ok (.bipush 20, 2) := zD (q := (14, .bipush 20, 2)) tx_md_exchange_0 8 rfl
theorem d_md_exchange_16 : decode prog_10_method_45_code 16 = .ok (.iload_n 1, 1) := zD (q := (16, .iload_n 1, 1)) tx_md_exchange_0 9 rfl
theorem d_md_exchange_17 : decode prog_10_method_45_code 17 = .ok (.imul, 1) := zD (q := (17, .imul, 1)) tx_md_exchange_0 10 rfl
theorem d_md_exchange_18 : decode prog_10_method_45_code 18 = .ok (.iload_n 3, 1) := zD (q := (18, .iload_n 3, 1)) tx_md_exchange_0 11 rfl
theorem d_md_exchange_19 : decode prog_10_method_45_code 19 = .ok (.iadd, 1) := zD (q := (19, .iadd, 1)) tx_md_exchange_0 12 rfl
theorem d_md_exchange_20 : decode prog_10_method_45_code 20 = .ok (.iaload, 1) := zD (q := (20, .iaload, 1)) tx_md_exchange_0 13 rfl
theorem d_md_exchange_21 : decode prog_10_method_45_code 21 = .ok (.istore 4, 2) := zD (q := (21, .istore 4, 2)) tx_md_exchange_0 14 rfl
theorem d_md_exchange_23 : decode prog_10_method_45_code 23 = .ok (.aload_n 0, 1) := zD (q := (23, .aload_n 0, 1)) tx_md_exchange_0 15 rfl
theorem d_md_exchange_24 : decode prog_10_method_45_code 24 = .ok (.getfield 36, 3) := zD (q := (24, .getfield 36, 3)) tx_md_exchange_0 16 rfl
theorem d_md_exchange_27 : decode prog_10_method_45_code 27 = .ok (.bipush 20, 2) := zD (q := (27, .bipush 20, 2)) tx_md_exchange_0 17 rfl
theorem d_md_exchange_29 : decode prog_10_method_45_code 29 = .ok (.iload_n 1, 1) := zD (q := (29, .iload_n 1, 1)) tx_md_exchange_0 18 rfl
theorem d_md_exchange_30 : decode prog_10_method_45_code 30 = .ok (.imul, 1) := zD (q := (30, .imul, 1)) tx_md_exchange_0 19 rfl
theorem d_md_exchange_31 : decode prog_10_method_45_code 31 = .ok (.iload_n 3, 1) := zD (q := (31, .iload_n 3, 1)) tx_md_exchange_0 20 rfl
theorem d_md_exchange_32 : decode prog_10_method_45_code 32 = .ok (.iadd, 1) := zD (q := (32, .iadd, 1)) tx_md_exchange_0 21 rfl
theorem d_md_exchange_33 : decode prog_10_method_45_code 33 = .ok (.baload, 1) := zD (q := (33, .baload, 1)) tx_md_exchange_0 22 rfl
theorem d_md_exchange_34 : decode prog_10_method_45_code 34 = .ok (.istore 5, 2) := zD (q := (34, .istore 5, 2)) tx_md_exchange_0 23 rfl
theorem d_md_exchange_36 : decode prog_10_method_45_code 36 = .ok (.aload_n 0, 1) := zD (q := (36, .aload_n 0, 1)) tx_md_exchange_0 24 rfl
theorem d_md_exchange_37 : decode prog_10_method_45_code 37 = .ok (.getfield 33, 3) := zD (q := (37, .getfield 33, 3)) tx_md_exchange_0 25 rfl
theorem d_md_exchange_40 : decode prog_10_method_45_code 40 = .ok (.bipush 20, 2) := zD (q := (40, .bipush 20, 2)) tx_md_exchange_0 26 rfl
theorem d_md_exchange_42 : decode prog_10_method_45_code 42 = .ok (.iload_n 1, 1) := zD (q := (42, .iload_n 1, 1)) tx_md_exchange_0 27 rfl
theorem d_md_exchange_43 : decode prog_10_method_45_code 43 = .ok (.imul, 1) := zD (q := (43, .imul, 1)) tx_md_exchange_0 28 rfl
theorem d_md_exchange_44 : decode prog_10_method_45_code 44 = .ok (.iload_n 3, 1) := zD (q := (44, .iload_n 3, 1)) tx_md_exchange_0 29 rfl
theorem d_md_exchange_45 : decode prog_10_method_45_code 45 = .ok (.iadd, 1) := zD (q := (45, .iadd, 1)) tx_md_exchange_0 30 rfl
theorem d_md_exchange_46 : decode prog_10_method_45_code 46 = .ok (.aload_n 0, 1) := zD (q := (46, .aload_n 0, 1)) tx_md_exchange_0 31 rfl
theorem d_md_exchange_47 : decode prog_10_method_45_code 47 = .ok (.getfield 33, 3) := zD (q := (47, .getfield 33, 3)) tx_md_exchange_0 32 rfl
theorem d_md_exchange_50 : decode prog_10_method_45_code 50 = .ok (.bipush 20, 2) := zD (q := (50, .bipush 20, 2)) tx_md_exchange_0 33 rfl
theorem d_md_exchange_52 : decode prog_10_method_45_code 52 = .ok (.iload_n 2, 1) := zD (q := (52, .iload_n 2, 1)) tx_md_exchange_0 34 rfl
theorem d_md_exchange_53 : decode prog_10_method_45_code 53 = .ok (.imul, 1) := zD (q := (53, .imul, 1)) tx_md_exchange_0 35 rfl
theorem d_md_exchange_54 : decode prog_10_method_45_code 54 = .ok (.iload_n 3, 1) := zD (q := (54, .iload_n 3, 1)) tx_md_exchange_0 36 rfl
theorem d_md_exchange_55 : decode prog_10_method_45_code 55 = .ok (.iadd, 1) := zD (q := (55, .iadd, 1)) tx_md_exchange_0 37 rfl
theorem d_md_exchange_56 : decode prog_10_method_45_code 56 = .ok (.iaload, 1) := zD (q := (56, .iaload, 1)) tx_md_exchange_0 38 rfl
theorem d_md_exchange_57 : decode prog_10_method_45_code 57 = .ok (.iastore, 1) := zD (q := (57, .iastore, 1)) tx_md_exchange_0 39 rfl
theorem d_md_exchange_58 : decode prog_10_method_45_code 58 = .ok (.aload_n 0, 1) := zD (q := (58, .aload_n 0, 1)) tx_md_exchange_0 40 rfl
theorem d_md_exchange_59 : decode prog_10_method_45_code 59 = .ok (.getfield 36, 3) := zD (q := (59, .getfield 36, 3)) tx_md_exchange_0 41 rfl
theorem d_md_exchange_62 : decode prog_10_method_45_code 62 = .ok (.bipush 20, 2) := zD (q := (62, .bipush 20, 2)) tx_md_exchange_0 42 rfl
theorem d_md_exchange_64 : decode prog_10_method_45_code 64 = .ok (.iload_n 1, 1) := zD (q := (64, .iload_n 1, 1)) tx_md_exchange_0 43 rfl
theorem d_md_exchange_65 : decode prog_10_method_45_code 65 = .ok (.imul, 1) := zD (q := (65, .imul, 1)) tx_md_exchange_0 44 rfl
theorem d_md_exchange_66 : decode prog_10_method_45_code 66 = .ok (.iload_n 3, 1) := zD (q := (66, .iload_n 3, 1)) tx_md_exchange_0 45 rfl
theorem d_md_exchange_67 : decode prog_10_method_45_code 67 = .ok (.iadd, 1) := zD (q := (67, .iadd, 1)) tx_md_exchange_0 46 rfl
theorem d_md_exchange_68 : decode prog_10_method_45_code 68 = .ok (.aload_n 0, 1) := zD (q := (68, .aload_n 0, 1)) tx_md_exchange_0 47 rfl
theorem d_md_exchange_69 : decode prog_10_method_45_code 69 = .ok (.getfield 36, 3) := zD (q := (69, .getfield 36, 3)) tx_md_exchange_0 48 rfl
theorem d_md_exchange_72 : decode prog_10_method_45_code 72 = .ok (.bipush 20, 2) := zD (q := (72, .bipush 20, 2)) tx_md_exchange_0 49 rfl
theorem d_md_exchange_74 : decode prog_10_method_45_code 74 = .ok (.iload_n 2, 1) := zD (q := (74, .iload_n 2, 1)) tx_md_exchange_0 50 rfl
theorem d_md_exchange_75 : decode prog_10_method_45_code 75 = .ok (.imul, 1) := zD (q := (75, .imul, 1)) tx_md_exchange_0 51 rfl
theorem d_md_exchange_76 : decode prog_10_method_45_code 76 = .ok (.iload_n 3, 1) := zD (q := (76, .iload_n 3, 1)) tx_md_exchange_0 52 rfl
theorem d_md_exchange_77 : decode prog_10_method_45_code 77 = .ok (.iadd, 1) := zD (q := (77, .iadd, 1)) tx_md_exchange_0 53 rfl
theorem d_md_exchange_78 : decode prog_10_method_45_code 78 = .ok (.baload, 1) := zD (q := (78, .baload, 1)) tx_md_exchange_0 54 rfl
theorem d_md_exchange_79 : decode prog_10_method_45_code 79 = .ok (.bastore, 1) := zD (q := (79, .bastore, 1)) tx_md_exchange_0 55 rfl
theorem d_md_exchange_80 : decode prog_10_method_45_code 80 = .ok (.aload_n 0, 1) := zD (q := (80, .aload_n 0, 1)) tx_md_exchange_0 56 rfl
theorem d_md_exchange_81 : decode prog_10_method_45_code 81 = .ok (.getfield 33, 3) := zD (q := (81, .getfield 33, 3)) tx_md_exchange_0 57 rfl
theorem d_md_exchange_84 : decode prog_10_method_45_code 84 = .ok (.bipush 20, 2) := zD (q := (84, .bipush 20, 2)) tx_md_exchange_0 58 rfl
theorem d_md_exchange_86 : decode prog_10_method_45_code 86 = .ok (.iload_n 2, 1) := zD (q := (86, .iload_n 2, 1)) tx_md_exchange_0 59 rfl
def T_md_exchange_1 : List (Nat × Instr × Nat) := [(87, .imul, 1), (88, .iload_n 3, 1), (89, .iadd, 1), (90, .iload 4, 2), (92, .iastore, 1), (93, .aload_n 0, 1), (94, .getfield 36, 3), (97, .bipush 20, 2), (99, .iload_n 2, 1), (100, .imul, 1), (101, .iload_n 3, 1), (102, .iadd, 1), (103, .iload 5, 2), (105, .bastore, 1), (106, .iinc 3 1, 3), (109, .goto (-107), 3), (112, .return_, 1)]
theorem tx_md_exchange_1 : zdec prog_10_method_45_code T_md_exchange_1 = true := by decide +kernel
theorem d_md_exchange_87 : decode prog_10_method_45_code 87 = .ok (.imul, 1) := zD (q := (87, .imul, 1)) tx_md_exchange_1 0 rfl
theorem d_md_exchange_88 : decode prog_10_method_45_code 88 = .ok (.iload_n 3, 1) := zD (q := (88, .iload_n 3, 1)) tx_md_exchange_1 1 rfl
theorem d_md_exchange_89 : decode prog_10_method_45_code 89 = .ok (.iadd, 1) := zD (q := (89, .iadd, 1)) tx_md_exchange_1 2 rfl
theorem d_md_exchange_90 : decode prog_10_method_45_code 90 = .ok (.iload 4, 2) := zD (q := (90, .iload 4, 2)) tx_md_exchange_1 3 rfl
theorem d_md_exchange_92 : decode prog_10_method_45_code 92 = .ok (.iastore, 1) := zD (q := (92, .iastore, 1)) tx_md_exchange_1 4 rfl
theorem d_md_exchange_93 : decode prog_10_method_45_code 93 = .ok (.aload_n 0, 1) := zD (q := (93, .aload_n 0, 1)) tx_md_exchange_1 5 rfl
theorem d_md_exchange_94 : decode prog_10_method_45_code 94 = .ok (.getfield 36, 3) := zD (q := (94, .getfield 36, 3)) tx_md_exchange_1 6 rfl
theorem d_md_exchange_97 : decode prog_10_method_45_code 97 = .ok (.bipush 20, 2) := zD (q := (97, .bipush 20, 2)) tx_md_exchange_1 7 rfl
theorem d_md_exchange_99 : decode prog_10_method_45_code 99 = .ok (.iload_n 2, 1) := zD (q := (99, .iload_n 2, 1)) tx_md_exchange_1 8 rfl
theorem d_md_exchange_100 : decode prog_10_method_45_code 100 = .ok (.imul, 1) := zD (q := (100, .imul, 1)) tx_md_exchange_1 9 rfl
theorem d_md_exchange_101 : decode prog_10_method_45_code 101 = .ok (.iload_n 3, 1) := zD (q := (101, .iload_n 3, 1)) tx_md_exchange_1 10 rfl
theorem d_md_exchange_102 : decode prog_10_method_45_code 102 = .ok (.iadd, 1) := zD (q := (102, .iadd, 1)) tx_md_exchange_1 11 rfl
theorem d_md_exchange_103 : decode prog_10_method_45_code 103 = .ok (.iload 5, 2) := zD (q := (103, .iload 5, 2)) tx_md_exchange_1 12 rfl
theorem d_md_exchange_105 : decode prog_10_method_45_code 105 = .ok (.bastore, 1) := zD (q := (105, .bastore, 1)) tx_md_exchange_1 13 rfl
theorem d_md_exchange_106 : decode prog_10_method_45_code 106 = .ok (.iinc 3 1, 3) := zD (q := (106, .iinc 3 1, 3)) tx_md_exchange_1 14 rfl
theorem d_md_exchange_109 : decode prog_10_method_45_code 109 = .ok (.goto (-107), 3) := zD (q := (109, .goto (-107), 3)) tx_md_exchange_1 15 rfl
theorem d_md_exchange_112 : decode prog_10_method_45_code 112 = .ok (.return_, 1) := zD (q := (112, .return_, 1)) tx_md_exchange_1 16 rfl
def T_md_result_0 : List (Nat × Instr × Nat) := [(0, .aload_n 0, 1), (1, .iload_n 1, 1), (2, .invokevirtual 182, 3), (5, .ifCond .eq 15, 3), (8, .aload_n 0, 1), (9, .iload_n 2, 1), (10, .invokevirtual 119, 3), (13, .ifCond .eq 7, 3), (16, .iconst 1, 1), (17, .goto 4, 3), (20, .iconst 0, 1), (21, .istore 5, 2), (23, .iload_n 3, 1), (24, .iconst 0, 1), (25, .bipush 99, 2), (27, .invokestatic 90, 3), (30, .ifCond .eq 18, 3), (33, .iload 4, 2), (35, .iconst 0, 1), (36, .bipush 99, 2), (38, .invokestatic 90, 3), (41, .ifCond .eq 7, 3), (44, .iconst 1, 1), (45, .goto 4, 3), (48, .iconst 0, 1), (49, .istore 6, 2), (51, .iload 5, 2), (53, .ifCond .eq 17, 3), (56, .aload_n 0, 1), (57, .iload_n 2, 1), (58, .iload_n 1, 1), (59, .invokevirtual 185, 3), (62, .iconst 1, 1), (63, .if_icmp .ne 7, 3), (66, .iconst 1, 1), (67, .goto 4, 3), (70, .iconst 0, 1), (71, .istore 7, 2), (73, .iload 5, 2), (75, .ifCond .eq 12, 3), (78, .bipush 20, 2), (80, .iload_n 1, 1), (81, .imul, 1), (82, .iload_n 2, 1), (83, .iadd, 1), (84, .goto 4, 3), (87, .iconst 0, 1), (88, .istore 8, 2), (90, .aload_n 0, 1), (91, .iload 5, 2), (93, .ifCond .ne 7, 3), (96, .iconst 1, 1), (97, .goto 4, 3), (100, .iconst 0, 1), (101, .iload 6, 2), (103, .ifCond .ne 7, 3), (106, .iconst 1, 1), (107, .goto 4, 3), (110, .iconst 0, 1), (111, .iload 7, 2)]
theorem tx_md_result_0 : zdec prog_10_method_49_code T_md_result_0 = true := by decide +kernel
theorem d_md_result_0 : decode prog_10_method_49_code 0 = .ok (.aload_n 0, 1) := zD (q := (0, .aload_n 0, 1)) tx_md_result_0 0 rfl
theorem d_md_result_1 : decode prog_10_method_49_code 1 = .ok (.iload_n 1, 1) := zD (q := (1, .iload_n 1, 1)) tx_md_result_0 1 rfl
theorem d_md_result_2 : decode prog_10_method_49_code 2 = .ok (.invokevirtual 182, 3) := zD (q := (2, .invokevirtual 182, 3)) tx_md_result_0 2 rfl
theorem d_md_result_5 : decode prog_10_method_49_code 5 = .ok (.ifCond .eq 15, 3) := zD (q := (5, .ifCond .eq 15, 3)) tx_md_result_0 3 rfl
theorem d_md_result_8 : decode prog_10_method_49_code 8 = .ok (.aload_n 0, 1) := zD (q := (8, .aload_n 0, 1)) tx_md_result_0 4 rfl
theorem d_md_result_9 : decode prog_10_method_49_code 9 = .ok (.iload_n 2, 1) := zD (q := (9, .iload_n 2, 1)) tx_md_result_0 5 rfl
theorem d_md_result_10 : decode prog_10_method_49_code 10 = .ok (.invokevirtual 119, 3) := zD (q := (10, .invokevirtual 119, 3)) tx_md_result_0 6 rfl
theorem d_md_result_13 : decode prog_10_method_49_code 13 = .ok (.ifCond .eq 7, 3) := zD (q := (13, .ifCond .eq 7, 3)) tx_md_result_0 7 rfl
theorem d_md_result_16 : decode prog_10_method_49_code 16 = .ok (.iconst 1, 1) := zD (q := (16, .iconst 1, 1)) tx_md_result_0 8 rfl
theorem d_md_result_17 : decode prog_10_method_49_code 17 = .ok (.goto 4, 3) := zD (q := (17, .goto 4, 3)) tx_md_result_0 9 rfl
theorem d_md_result_20 : decode prog_10_method_49_code 20 = .ok (.iconst 0, 1) := zD (q := (20, .iconst 0, 1)) tx_md_result_0 10 rfl
theorem d_md_result_21 : decode prog_10_method_49_code 21 = .ok (.istore 5, 2) := zD (q := (21, .istore 5, 2)) tx_md_result_0 11 rfl
theorem d_md_result_23 : decode prog_10_method_49_code 23 = .ok (.iload_n 3, 1) := zD (q := (23, .iload_n 3, 1)) tx_md_result_0 12 rfl
theorem d_md_result_24 : decode prog_10_method_49_code 24 = .ok (.iconst 0, 1) := zD (q := (24, .iconst 0, 1)) tx_md_result_0 13 rfl
theorem d_md_result_25 : decode prog_10_method_49_code 25 = .ok (.bipush 99, 2) := zD (q := (25, .bipush 99, 2)) tx_md_result_0 14 rfl
theorem d_md_result_27 : decode prog_10_method_49_code 27 = .ok (.invokestatic 90, 3) := zD (q := (27, .invokestatic 90, 3)) tx_md_result_0 15 rfl
theorem d_md_result_30 : decode prog_10_method_49_code 30 = .ok (.ifCond .eq 18, 3) := zD (q := (30, .ifCond .eq 18, 3)) tx_md_result_0 16 rfl
theorem d_md_result_33 : decode prog_10_method_49_code 33 = .ok (.iload 4, 2) := zD (q := (33, .iload 4, 2)) tx_md_result_0 17 rfl
theorem d_md_result_35 : decode prog_10_method_49_code 35 = .ok (.iconst 0, 1) := zD (q := (35, .iconst 0, 1)) tx_md_result_0 18 rfl
theorem d_md_result_36 : decode prog_10_method_49_code 36 = .ok (.bipush 99, 2) := zD (q := (36, .bipush 99, 2)) tx_md_result_0 19 rfl
theorem d_md_result_38 : decode prog_10_method_49_code 38 = .ok (.invokestatic 90, 3) := zD (q := (38, .invokestatic 90, 3)) tx_md_result_0 20 rfl
theorem d_md_result_41 : decode prog_10_method_49_code 41 = .ok (.ifCond .eq 7, 3) := zD (q := (41, .ifCond .eq 7, 3)) tx_md_result_0 21 rfl
theorem d_md_result_44 : decode prog_10_method_49_code 44 = .ok (.iconst 1, 1) := zD (q := (44, .iconst 1, 1)) tx_md_result_0 22 rfl
theorem d_md_result_45 : decode prog_10_method_49_code 45 = .ok (.goto 4, 3) := zD (q := (45, .goto 4, 3)) tx_md_result_0 23 rfl
theorem d_md_result_48 : decode prog_10_method_49_code 48 = .ok (.iconst 0, 1) := zD (q := (48, .iconst 0, 1)) tx_md_result_0 24 rfl
theorem d_md_result_49 : decode prog_10_method_49_code 49 = .ok (.istore 6, 2) := zD (q := (49, .istore 6, 2)) tx_md_result_0 25 rfl
theorem d_md_result_51 : decode prog_10_method_49_code 51 = .ok (.iload 5, 2) := zD (q := (51, .iload 5, 2)) tx_md_result_0 26 rfl
theorem d_md_result_53 : decode prog_10_method_49_code 53 = .ok (.ifCond .eq 17, 3) := zD (q := (53, .ifCond .eq 17, 3)) tx_md_result_0 27 rfl
theorem d_md_result_56 : decode prog_10_method_49_code 56 = .ok (.aload_n 0, 1) := zD (q := (56, .aload_n 0, 1)) tx_md_result_0 28 rfl
theorem d_md_result_57 : decode prog_10_method_49_code 57 = .ok (.iload_n 2, 1) := zD (q := (57, .iload_n 2, 1)) tx_md_result_0 29 rfl
theorem d_md_result_58 : decode prog_10_method_49_code 58 = .ok (.iload_n 1, 1) := zD (q := (58, .iload_n 1, 1)) tx_md_result_0 30 rfl
theorem d_md_result_59 : decode prog_10_method_49_code 59 = .ok (.invokevirtual 185, 3) := zD (q := (59, .invokevirtual 185, 3)) tx_md_result_0 31 rfl
theorem d_md_result_62 : decode prog_10_method_49_code 62 = .ok (.iconst 1, 1) := zD (q := (62, .iconst 1, 1)) tx_md_result_0 32 rfl
theorem d_md_result_63 : decode prog_10_method_49_code 63 = .ok (.if_icmp .ne 7, 3) := zD (q := (63, .if_icmp .ne 7, 3)) tx_md_result_0 33 rfl
theorem d_md_result_66 : decode prog_10_method_49_code 66 = .ok (.iconst 1, 1) := zD (q := (66, .iconst 1, 1)) tx_md_result_0 34 rfl
theorem d_md_result_67 : decode prog_10_method_49_code 67 = .ok (.goto 4, 3) := zD (q := (67, .goto 4, 3)) tx_md_result_0 35 rfl
theorem d_md_result_70 : decode prog_10_method_49_code 70 = .ok (.iconst 0, 1) := zD (q := (70, .iconst 0, 1)) tx_md_result_0 36 rfl
theorem d_md_result_71 : decode prog_10_method_49_code 71 = .ok (.istore 7, 2) := zD (q := (71, .istore 7, 2)) tx_md_result_0 37 rfl
theorem d_md_result_73 : decode prog_10_method_49_code 73 = .ok (.iload 5, 2) := zD (q := (73, .iload 5, 2)) tx_md_result_0 38 rfl
theorem d_md_result_75 : decode prog_10_method_49_code 75 = .ok (.ifCond .eq 12, 3) := zD (q := (75, .ifCond .eq 12, 3)) tx_md_result_0 39 rfl
theorem d_md_result_78 : decode prog_10_method_49_code 78 = .ok (.bipush 20, 2) := zD (q := (78, .bipush 20, 2)) tx_md_result_0 40 rfl
theorem d_md_result_80 : decode prog_10_method_49_code 80 = .ok (.iload_n 1, 1) := zD (q := (80, .iload_n 1, 1)) tx_md_result_0 41 rfl
theorem d_md_result_81 : decode prog_10_method_49_code 81 = .ok (.imul, 1) := zD (q := (81, .imul, 1)) tx_md_result_0 42 rfl
theorem d_md_result_82 : decode prog_10_method_49_code 82 = .ok (.iload_n 2, 1) := zD (q := (82, .iload_n 2, 1)) tx_md_result_0 43 rfl
theorem d_md_result_83 : decode prog_10_method_49_code 83 = .ok (.iadd, 1) := zD (q := (83, .iadd, 1)) tx_md_result_0 44 rfl
theorem d_md_result_84 : decode prog_10_method_49_code 84 = .ok (.goto 4, 3) := zD (q := (84, .goto 4, 3)) tx_md_result_0 45 rfl
theorem d_md_result_87 : decode prog_10_method_49_code 87 = .ok (.iconst 0, 1) := zD (q := (87, .iconst 0, 1)) tx_md_result_0 46 rfl
theorem d_md_result_88 : decode prog_10_method_49_code 88 = .ok (.istore 8, 2) := zD (q := (88, .istore 8, 2)) tx_md_result_0 47 rfl
theorem d_md_result_90 : decode prog_10_method_49_code 90 = .ok (.aload_n 0, 1) := zD (q := (90, .aload_n 0, 1)) tx_md_result_0 48 rfl
theorem d_md_result_91 : decode prog_10_method_49_code 91 = .ok (.iload 5, 2) := zD (q := (91, .iload 5, 2)) tx_md_result_0 49 rfl
theorem d_md_result_93 : decode prog_10_method_49_code 93 = .ok (.ifCond .ne 7, 3) := zD (q := (93, .ifCond .ne 7, 3)) tx_md_result_0 50 rfl
theorem d_md_result_96 : decode prog_10_method_49_code 96 = .ok (.iconst 1, 1) := zD (q := (96, .iconst 1, 1)) tx_md_result_0 51 rfl
theorem d_md_result_97 : decode prog_10_method_49_code 97 = .ok (.goto 4, 3) := zD (q := (97, .goto 4, 3)) tx_md_result_0 52 rfl
theorem d_md_result_100 : decode prog_10_method_49_code 100 = .ok (.iconst 0, 1) := zD (q := (100, .iconst 0, 1)) tx_md_result_0 53 rfl
theorem d_md_result_101 : decode prog_10_method_49_code 101 = .ok (.iload 6, 2) := zD (q := (101, .iload 6, 2)) tx_md_result_0 54 rfl
theorem d_md_result_103 : decode prog_10_method_49_code 103 = .ok (.ifCond .ne 7, 3) := zD (q := (103, .ifCond .ne 7, 3)) tx_md_result_0 55 rfl
theorem d_md_result_106 : decode prog_10_method_49_code 106 = .ok (.iconst 1, 1) := zD (q := (106, .iconst 1, 1)) tx_md_result_0 56 rfl
theorem d_md_result_107 : decode prog_10_method_49_code 107 = .ok (.goto 4, 3) := zD (q := (107, .goto 4, 3)) tx_md_result_0 57 rfl
theorem d_md_result_110 : decode prog_10_method_49_code 110 = .ok (.iconst 0, 1) := zD (q := (110, .iconst 0, 1)) tx_md_result_0 58 rfl
theorem d_md_result_111 : decode prog_10_method_49_code 111 = .ok (.iload 7, 2) := zD (q := (111, .iload 7, 2)) tx_md_result_0 59 rfl
def T_md_result_1 : List (Nat × Instr × Nat) := [(113, .ifCond .ne 7, 3), (116, .iconst 1, 1), (117, .goto 4, 3), (120, .iconst 0, 1), (121, .iload 7, 2), (123, .ifCond .eq 27, 3), (126, .aload_n 0, 1), (127, .getfield 48, 3), (130, .iload 8, 2), (132, .baload, 1), (133, .ifCond .eq 17, 3), (136, .aload_n 0, 1), (137, .getfield 51, 3), (140, .iload 8, 2), (142, .iaload, 1), (143, .ifCond .ge 7, 3), (146, .iconst 1, 1), (147, .goto 4, 3), (150, .iconst 0, 1), (151, .invokevirtual 100, 3), (154, .ifCond .eq 5, 3), (157, .iconst 0, 1), (158, .ireturn, 1), (159, .aload_n 0, 1), (160, .getfield 39, 3), (163, .iload 8, 2), (165, .iconst 1, 1), (166, .bastore, 1), (167, .aload_n 0, 1), (168, .getfield 42, 3), (171, .iload 8, 2), (173, .iload_n 3, 1), (174, .iastore, 1), (175, .aload_n 0, 1), (176, .getfield 45, 3), (179, .iload 8, 2), (181, .iload 4, 2), (183, .iastore, 1), (184, .aload_n 0, 1), (185, .getfield 48, 3), (188, .iload 8, 2), (190, .iconst 0, 1), (191, .bastore, 1), (192, .aload_n 0, 1), (193, .getfield 51, 3), (196, .iload 8, 2), (198, .iconst (-1), 1), (199, .iastore, 1), (200, .aload_n 0, 1), (201, .invokevirtual 208, 3), (204, .ireturn, 1)]
theorem tx_md_result_1 : zdec prog_10_method_49_code T_md_result_1 = true := by decide +kernel
theorem d_md_result_113 : decode prog_10_method_49_code 113 = .ok (.ifCond .ne 7, 3) := zD (q := (113, .ifCond .ne 7, 3)) tx_md_result_1 0 rfl
theorem d_md_result_116 : decode prog_10_method_49_code 116 = .ok (.iconst 1, 1) := zD (q := (116, .iconst 1, 1)) tx_md_result_1 1 rfl
theorem d_md_result_117 : decode prog_10_method_49_code 117 = .ok (.goto 4, 3) := zD (q := (117, .goto 4, 3)) tx_md_result_1 2 rfl
theorem d_md_result_120 : decode prog_10_method_49_code 120 = .ok (.iconst 0, 1) := zD (q := (120, .iconst 0, 1)) tx_md_result_1 3 rfl
theorem d_md_result_121 : decode prog_10_method_49_code 121 = .ok (.iload 7, 2) := zD (q := (121, .iload 7, 2)) tx_md_result_1 4 rfl
theorem d_md_result_123 : decode prog_10_method_49_code 123 = .ok (.ifCond .eq 27, 3) := zD (q := (123, .ifCond .eq 27, 3)) tx_md_result_1 5 rfl
theorem d_md_result_126 : decode prog_10_method_49_code 126 = .ok (.aload_n 0, 1) := zD (q := (126, .aload_n 0, 1)) tx_md_result_1 6 rfl
theorem d_md_result_127 : decode prog_10_method_49_code 127 = .ok (.getfield 48, 3) := zD (q := (127, .getfield 48, 3)) tx_md_result_1 7 rfl
theorem d_md_result_130 : decode prog_10_method_49_code 130 = .ok (.iload 8, 2) := zD (q := (130, .iload 8, 2)) tx_md_result_1 8 rfl
theorem d_md_result_132 : decode prog_10_method_49_code 132 = .ok (.baload, 1) := zD (q := (132, .baload, 1)) tx_md_result_1 9 rfl
theorem d_md_result_133 : decode prog_10_method_49_code 133 = .ok (.ifCond .eq 17, 3) := zD (q := (133, .ifCond .eq 17, 3)) tx_md_result_1 10 rfl
theorem d_md_result_136 : decode prog_10_method_49_code 136 = .ok (.aload_n 0, 1) := zD (q := (136, .aload_n 0, 1)) tx_md_result_1 11 rfl
theorem d_md_result_137 : decode prog_10_method_49_code 137 = .ok (.getfield 51, 3) := zD (q := (137, .getfield 51, 3)) tx_md_result_1 12 rfl
theorem d_md_result_140 : decode prog_10_method_49_code 140 = .ok (.iload 8, 2) := zD (q := (140, .iload 8, 2)) tx_md_result_1 13 rfl
theorem d_md_result_142 : decode prog_10_method_49_code 142 = .ok (.iaload, 1) := zD (q := (142, .iaload, 1)) tx_md_result_1 14 rfl
theorem d_md_result_143 : decode prog_10_method_49_code 143 = .ok (.ifCond .ge 7, 3) := zD (q := (143, .ifCond .ge 7, 3)) tx_md_result_1 15 rfl
theorem d_md_result_146 : decode prog_10_method_49_code 146 = .ok (.iconst 1, 1) := zD (q := (146, .iconst 1, 1)) tx_md_result_1 16 rfl
theorem d_md_result_147 : decode prog_10_method_49_code 147 = .ok (.goto 4, 3) := zD (q := (147, .goto 4, 3)) tx_md_result_1 17 rfl
theorem d_md_result_150 : decode prog_10_method_49_code 150 = .ok (.iconst 0, 1) := zD (q := (150, .iconst 0, 1)) tx_md_result_1 18 rfl
theorem d_md_result_151 : decode prog_10_method_49_code 151 = .ok (.invokevirtual 100, 3) := zD (q := (151, .invokevirtual 100, 3)) tx_md_result_1 19 rfl
theorem d_md_result_154 : decode prog_10_method_49_code 154 = .ok (.ifCond .eq 5, 3) := zD (q := (154, .ifCond .eq 5, 3)) tx_md_result_1 20 rfl
theorem d_md_result_157 : decode prog_10_method_49_code 157 = .ok (.iconst 0, 1) := zD (q := (157, .iconst 0, 1)) tx_md_result_1 21 rfl
theorem d_md_result_158 : decode prog_10_method_49_code 158 = .ok (.ireturn, 1) := zD (q := (158, .ireturn, 1)) tx_md_result_1 22 rfl
theorem d_md_result_159 : decode prog_10_method_49_code 159 = .ok (.aload_n 0, 1) := zD (q := (159, .aload_n 0, 1)) tx_md_result_1 23 rfl
theorem d_md_result_160 : decode prog_10_method_49_code 160 = .ok (.getfield 39, 3) := zD (q := (160, .getfield 39, 3)) tx_md_result_1 24 rfl
theorem d_md_result_163 : decode prog_10_method_49_code 163 = .ok (.iload 8, 2) := zD (q := (163, .iload 8, 2)) tx_md_result_1 25 rfl
theorem d_md_result_165 : decode prog_10_method_49_code 165 = .ok (.iconst 1, 1) := zD (q := (165, .iconst 1, 1)) tx_md_result_1 26 rfl
theorem d_md_result_166 : decode prog_10_method_49_code 166 = .ok (.bastore, 1) := zD (q := (166, .bastore, 1)) tx_md_result_1 27 rfl
theorem d_md_result_167 : decode prog_10_method_49_code 167 = .ok (.aload_n 0, 1) := zD (q := (167, .aload_n 0, 1)) tx_md_result_1 28 rfl
theorem d_md_result_168 : decode prog_10_method_49_code 168 = .ok (.getfield 42, 3) := zD (q := (168, .getfield 42, 3)) tx_md_result_1 29 rfl
theorem d_md_result_171 : decode prog_10_method_49_code 171 = .ok (.iload 8, 2) := zD (q := (171, .iload 8, 2)) tx_md_result_1 30 rfl
theorem d_md_result_173 : decode prog_10_method_49_code 173 = .ok (.iload_n 3, 1) := zD (q := (173, .iload_n 3, 1)) tx_md_result_1 31 rfl
theorem d_md_result_174 : decode prog_10_method_49_code 174 = .ok (.iastore, 1) := zD (q := (174, .iastore, 1)) tx_md_result_1 32 rfl
theorem d_md_result_175 : decode prog_10_method_49_code 175 = .ok (.aload_n 0, 1) := zD (q := (175, .aload_n 0, 1)) tx_md_result_1 33 rfl
theorem d_md_result_176 : decode prog_10_method_49_code 176 = .ok (.getfield 45, 3) := zD (q := (176, .getfield 45, 3)) tx_md_result_1 34 rfl
theorem d_md_result_179 : decode prog_10_method_49_code 179 = .ok (.iload 8, 2) := zD (q := (179, .iload 8, 2)) tx_md_result_1 35 rfl
theorem d_md_result_181 : decode prog_10_method_49_code 181 = .ok (.iload 4, 2) := zD (q := (181, .iload 4, 2)) tx_md_result_1 36 rfl
theorem d_md_result_183 : decode prog_10_method_49_code 183 = .ok (.iastore, 1) := zD (q := (183, .iastore, 1)) tx_md_result_1 37 rfl
theorem d_md_result_184 : decode prog_10_method_49_code 184 = .ok (.aload_n 0, 1) := zD (q := (184, .aload_n 0, 1)) tx_md_result_1 38 rfl
theorem d_md_result_185 : decode prog_10_method_49_code 185 = .ok (.getfield 48, 3) := zD (q := (185, .getfield 48, 3)) tx_md_result_1 39 rfl
theorem d_md_result_188 : decode prog_10_method_49_code 188 = .ok (.iload 8, 2) := zD (q := (188, .iload 8, 2)) tx_md_result_1 40 rfl
theorem d_md_result_190 : decode prog_10_method_49_code 190 = .ok (.iconst 0, 1) := zD (q := (190, .iconst 0, 1)) tx_md_result_1 41 rfl
theorem d_md_result_191 : decode prog_10_method_49_code 191 = .ok (.bastore, 1) := zD (q := (191, .bastore, 1)) tx_md_result_1 42 rfl
theorem d_md_result_192 : decode prog_10_method_49_code 192 = .ok (.aload_n 0, 1) := zD (q := (192, .aload_n 0, 1)) tx_md_result_1 43 rfl
theorem d_md_result_193 : decode prog_10_method_49_code 193 = .ok (.getfield 51, 3) := zD (q := (193, .getfield 51, 3)) tx_md_result_1 44 rfl
theorem d_md_result_196 : decode prog_10_method_49_code 196 = .ok (.iload 8, 2) := zD (q := (196, .iload 8, 2)) tx_md_result_1 45 rfl
theorem d_md_result_198 : decode prog_10_method_49_code 198 = .ok (.iconst (-1), 1) := zD (q := (198, .iconst (-1), 1)) tx_md_result_1 46 rfl
theorem d_md_result_199 : decode prog_10_method_49_code 199 = .ok (.iastore, 1) := zD (q := (199, .iastore, 1)) tx_md_result_1 47 rfl
theorem d_md_result_200 : decode prog_10_method_49_code 200 = .ok (.aload_n 0, 1) := zD (q := (200, .aload_n 0, 1)) tx_md_result_1 48 rfl
theorem d_md_result_201 : decode prog_10_method_49_code 201 = .ok (.invokevirtual 208, 3) := zD (q := (201, .invokevirtual 208, 3)) tx_md_result_1 49 rfl
theorem d_md_result_204 : decode prog_10_method_49_code 204 = .ok (.ireturn, 1) := zD (q := (204, .ireturn, 1)) tx_md_result_1 50 rfl
def T_md_table_0 : List (Nat × Instr × Nat) := [(0, .aload_n 0, 1), (1, .iload_n 1, 1), (2, .iconst 0, 1), (3, .aload_n 0, 1), (4, .getfield 7, 3), (7, .iconst 1, 1), (8, .isub, 1), (9, .invokestatic 90, 3), (12, .ifCond .eq 13, 3), (15, .iload_n 2, 1), (16, .iconst 0, 1), (17, .bipush 7, 2), (19, .invokestatic 90, 3), (22, .ifCond .ne 7, 3), (25, .iconst 1, 1), (26, .goto 4, 3), (29, .iconst 0, 1), (30, .iconst 0, 1), (31, .iconst 0, 1), (32, .iconst 0, 1), (33, .invokevirtual 100, 3), (36, .ifCond .eq 5, 3), (39, .iconst 0, 1), (40, .ireturn, 1), (41, .aload_n 0, 1), (42, .invokevirtual 223, 3), (45, .aload_n 0, 1), (46, .getfield 81, 3), (49, .bipush 8, 2), (51, .aload_n 0, 1), (52, .getfield 84, 3), (55, .iload_n 1, 1), (56, .iaload, 1), (57, .imul, 1), (58, .iload_n 2, 1), (59, .iadd, 1), (60, .iaload, 1), (61, .ireturn, 1)]
theorem tx_md_table_0 : zdec prog_10_method_53_code T_md_table_0 = true := by decide +kernel
theorem d_md_table_0 : decode prog_10_method_53_code 0 = .ok (.aload_n 0, 1) := zD (q := (0, .aload_n 0, 1)) tx_md_table_0 0 rfl
theorem d_md_table_1 : decode prog_10_method_53_code 1 = .ok (.iload_n 1, 1) := zD (q := (1, .iload_n 1, 1)) tx_md_table_0 1 rfl
theorem d_md_table_2 : decode prog_10_method_53_code 2 = .ok (.iconst 0, 1) := zD (q := (2, .iconst 0, 1)) tx_md_table_0 2 rfl
theorem d_md_table_3 : decode prog_10_method_53_code 3 = .ok (.aload_n 0, 1) := zD (q := (3, .aload_n 0, 1)) tx_md_table_0 3 rfl
theorem d_md_table_4 : decode prog_10_method_53_code 4 = .ok (.getfield 7, 3) := zD (q := (4, .getfield 7, 3)) tx_md_table_0 4 rfl
theorem d_md_table_7 : decode prog_10_method_53_code 7 = .ok (.iconst 1, 1) := zD (q := (7, .iconst 1, 1)) tx_md_table_0 5 rfl
theorem d_md_table_8 : decode prog_10_method_53_code 8 = .ok (.isub, 1) := zD (q := (8, .isub, 1)) tx_md_table_0 6 rfl
theorem d_md_table_9 : decode prog_10_method_53_code 9 = .ok (.invokestatic 90, 3) := zD (q := (9, .invokestatic 90, 3)) tx_md_table_0 7 rfl
theorem d_md_table_12 : decode prog_10_method_53_code 12 = .ok (.ifCond .eq 13, 3) := zD (q := (12, .ifCond .eq 13, 3)) tx_md_table_0 8 rfl
theorem d_md_table_15 : decode prog_10_method_53_code 15 = .ok (.iload_n 2, 1) := zD (q := (15, .iload_n 2, 1)) tx_md_table_0 9 rfl
theorem d_md_table_16 : decode prog_10_method_53_code 16 = .ok (.iconst 0, 1) := zD (q := (16, .iconst 0, 1)) tx_md_table_0 10 rfl
theorem d_md_table_17 : decode prog_10_method_53_code 17 = .ok (.bipush 7, 2) := zD (q := (17, .bipush 7, 2)) tx_md_table_0 11 rfl
theorem d_md_table_19 : decode prog_10_method_53_code 19 = .ok (.invokestatic 90, 3) := zD (q := (19, .invokestatic 90, 3)) tx_md_table_0 12 rfl
theorem d_md_table_22 : decode prog_10_method_53_code 22 = .ok (.ifCond .ne 7, 3) := zD (q := (22, .ifCond .ne 7, 3)) tx_md_table_0 13 rfl
theorem d_md_table_25 : decode prog_10_method_53_code 25 = .ok (.iconst 1, 1) := zD (q := (25, .iconst 1, 1)) tx_md_table_0 14 rfl
theorem d_md_table_26 : decode prog_10_method_53_code 26 = .ok (.goto 4, 3) := zD (q := (26, .goto 4, 3)) tx_md_table_0 15 rfl
theorem d_md_table_29 : decode prog_10_method_53_code 29 = .ok (.iconst 0, 1) := zD (q := (29, .iconst 0, 1)) tx_md_table_0 16 rfl
theorem d_md_table_30 : decode prog_10_method_53_code 30 = .ok (.iconst 0, 1) := zD (q := (30, .iconst 0, 1)) tx_md_table_0 17 rfl
theorem d_md_table_31 : decode prog_10_method_53_code 31 = .ok (.iconst 0, 1) := zD (q := (31, .iconst 0, 1)) tx_md_table_0 18 rfl
theorem d_md_table_32 : decode prog_10_method_53_code 32 = .ok (.iconst 0, 1) := zD (q := (32, .iconst 0, 1)) tx_md_table_0 19 rfl
theorem d_md_table_33 : decode prog_10_method_53_code 33 = .ok (.invokevirtual 100, 3) := zD (q := (33, .invokevirtual 100, 3)) tx_md_table_0 20 rfl
theorem d_md_table_36 : decode prog_10_method_53_code 36 = .ok (.ifCond .eq 5, 3) := zD (q := (36, .ifCond .eq 5, 3)) tx_md_table_0 21 rfl
theorem d_md_table_39 : decode prog_10_method_53_code 39 = .ok (.iconst 0, 1) := zD (q := (39, .iconst 0, 1)) tx_md_table_0 22 rfl
theorem d_md_table_40 : decode prog_10_method_53_code 40 = .ok (.ireturn, 1) := zD (q := (40, .ireturn, 1)) tx_md_table_0 23 rfl
theorem d_md_table_41 : decode prog_10_method_53_code 41 = .ok (.aload_n 0, 1) := zD (q := (41, .aload_n 0, 1)) tx_md_table_0 24 rfl
theorem d_md_table_42 : decode prog_10_method_53_code 42 = .ok (.invokevirtual 223, 3) := zD (q := (42, .invokevirtual 223, 3)) tx_md_table_0 25 rfl
theorem d_md_table_45 : decode prog_10_method_53_code 45 = .ok (.aload_n 0, 1) := zD (q := (45, .aload_n 0, 1)) tx_md_table_0 26 rfl
theorem d_md_table_46 : decode prog_10_method_53_code 46 = .ok (.getfield 81, 3) := zD (q := (46, .getfield 81, 3)) tx_md_table_0 27 rfl
theorem d_md_table_49 : decode prog_10_method_53_code 49 = .ok (.bipush 8, 2) := zD (q := (49, .bipush 8, 2)) tx_md_table_0 28 rfl
theorem d_md_table_51 : decode prog_10_method_53_code 51 = .ok (.aload_n 0, 1) := zD (q := (51, .aload_n 0, 1)) tx_md_table_0 29 rfl
theorem d_md_table_52 : decode prog_10_method_53_code 52 = .ok (.getfield 84, 3) := zD (q := (52, .getfield 84, 3)) tx_md_table_0 30 rfl
theorem d_md_table_55 : decode prog_10_method_53_code 55 = .ok (.iload_n 1, 1) := zD (q := (55, .iload_n 1, 1)) tx_md_table_0 31 rfl
theorem d_md_table_56 : decode prog_10_method_53_code 56 = .ok (.iaload, 1) := zD (q := (56, .iaload, 1)) tx_md_table_0 32 rfl
theorem d_md_table_57 : decode prog_10_method_53_code 57 = .ok (.imul, 1) := zD (q := (57, .imul, 1)) tx_md_table_0 33 rfl
theorem d_md_table_58 : decode prog_10_method_53_code 58 = .ok (.iload_n 2, 1) := zD (q := (58, .iload_n 2, 1)) tx_md_table_0 34 rfl
theorem d_md_table_59 : decode prog_10_method_53_code 59 = .ok (.iadd, 1) := zD (q := (59, .iadd, 1)) tx_md_table_0 35 rfl
theorem d_md_table_60 : decode prog_10_method_53_code 60 = .ok (.iaload, 1) := zD (q := (60, .iaload, 1)) tx_md_table_0 36 rfl
theorem d_md_table_61 : decode prog_10_method_53_code 61 = .ok (.ireturn, 1) := zD (q := (61, .ireturn, 1)) tx_md_table_0 37 rfl
def T_md_layTable_0 : List (Nat × Instr × Nat) := [(0, .iconst 0, 1), (1, .istore_n 1, 1), (2, .iload_n 1, 1), (3, .sipush 160, 3), (6, .if_icmp .ge 16, 3), (9, .aload_n 0, 1), (10, .getfield 81, 3), (13, .iload_n 1, 1), (14, .iconst 0, 1), (15, .iastore, 1), (16, .iinc 1 1, 3), (19, .goto (-17), 3), (22, .iconst 0, 1), (23, .istore_n 1, 1), (24, .iload_n 1, 1), (25, .aload_n 0, 1), (26, .getfield 7, 3), (29, .if_icmp .ge 19, 3), (32, .aload_n 0, 1), (33, .getfield 81, 3), (36, .bipush 8, 2), (38, .iload_n 1, 1), (39, .imul, 1), (40, .iload_n 1, 1), (41, .iastore, 1), (42, .iinc 1 1, 3), (45, .goto (-21), 3), (48, .iconst 0, 1), (49, .istore_n 1, 1), (50, .iload_n 1, 1), (51, .aload_n 0, 1), (52, .getfield 94, 3), (55, .if_icmp .ge 80, 3), (58, .iconst 0, 1), (59, .istore_n 2, 1), (60, .iload_n 2, 1), (61, .aload_n 0, 1), (62, .getfield 7, 3), (65, .if_icmp .ge 64, 3), (68, .bipush 20, 2), (70, .iload_n 1, 1), (71, .imul, 1), (72, .iload_n 2, 1), (73, .iadd, 1), (74, .istore_n 3, 1), (75, .aload_n 0, 1), (76, .getfield 39, 3), (79, .iload_n 3, 1), (80, .baload, 1), (81, .ifCond .eq 42, 3), (84, .aload_n 0, 1), (85, .iload_n 2, 1), (86, .aload_n 0, 1), (87, .getfield 42, 3), (90, .iload_n 3, 1), (91, .iaload, 1), (92, .aload_n 0, 1), (93, .getfield 45, 3), (96, .iload_n 3, 1), (97, .iaload, 1)]
theorem tx_md_layTable_0 : zdec prog_10_method_52_code T_md_layTable_0 = true := by decide +kernel
theorem d_md_layTable_0 : decode prog_10_method_52_code 0 = .ok (.iconst 0, 1) := zD (q := (0, .iconst 0, 1)) tx_md_layTable_0 0 rfl
theorem d_md_layTable_1 : decode prog_10_method_52_code 1 = .ok (.istore_n 1, 1) := zD (q := (1, .istore_n 1, 1)) tx_md_layTable_0 1 rfl
theorem d_md_layTable_2 : decode prog_10_method_52_code 2 = .ok (.iload_n 1, 1) := zD (q := (2, .iload_n 1, 1)) tx_md_layTable_0 2 rfl
theorem d_md_layTable_3 : decode prog_10_method_52_code 3 = .ok (.sipush 160, 3) := zD (q := (3, .sipush 160, 3)) tx_md_layTable_0 3 rfl
theorem d_md_layTable_6 : decode prog_10_method_52_code 6 = .ok (.if_icmp .ge 16, 3) := zD (q := (6, .if_icmp .ge 16, 3)) tx_md_layTable_0 4 rfl
theorem d_md_layTable_9 : decode prog_10_method_52_code 9 = .ok (.aload_n 0, 1) := zD (q := (9, .aload_n 0, 1)) tx_md_layTable_0 5 rfl
theorem d_md_layTable_10 : decode prog_10_method_52_code 10 = .ok (.getfield 81, 3) := zD (q := (10, .getfield 81, 3)) tx_md_layTable_0 6 rfl
theorem d_md_layTable_13 : decode prog_10_method_52_code 13 = .ok (.iload_n 1, 1) := zD (q := (13, .iload_n 1, 1)) tx_md_layTable_0 7 rfl
theorem d_md_layTable_14 : decode prog_10_method_52_code 14 = .ok (.iconst 0, 1) := zD (q := (14, .iconst 0, 1)) tx_md_layTable_0 8 rfl
theorem d_md_layTable_15 : decode prog_10_method_52_code 15 = .ok (.iastore, 1) := zD (q := (15, .iastore, 1)) tx_md_layTable_0 9 rfl
theorem d_md_layTable_16 : decode prog_10_method_52_code 16 = .ok (.iinc 1 1, 3) := zD (q := (16, .iinc 1 1, 3)) tx_md_layTable_0 10 rfl
theorem d_md_layTable_19 : decode prog_10_method_52_code 19 = .ok (.goto (-17), 3) := zD (q := (19, .goto (-17), 3)) tx_md_layTable_0 11 rfl
theorem d_md_layTable_22 : decode prog_10_method_52_code 22 = .ok (.iconst 0, 1) := zD (q := (22, .iconst 0, 1)) tx_md_layTable_0 12 rfl
theorem d_md_layTable_23 : decode prog_10_method_52_code 23 = .ok (.istore_n 1, 1) := zD (q := (23, .istore_n 1, 1)) tx_md_layTable_0 13 rfl
theorem d_md_layTable_24 : decode prog_10_method_52_code 24 = .ok (.iload_n 1, 1) := zD (q := (24, .iload_n 1, 1)) tx_md_layTable_0 14 rfl
theorem d_md_layTable_25 : decode prog_10_method_52_code 25 = .ok (.aload_n 0, 1) := zD (q := (25, .aload_n 0, 1)) tx_md_layTable_0 15 rfl
theorem d_md_layTable_26 : decode prog_10_method_52_code 26 = .ok (.getfield 7, 3) := zD (q := (26, .getfield 7, 3)) tx_md_layTable_0 16 rfl
theorem d_md_layTable_29 : decode prog_10_method_52_code 29 = .ok (.if_icmp .ge 19, 3) := zD (q := (29, .if_icmp .ge 19, 3)) tx_md_layTable_0 17 rfl
theorem d_md_layTable_32 : decode prog_10_method_52_code 32 = .ok (.aload_n 0, 1) := zD (q := (32, .aload_n 0, 1)) tx_md_layTable_0 18 rfl
theorem d_md_layTable_33 : decode prog_10_method_52_code 33 = .ok (.getfield 81, 3) := zD (q := (33, .getfield 81, 3)) tx_md_layTable_0 19 rfl
theorem d_md_layTable_36 : decode prog_10_method_52_code 36 = .ok (.bipush 8, 2) := zD (q := (36, .bipush 8, 2)) tx_md_layTable_0 20 rfl
theorem d_md_layTable_38 : decode prog_10_method_52_code 38 = .ok (.iload_n 1, 1) := zD (q := (38, .iload_n 1, 1)) tx_md_layTable_0 21 rfl
theorem d_md_layTable_39 : decode prog_10_method_52_code 39 = .ok (.imul, 1) := zD (q := (39, .imul, 1)) tx_md_layTable_0 22 rfl
theorem d_md_layTable_40 : decode prog_10_method_52_code 40 = .ok (.iload_n 1, 1) := zD (q := (40, .iload_n 1, 1)) tx_md_layTable_0 23 rfl
theorem d_md_layTable_41 : decode prog_10_method_52_code 41 = .ok (.iastore, 1) := zD (q := (41, .iastore, 1)) tx_md_layTable_0 24 rfl
theorem d_md_layTable_42 : decode prog_10_method_52_code 42 = .ok (.iinc 1 1, 3) := zD (q := (42, .iinc 1 1, 3)) tx_md_layTable_0 25 rfl
theorem d_md_layTable_45 : decode prog_10_method_52_code 45 = .ok (.goto (-21), 3) := zD (q := (45, .goto (-21), 3)) tx_md_layTable_0 26 rfl
theorem d_md_layTable_48 : decode prog_10_method_52_code 48 = .ok (.iconst 0, 1) := zD (q := (48, .iconst 0, 1)) tx_md_layTable_0 27 rfl
theorem d_md_layTable_49 : decode prog_10_method_52_code 49 = .ok (.istore_n 1, 1) := zD (q := (49, .istore_n 1, 1)) tx_md_layTable_0 28 rfl
theorem d_md_layTable_50 : decode prog_10_method_52_code 50 = .ok (.iload_n 1, 1) := zD (q := (50, .iload_n 1, 1)) tx_md_layTable_0 29 rfl
theorem d_md_layTable_51 : decode prog_10_method_52_code 51 = .ok (.aload_n 0, 1) := zD (q := (51, .aload_n 0, 1)) tx_md_layTable_0 30 rfl
theorem d_md_layTable_52 : decode prog_10_method_52_code 52 = .ok (.getfield 94, 3) := zD (q := (52, .getfield 94, 3)) tx_md_layTable_0 31 rfl
theorem d_md_layTable_55 : decode prog_10_method_52_code 55 = .ok (.if_icmp .ge 80, 3) := zD (q := (55, .if_icmp .ge 80, 3)) tx_md_layTable_0 32 rfl
theorem d_md_layTable_58 : decode prog_10_method_52_code 58 = .ok (.iconst 0, 1) := zD (q := (58, .iconst 0, 1)) tx_md_layTable_0 33 rfl
theorem d_md_layTable_59 : decode prog_10_method_52_code 59 = .ok (.istore_n 2, 1) := zD (q := (59, .istore_n 2, 1)) tx_md_layTable_0 34 rfl
theorem d_md_layTable_60 : decode prog_10_method_52_code 60 = .ok (.iload_n 2, 1) := zD (q := (60, .iload_n 2, 1)) tx_md_layTable_0 35 rfl
theorem d_md_layTable_61 : decode prog_10_method_52_code 61 = .ok (.aload_n 0, 1) := zD (q := (61, .aload_n 0, 1)) tx_md_layTable_0 36 rfl
theorem d_md_layTable_62 : decode prog_10_method_52_code 62 = .ok (.getfield 7, 3) := zD (q := (62, .getfield 7, 3)) tx_md_layTable_0 37 rfl
theorem d_md_layTable_65 : decode prog_10_method_52_code 65 = .ok (.if_icmp .ge 64, 3) := zD (q := (65, .if_icmp .ge 64, 3)) tx_md_layTable_0 38 rfl
theorem d_md_layTable_68 : decode prog_10_method_52_code 68 = .ok (.bipush 20, 2) := zD (q := (68, .bipush 20, 2)) tx_md_layTable_0 39 rfl
theorem d_md_layTable_70 : decode prog_10_method_52_code 70 = .ok (.iload_n 1, 1) := zD (q := (70, .iload_n 1, 1)) tx_md_layTable_0 40 rfl
theorem d_md_layTable_71 : decode prog_10_method_52_code 71 = .ok (.imul, 1) := zD (q := (71, .imul, 1)) tx_md_layTable_0 41 rfl
theorem d_md_layTable_72 : decode prog_10_method_52_code 72 = .ok (.iload_n 2, 1) := zD (q := (72, .iload_n 2, 1)) tx_md_layTable_0 42 rfl
theorem d_md_layTable_73 : decode prog_10_method_52_code 73 = .ok (.iadd, 1) := zD (q := (73, .iadd, 1)) tx_md_layTable_0 43 rfl
theorem d_md_layTable_74 : decode prog_10_method_52_code 74 = .ok (.istore_n 3, 1) := zD (q := (74, .istore_n 3, 1)) tx_md_layTable_0 44 rfl
theorem d_md_layTable_75 : decode prog_10_method_52_code 75 = .ok (.aload_n 0, 1) := zD (q := (75, .aload_n 0, 1)) tx_md_layTable_0 45 rfl
theorem d_md_layTable_76 : decode prog_10_method_52_code 76 = .ok (.getfield 39, 3) := zD (q := (76, .getfield 39, 3)) tx_md_layTable_0 46 rfl
theorem d_md_layTable_79 : decode prog_10_method_52_code 79 = .ok (.iload_n 3, 1) := zD (q := (79, .iload_n 3, 1)) tx_md_layTable_0 47 rfl
theorem d_md_layTable_80 : decode prog_10_method_52_code 80 = .ok (.baload, 1) := zD (q := (80, .baload, 1)) tx_md_layTable_0 48 rfl
theorem d_md_layTable_81 : decode prog_10_method_52_code 81 = .ok (.ifCond .eq 42, 3) := zD (q := (81, .ifCond .eq 42, 3)) tx_md_layTable_0 49 rfl
theorem d_md_layTable_84 : decode prog_10_method_52_code 84 = .ok (.aload_n 0, 1) := zD (q := (84, .aload_n 0, 1)) tx_md_layTable_0 50 rfl
theorem d_md_layTable_85 : decode prog_10_method_52_code 85 = .ok (.iload_n 2, 1) := zD (q := (85, .iload_n 2, 1)) tx_md_layTable_0 51 rfl
theorem d_md_layTable_86 : decode prog_10_method_52_code 86 = .ok (.aload_n 0, 1) := zD (q := (86, .aload_n 0, 1)) tx_md_layTable_0 52 rfl
theorem d_md_layTable_87 : decode prog_10_method_52_code 87 = .ok (.getfield 42, 3) := zD (q := (87, .getfield 42, 3)) tx_md_layTable_0 53 rfl
theorem d_md_layTable_90 : decode prog_10_method_52_code 90 = .ok (.iload_n 3, 1) := zD (q := (90, .iload_n 3, 1)) tx_md_layTable_0 54 rfl
theorem d_md_layTable_91 : decode prog_10_method_52_code 91 = .ok (.iaload, 1) := zD (q := (91, .iaload, 1)) tx_md_layTable_0 55 rfl
theorem d_md_layTable_92 : decode prog_10_method_52_code 92 = .ok (.aload_n 0, 1) := zD (q := (92, .aload_n 0, 1)) tx_md_layTable_0 56 rfl
theorem d_md_layTable_93 : decode prog_10_method_52_code 93 = .ok (.getfield 45, 3) := zD (q := (93, .getfield 45, 3)) tx_md_layTable_0 57 rfl
theorem d_md_layTable_96 : decode prog_10_method_52_code 96 = .ok (.iload_n 3, 1) := zD (q := (96, .iload_n 3, 1)) tx_md_layTable_0 58 rfl
theorem d_md_layTable_97 : decode prog_10_method_52_code 97 = .ok (.iaload, 1) := zD (q := (97, .iaload, 1)) tx_md_layTable_0 59 rfl
def T_md_layTable_1 : List (Nat × Instr × Nat) := [(98, .invokevirtual 217, 3), (101, .aload_n 0, 1), (102, .aload_n 0, 1), (103, .getfield 33, 3), (106, .iload_n 3, 1), (107, .iaload, 1), (108, .aload_n 0, 1), (109, .getfield 45, 3), (112, .iload_n 3, 1), (113, .iaload, 1), (114, .aload_n 0, 1), (115, .getfield 42, 3), (118, .iload_n 3, 1), (119, .iaload, 1), (120, .invokevirtual 217, 3), (123, .iinc 2 1, 3), (126, .goto (-66), 3), (129, .iinc 1 1, 3), (132, .goto (-82), 3), (135, .iconst 0, 1), (136, .istore_n 1, 1), (137, .iload_n 1, 1), (138, .aload_n 0, 1), (139, .getfield 7, 3), (142, .if_icmp .ge 56, 3), (145, .iconst 0, 1), (146, .istore_n 2, 1), (147, .iconst 0, 1), (148, .istore_n 3, 1), (149, .iload_n 3, 1), (150, .aload_n 0, 1), (151, .getfield 7, 3), (154, .if_icmp .ge 31, 3), (157, .iload_n 3, 1), (158, .iload_n 1, 1), (159, .if_icmp .eq 18, 3), (162, .aload_n 0, 1), (163, .iload_n 3, 1), (164, .iload_n 1, 1), (165, .invokevirtual 220, 3), (168, .ifCond .eq 9, 3), (171, .iload_n 2, 1), (172, .iconst 1, 1), (173, .iadd, 1), (174, .goto 4, 3), (177, .iload_n 2, 1), (178, .istore_n 2, 1), (179, .iinc 3 1, 3), (182, .goto (-33), 3), (185, .aload_n 0, 1), (186, .getfield 84, 3), (189, .iload_n 2, 1), (190, .iload_n 1, 1), (191, .iastore, 1), (192, .iinc 1 1, 3), (195, .goto (-58), 3), (198, .return_, 1)]
theorem tx_md_layTable_1 : zdec prog_10_method_52_code T_md_layTable_1 = true := by decide +kernel
theorem d_md_layTable_98 : decode prog_10_method_52_code 98 = .ok (.invokevirtual 217, 3) := zD (q := (98, .invokevirtual 217, 3)) tx_md_layTable_1 0 rfl
theorem d_md_layTable_101 : decode prog_10_method_52_code 101 = .ok (.aload_n 0, 1) := zD (q := (101, .aload_n 0, 1)) tx_md_layTable_1 1 rfl
theorem d_md_layTable_102 : decode prog_10_method_52_code 102 = .ok (.aload_n 0, 1) := zD (q := (102, .aload_n 0, 1)) tx_md_layTable_1 2 rfl
theorem d_md_layTable_103 : decode prog_10_method_52_code 103 = .ok (.getfield 33, 3) := zD (q := (103, .getfield 33, 3)) tx_md_layTable_1 3 rfl
theorem d_md_layTable_106 : decode prog_10_method_52_code 106 = .ok (.iload_n 3, 1) := zD (q := (106, .iload_n 3, 1)) tx_md_layTable_1 4 rfl
theorem d_md_layTable_107 : decode prog_10_method_52_code 107 = .ok (.iaload, 1) := zD (q := (107, .iaload, 1)) tx_md_layTable_1 5 rfl
theorem d_md_layTable_108 : decode prog_10_method_52_code 108 = .ok (.aload_n 0, 1) := zD (q := (108, .aload_n 0, 1)) tx_md_layTable_1 6 rfl
theorem d_md_layTable_109 : decode prog_10_method_52_code 109 = .ok (.getfield 45, 3) := zD (q := (109, .getfield 45, 3)) tx_md_layTable_1 7 rfl
theorem d_md_layTable_112 : decode prog_10_method_52_code 112 = .ok (.iload_n 3, 1) := zD (q := (112, .iload_n 3, 1)) tx_md_layTable_1 8 rfl
theorem d_md_layTable_113 : decode prog_10_method_52_code 113 = .ok (.iaload, 1) := zD (q := (113, .iaload, 1)) tx_md_layTable_1 9 rfl
theorem d_md_layTable_114 : decode prog_10_method_52_code 114 = .ok (.aload_n 0, 1) := zD (q := (114, .aload_n 0, 1)) tx_md_layTable_1 10 rfl
theorem d_md_layTable_115 : decode prog_10_method_52_code 115 = .ok (.getfield 42, 3) := zD (q := (115, .getfield 42, 3)) tx_md_layTable_1 11 rfl
theorem d_md_layTable_118 : decode prog_10_method_52_code 118 = .ok (.iload_n 3, 1) := zD (q := (118, .iload_n 3, 1)) tx_md_layTable_1 12 rfl
theorem d_md_layTable_119 : decode prog_10_method_52_code 119 = .ok (.iaload, 1) := zD (q := (119, .iaload, 1)) tx_md_layTable_1 13 rfl
theorem d_md_layTable_120 : decode prog_10_method_52_code 120 = .ok (.invokevirtual 217, 3) := zD (q := (120, .invokevirtual 217, 3)) tx_md_layTable_1 14 rfl
theorem d_md_layTable_123 : decode prog_10_method_52_code 123 = .ok (.iinc 2 1, 3) := zD (q := (123, .iinc 2 1, 3)) tx_md_layTable_1 15 rfl
theorem d_md_layTable_126 : decode prog_10_method_52_code 126 = .ok (.goto (-66), 3) := zD (q := (126, .goto (-66), 3)) tx_md_layTable_1 16 rfl
theorem d_md_layTable_129 : decode prog_10_method_52_code 129 = .ok (.iinc 1 1, 3) := zD (q := (129, .iinc 1 1, 3)) tx_md_layTable_1 17 rfl
theorem d_md_layTable_132 : decode prog_10_method_52_code 132 = .ok (.goto (-82), 3) := zD (q := (132, .goto (-82), 3)) tx_md_layTable_1 18 rfl
theorem d_md_layTable_135 : decode prog_10_method_52_code 135 = .ok (.iconst 0, 1) := zD (q := (135, .iconst 0, 1)) tx_md_layTable_1 19 rfl
theorem d_md_layTable_136 : decode prog_10_method_52_code 136 = .ok (.istore_n 1, 1) := zD (q := (136, .istore_n 1, 1)) tx_md_layTable_1 20 rfl
theorem d_md_layTable_137 : decode prog_10_method_52_code 137 = .ok (.iload_n 1, 1) := zD (q := (137, .iload_n 1, 1)) tx_md_layTable_1 21 rfl
theorem d_md_layTable_138 : decode prog_10_method_52_code 138 = .ok (.aload_n 0, 1) := zD (q := (138, .aload_n 0, 1)) tx_md_layTable_1 22 rfl
theorem d_md_layTable_139 : decode prog_10_method_52_code 139 = .ok (.getfield 7, 3) := zD (q := (139, .getfield 7, 3)) tx_md_layTable_1 23 rfl
theorem d_md_layTable_142 : decode prog_10_method_52_code 142 = .ok (.if_icmp .ge 56, 3) := zD (q := (142, .if_icmp .ge 56, 3)) tx_md_layTable_1 24 rfl
theorem d_md_layTable_145 : decode prog_10_method_52_code 145 = .ok (.iconst 0, 1) := zD (q := (145, .iconst 0, 1)) tx_md_layTable_1 25 rfl
theorem d_md_layTable_146 : decode prog_10_method_52_code 146 = .ok (.istore_n 2, 1) := zD (q := (146, .istore_n 2, 1)) tx_md_layTable_1 26 rfl
theorem d_md_layTable_147 : decode prog_10_method_52_code 147 = .ok (.iconst 0, 1) := zD (q := (147, .iconst 0, 1)) tx_md_layTable_1 27 rfl
theorem d_md_layTable_148 : decode prog_10_method_52_code 148 = .ok (.istore_n 3, 1) := zD (q := (148, .istore_n 3, 1)) tx_md_layTable_1 28 rfl
theorem d_md_layTable_149 : decode prog_10_method_52_code 149 = .ok (.iload_n 3, 1) := zD (q := (149, .iload_n 3, 1)) tx_md_layTable_1 29 rfl
theorem d_md_layTable_150 : decode prog_10_method_52_code 150 = .ok (.aload_n 0, 1) := zD (q := (150, .aload_n 0, 1)) tx_md_layTable_1 30 rfl
theorem d_md_layTable_151 : decode prog_10_method_52_code 151 = .ok (.getfield 7, 3) := zD (q := (151, .getfield 7, 3)) tx_md_layTable_1 31 rfl
theorem d_md_layTable_154 : decode prog_10_method_52_code 154 = .ok (.if_icmp .ge 31, 3) := zD (q := (154, .if_icmp .ge 31, 3)) tx_md_layTable_1 32 rfl
theorem d_md_layTable_157 : decode prog_10_method_52_code 157 = .ok (.iload_n 3, 1) := zD (q := (157, .iload_n 3, 1)) tx_md_layTable_1 33 rfl
theorem d_md_layTable_158 : decode prog_10_method_52_code 158 = .ok (.iload_n 1, 1) := zD (q := (158, .iload_n 1, 1)) tx_md_layTable_1 34 rfl
theorem d_md_layTable_159 : decode prog_10_method_52_code 159 = .ok (.if_icmp .eq 18, 3) := zD (q := (159, .if_icmp .eq 18, 3)) tx_md_layTable_1 35 rfl
theorem d_md_layTable_162 : decode prog_10_method_52_code 162 = .ok (.aload_n 0, 1) := zD (q := (162, .aload_n 0, 1)) tx_md_layTable_1 36 rfl
theorem d_md_layTable_163 : decode prog_10_method_52_code 163 = .ok (.iload_n 3, 1) := zD (q := (163, .iload_n 3, 1)) tx_md_layTable_1 37 rfl
theorem d_md_layTable_164 : decode prog_10_method_52_code 164 = .ok (.iload_n 1, 1) := zD (q := (164, .iload_n 1, 1)) tx_md_layTable_1 38 rfl
theorem d_md_layTable_165 : decode prog_10_method_52_code 165 = .ok (.invokevirtual 220, 3) := zD (q := (165, .invokevirtual 220, 3)) tx_md_layTable_1 39 rfl
theorem d_md_layTable_168 : decode prog_10_method_52_code 168 = .ok (.ifCond .eq 9, 3) := zD (q := (168, .ifCond .eq 9, 3)) tx_md_layTable_1 40 rfl
theorem d_md_layTable_171 : decode prog_10_method_52_code 171 = .ok (.iload_n 2, 1) := zD (q := (171, .iload_n 2, 1)) tx_md_layTable_1 41 rfl
theorem d_md_layTable_172 : decode prog_10_method_52_code 172 = .ok (.iconst 1, 1) := zD (q := (172, .iconst 1, 1)) tx_md_layTable_1 42 rfl
theorem d_md_layTable_173 : decode prog_10_method_52_code 173 = .ok (.iadd, 1) := zD (q := (173, .iadd, 1)) tx_md_layTable_1 43 rfl
theorem d_md_layTable_174 : decode prog_10_method_52_code 174 = .ok (.goto 4, 3) := zD (q := (174, .goto 4, 3)) tx_md_layTable_1 44 rfl
theorem d_md_layTable_177 : decode prog_10_method_52_code 177 = .ok (.iload_n 2, 1) := zD (q := (177, .iload_n 2, 1)) tx_md_layTable_1 45 rfl
theorem d_md_layTable_178 : decode prog_10_method_52_code 178 = .ok (.istore_n 2, 1) := zD (q := (178, .istore_n 2, 1)) tx_md_layTable_1 46 rfl
theorem d_md_layTable_179 : decode prog_10_method_52_code 179 = .ok (.iinc 3 1, 3) := zD (q := (179, .iinc 3 1, 3)) tx_md_layTable_1 47 rfl
theorem d_md_layTable_182 : decode prog_10_method_52_code 182 = .ok (.goto (-33), 3) := zD (q := (182, .goto (-33), 3)) tx_md_layTable_1 48 rfl
theorem d_md_layTable_185 : decode prog_10_method_52_code 185 = .ok (.aload_n 0, 1) := zD (q := (185, .aload_n 0, 1)) tx_md_layTable_1 49 rfl
theorem d_md_layTable_186 : decode prog_10_method_52_code 186 = .ok (.getfield 84, 3) := zD (q := (186, .getfield 84, 3)) tx_md_layTable_1 50 rfl
theorem d_md_layTable_189 : decode prog_10_method_52_code 189 = .ok (.iload_n 2, 1) := zD (q := (189, .iload_n 2, 1)) tx_md_layTable_1 51 rfl
theorem d_md_layTable_190 : decode prog_10_method_52_code 190 = .ok (.iload_n 1, 1) := zD (q := (190, .iload_n 1, 1)) tx_md_layTable_1 52 rfl
theorem d_md_layTable_191 : decode prog_10_method_52_code 191 = .ok (.iastore, 1) := zD (q := (191, .iastore, 1)) tx_md_layTable_1 53 rfl
theorem d_md_layTable_192 : decode prog_10_method_52_code 192 = .ok (.iinc 1 1, 3) := zD (q := (192, .iinc 1 1, 3)) tx_md_layTable_1 54 rfl
theorem d_md_layTable_195 : decode prog_10_method_52_code 195 = .ok (.goto (-58), 3) := zD (q := (195, .goto (-58), 3)) tx_md_layTable_1 55 rfl
theorem d_md_layTable_198 : decode prog_10_method_52_code 198 = .ok (.return_, 1) := zD (q := (198, .return_, 1)) tx_md_layTable_1 56 rfl
def T_md_count_0 : List (Nat × Instr × Nat) := [(0, .bipush 8, 2), (2, .iload_n 1, 1), (3, .imul, 1), (4, .istore 4, 2), (6, .aload_n 0, 1), (7, .getfield 81, 3), (10, .iload 4, 2), (12, .iconst 1, 1), (13, .iadd, 1), (14, .dup2, 1), (15, .iaload, 1), (16, .iconst 1, 1), (17, .iadd, 1), (18, .iastore, 1), (19, .aload_n 0, 1), (20, .getfield 81, 3), (23, .iload 4, 2), (25, .iconst 2, 1), (26, .iadd, 1), (27, .iload_n 2, 1), (28, .iload_n 3, 1), (29, .if_icmp .le 17, 3), (32, .aload_n 0, 1), (33, .getfield 81, 3), (36, .iload 4, 2), (38, .iconst 2, 1), (39, .iadd, 1), (40, .iaload, 1), (41, .iconst 1, 1), (42, .iadd, 1), (43, .goto 12, 3), (46, .aload_n 0, 1), (47, .getfield 81, 3), (50, .iload 4, 2), (52, .iconst 2, 1), (53, .iadd, 1), (54, .iaload, 1), (55, .iastore, 1), (56, .aload_n 0, 1), (57, .getfield 81, 3), (60, .iload 4, 2), (62, .iconst 3, 1), (63, .iadd, 1), (64, .iload_n 2, 1), (65, .iload_n 3, 1), (66, .if_icmp .ne 17, 3), (69, .aload_n 0, 1), (70, .getfield 81, 3), (73, .iload 4, 2), (75, .iconst 3, 1), (76, .iadd, 1), (77, .iaload, 1), (78, .iconst 1, 1), (79, .iadd, 1), (80, .goto 12, 3), (83, .aload_n 0, 1), (84, .getfield 81, 3), (87, .iload 4, 2), (89, .iconst 3, 1), (90, .iadd, 1)]
theorem tx_md_count_0 : zdec prog_10_method_50_code T_md_count_0 = true := by decide +kernel
theorem d_md_count_0 : decode prog_10_method_50_code 0 = .ok (.bipush 8, 2) := zD (q := (0, .bipush 8, 2)) tx_md_count_0 0 rfl
theorem d_md_count_2 : decode prog_10_method_50_code 2 = .ok (.iload_n 1, 1) := zD (q := (2, .iload_n 1, 1)) tx_md_count_0 1 rfl
theorem d_md_count_3 : decode prog_10_method_50_code 3 = .ok (.imul, 1) := zD (q := (3, .imul, 1)) tx_md_count_0 2 rfl
theorem d_md_count_4 : decode prog_10_method_50_code 4 = .ok (.istore 4, 2) := zD (q := (4, .istore 4, 2)) tx_md_count_0 3 rfl
theorem d_md_count_6 : decode prog_10_method_50_code 6 = .ok (.aload_n 0, 1) := zD (q := (6, .aload_n 0, 1)) tx_md_count_0 4 rfl
theorem d_md_count_7 : decode prog_10_method_50_code 7 = .ok (.getfield 81, 3) := zD (q := (7, .getfield 81, 3)) tx_md_count_0 5 rfl
theorem d_md_count_10 : decode prog_10_method_50_code 10 = .ok (.iload 4, 2) := zD (q := (10, .iload 4, 2)) tx_md_count_0 6 rfl
theorem d_md_count_12 : decode prog_10_method_50_code 12 = .ok (.iconst 1, 1) := zD (q := (12, .iconst 1, 1)) tx_md_count_0 7 rfl
theorem d_md_count_13 : decode prog_10_method_50_code 13 = .ok (.iadd, 1) := zD (q := (13, .iadd, 1)) tx_md_count_0 8 rfl
theorem d_md_count_14 : decode prog_10_method_50_code 14 = .ok (.dup2, 1) := zD (q := (14, .dup2, 1)) tx_md_count_0 9 rfl
theorem d_md_count_15 : decode prog_10_method_50_code 15 = .ok (.iaload, 1) := zD (q := (15, .iaload, 1)) tx_md_count_0 10 rfl
theorem d_md_count_16 : decode prog_10_method_50_code 16 = .ok (.iconst 1, 1) := zD (q := (16, .iconst 1, 1)) tx_md_count_0 11 rfl
theorem d_md_count_17 : decode prog_10_method_50_code 17 = .ok (.iadd, 1) := zD (q := (17, .iadd, 1)) tx_md_count_0 12 rfl
theorem d_md_count_18 : decode prog_10_method_50_code 18 = .ok (.iastore, 1) := zD (q := (18, .iastore, 1)) tx_md_count_0 13 rfl
theorem d_md_count_19 : decode prog_10_method_50_code 19 = .ok (.aload_n 0, 1) := zD (q := (19, .aload_n 0, 1)) tx_md_count_0 14 rfl
theorem d_md_count_20 : decode prog_10_method_50_code 20 = .ok (.getfield 81, 3) := zD (q := (20, .getfield 81, 3)) tx_md_count_0 15 rfl
theorem d_md_count_23 : decode prog_10_method_50_code 23 = .ok (.iload 4, 2) := zD (q := (23, .iload 4, 2)) tx_md_count_0 16 rfl
theorem d_md_count_25 : decode prog_10_method_50_code 25 = .ok (.iconst 2, 1) := zD (q := (25, .iconst 2, 1)) tx_md_count_0 17 rfl
theorem d_md_count_26 : decode prog_10_method_50_code 26 = .ok (.iadd, 1) := zD (q := (26, .iadd, 1)) tx_md_count_0 18 rfl
theorem d_md_count_27 : decode prog_10_method_50_code 27 = .ok (.iload_n 2, 1) := zD (q := (27, .iload_n 2, 1)) tx_md_count_0 19 rfl
theorem d_md_count_28 : decode prog_10_method_50_code 28 = .ok (.iload_n 3, 1) := zD (q := (28, .iload_n 3, 1)) tx_md_count_0 20 rfl
theorem d_md_count_29 : decode prog_10_method_50_code 29 = .ok (.if_icmp .le 17, 3) := zD (q := (29, .if_icmp .le 17, 3)) tx_md_count_0 21 rfl
theorem d_md_count_32 : decode prog_10_method_50_code 32 = .ok (.aload_n 0, 1) := zD (q := (32, .aload_n 0, 1)) tx_md_count_0 22 rfl
theorem d_md_count_33 : decode prog_10_method_50_code 33 = .ok (.getfield 81, 3) := zD (q := (33, .getfield 81, 3)) tx_md_count_0 23 rfl
theorem d_md_count_36 : decode prog_10_method_50_code 36 = .ok (.iload 4, 2) := zD (q := (36, .iload 4, 2)) tx_md_count_0 24 rfl
theorem d_md_count_38 : decode prog_10_method_50_code 38 = .ok (.iconst 2, 1) := zD (q := (38, .iconst 2, 1)) tx_md_count_0 25 rfl
theorem d_md_count_39 : decode prog_10_method_50_code 39 = .ok (.iadd, 1) := zD (q := (39, .iadd, 1)) tx_md_count_0 26 rfl
theorem d_md_count_40 : decode prog_10_method_50_code 40 = .ok (.iaload, 1) := zD (q := (40, .iaload, 1)) tx_md_count_0 27 rfl
theorem d_md_count_41 : decode prog_10_method_50_code 41 = .ok (.iconst 1, 1) := zD (q := (41, .iconst 1, 1)) tx_md_count_0 28 rfl
theorem d_md_count_42 : decode prog_10_method_50_code 42 = .ok (.iadd, 1) := zD (q := (42, .iadd, 1)) tx_md_count_0 29 rfl
theorem d_md_count_43 : decode prog_10_method_50_code 43 = .ok (.goto 12, 3) := zD (q := (43, .goto 12, 3)) tx_md_count_0 30 rfl
theorem d_md_count_46 : decode prog_10_method_50_code 46 = .ok (.aload_n 0, 1) := zD (q := (46, .aload_n 0, 1)) tx_md_count_0 31 rfl
theorem d_md_count_47 : decode prog_10_method_50_code 47 = .ok (.getfield 81, 3) := zD (q := (47, .getfield 81, 3)) tx_md_count_0 32 rfl
theorem d_md_count_50 : decode prog_10_method_50_code 50 = .ok (.iload 4, 2) := zD (q := (50, .iload 4, 2)) tx_md_count_0 33 rfl
theorem d_md_count_52 : decode prog_10_method_50_code 52 = .ok (.iconst 2, 1) := zD (q := (52, .iconst 2, 1)) tx_md_count_0 34 rfl
theorem d_md_count_53 : decode prog_10_method_50_code 53 = .ok (.iadd, 1) := zD (q := (53, .iadd, 1)) tx_md_count_0 35 rfl
theorem d_md_count_54 : decode prog_10_method_50_code 54 = .ok (.iaload, 1) := zD (q := (54, .iaload, 1)) tx_md_count_0 36 rfl
theorem d_md_count_55 : decode prog_10_method_50_code 55 = .ok (.iastore, 1) := zD (q := (55, .iastore, 1)) tx_md_count_0 37 rfl
theorem d_md_count_56 : decode prog_10_method_50_code 56 = .ok (.aload_n 0, 1) := zD (q := (56, .aload_n 0, 1)) tx_md_count_0 38 rfl
theorem d_md_count_57 : decode prog_10_method_50_code 57 = .ok (.getfield 81, 3) := zD (q := (57, .getfield 81, 3)) tx_md_count_0 39 rfl
theorem d_md_count_60 : decode prog_10_method_50_code 60 = .ok (.iload 4, 2) := zD (q := (60, .iload 4, 2)) tx_md_count_0 40 rfl
theorem d_md_count_62 : decode prog_10_method_50_code 62 = .ok (.iconst 3, 1) := zD (q := (62, .iconst 3, 1)) tx_md_count_0 41 rfl
theorem d_md_count_63 : decode prog_10_method_50_code 63 = .ok (.iadd, 1) := zD (q := (63, .iadd, 1)) tx_md_count_0 42 rfl
theorem d_md_count_64 : decode prog_10_method_50_code 64 = .ok (.iload_n 2, 1) := zD (q := (64, .iload_n 2, 1)) tx_md_count_0 43 rfl
theorem d_md_count_65 : decode prog_10_method_50_code 65 = .ok (.iload_n 3, 1) := zD (q := (65, .iload_n 3, 1)) tx_md_count_0 44 rfl
theorem d_md_count_66 : decode prog_10_method_50_code 66 = .ok (.if_icmp .ne 17, 3) := zD (q := (66, .if_icmp .ne 17, 3)) tx_md_count_0 45 rfl
theorem d_md_count_69 : decode prog_10_method_50_code 69 = .ok (.aload_n 0, 1) := zD (q := (69, .aload_n 0, 1)) tx_md_count_0 46 rfl
theorem d_md_count_70 : decode prog_10_method_50_code 70 = .ok (.getfield 81, 3) := zD (q := (70, .getfield 81, 3)) tx_md_count_0 47 rfl
theorem d_md_count_73 : decode prog_10_method_50_code 73 = .ok (.iload 4, 2) := zD (q := (73, .iload 4, 2)) tx_md_count_0 48 rfl
theorem d_md_count_75 : decode prog_10_method_50_code 75 = .ok (.iconst 3, 1) := zD (q := (75, .iconst 3, 1)) tx_md_count_0 49 rfl
theorem d_md_count_76 : decode prog_10_method_50_code 76 = .ok (.iadd, 1) := zD (q := (76, .iadd, 1)) tx_md_count_0 50 rfl
theorem d_md_count_77 : decode prog_10_method_50_code 77 = .ok (.iaload, 1) := zD (q := (77, .iaload, 1)) tx_md_count_0 51 rfl
theorem d_md_count_78 : decode prog_10_method_50_code 78 = .ok (.iconst 1, 1) := zD (q := (78, .iconst 1, 1)) tx_md_count_0 52 rfl
theorem d_md_count_79 : decode prog_10_method_50_code 79 = .ok (.iadd, 1) := zD (q := (79, .iadd, 1)) tx_md_count_0 53 rfl
theorem d_md_count_80 : decode prog_10_method_50_code 80 = .ok (.goto 12, 3) := zD (q := (80, .goto 12, 3)) tx_md_count_0 54 rfl
theorem d_md_count_83 : decode prog_10_method_50_code 83 = .ok (.aload_n 0, 1) := zD (q := (83, .aload_n 0, 1)) tx_md_count_0 55 rfl
theorem d_md_count_84 : decode prog_10_method_50_code 84 = .ok (.getfield 81, 3) := zD (q := (84, .getfield 81, 3)) tx_md_count_0 56 rfl
theorem d_md_count_87 : decode prog_10_method_50_code 87 = .ok (.iload 4, 2) := zD (q := (87, .iload 4, 2)) tx_md_count_0 57 rfl
theorem d_md_count_89 : decode prog_10_method_50_code 89 = .ok (.iconst 3, 1) := zD (q := (89, .iconst 3, 1)) tx_md_count_0 58 rfl
theorem d_md_count_90 : decode prog_10_method_50_code 90 = .ok (.iadd, 1) := zD (q := (90, .iadd, 1)) tx_md_count_0 59 rfl
def T_md_count_1 : List (Nat × Instr × Nat) := [(91, .iaload, 1), (92, .iastore, 1), (93, .aload_n 0, 1), (94, .getfield 81, 3), (97, .iload 4, 2), (99, .iconst 4, 1), (100, .iadd, 1), (101, .iload_n 2, 1), (102, .iload_n 3, 1), (103, .if_icmp .ge 17, 3), (106, .aload_n 0, 1), (107, .getfield 81, 3), (110, .iload 4, 2), (112, .iconst 4, 1), (113, .iadd, 1), (114, .iaload, 1), (115, .iconst 1, 1), (116, .iadd, 1), (117, .goto 12, 3), (120, .aload_n 0, 1), (121, .getfield 81, 3), (124, .iload 4, 2), (126, .iconst 4, 1), (127, .iadd, 1), (128, .iaload, 1), (129, .iastore, 1), (130, .aload_n 0, 1), (131, .getfield 81, 3), (134, .iload 4, 2), (136, .iconst 5, 1), (137, .iadd, 1), (138, .dup2, 1), (139, .iaload, 1), (140, .iload_n 2, 1), (141, .iadd, 1), (142, .iastore, 1), (143, .aload_n 0, 1), (144, .getfield 81, 3), (147, .iload 4, 2), (149, .bipush 6, 2), (151, .iadd, 1), (152, .dup2, 1), (153, .iaload, 1), (154, .iload_n 3, 1), (155, .iadd, 1), (156, .iastore, 1), (157, .aload_n 0, 1), (158, .getfield 81, 3), (161, .iload 4, 2), (163, .bipush 7, 2), (165, .iadd, 1), (166, .iconst 3, 1), (167, .aload_n 0, 1), (168, .getfield 81, 3), (171, .iload 4, 2), (173, .iconst 2, 1), (174, .iadd, 1), (175, .iaload, 1), (176, .imul, 1), (177, .aload_n 0, 1)]
theorem tx_md_count_1 : zdec prog_10_method_50_code T_md_count_1 = true := by decide +kernel
theorem d_md_count_91 : decode prog_10_method_50_code 91 = .ok (.iaload, 1) := zD (q := (91, .iaload, 1)) tx_md_count_1 0 rfl
theorem d_md_count_92 : decode prog_10_method_50_code 92 = .ok (.iastore, 1) := zD (q := (92, .iastore, 1)) tx_md_count_1 1 rfl
theorem d_md_count_93 : decode prog_10_method_50_code 93 = .ok (.aload_n 0, 1) := zD (q := (93, .aload_n 0, 1)) tx_md_count_1 2 rfl
theorem d_md_count_94 : decode prog_10_method_50_code 94 = .ok (.getfield 81, 3) := zD (q := (94, .getfield 81, 3)) tx_md_count_1 3 rfl
theorem d_md_count_97 : decode prog_10_method_50_code 97 = .ok (.iload 4, 2) := zD (q := (97, .iload 4, 2)) tx_md_count_1 4 rfl
theorem d_md_count_99 : decode prog_10_method_50_code 99 = .ok (.iconst 4, 1) := zD (q := (99, .iconst 4, 1)) tx_md_count_1 5 rfl
theorem d_md_count_100 : decode prog_10_method_50_code 100 = .ok (.iadd, 1) := zD (q := (100, .iadd, 1)) tx_md_count_1 6 rfl
theorem d_md_count_101 : decode prog_10_method_50_code 101 = .ok (.iload_n 2, 1) := zD (q := (101, .iload_n 2, 1)) tx_md_count_1 7 rfl
theorem d_md_count_102 : decode prog_10_method_50_code 102 = .ok (.iload_n 3, 1) := zD (q := (102, .iload_n 3, 1)) tx_md_count_1 8 rfl
theorem d_md_count_103 : decode prog_10_method_50_code 103 = .ok (.if_icmp .ge 17, 3) := zD (q := (103, .if_icmp .ge 17, 3)) tx_md_count_1 9 rfl
theorem d_md_count_106 : decode prog_10_method_50_code 106 = .ok (.aload_n 0, 1) := zD (q := (106, .aload_n 0, 1)) tx_md_count_1 10 rfl
theorem d_md_count_107 : decode prog_10_method_50_code 107 = .ok (.getfield 81, 3) := zD (q := (107, .getfield 81, 3)) tx_md_count_1 11 rfl
theorem d_md_count_110 : decode prog_10_method_50_code 110 = .ok (.iload 4, 2) := zD (q := (110, .iload 4, 2)) tx_md_count_1 12 rfl
theorem d_md_count_112 : decode prog_10_method_50_code 112 = .ok (.iconst 4, 1) := zD (q := (112, .iconst 4, 1)) tx_md_count_1 13 rfl
theorem d_md_count_113 : decode prog_10_method_50_code 113 = .ok (.iadd, 1) := zD (q := (113, .iadd, 1)) tx_md_count_1 14 rfl
theorem d_md_count_114 : decode prog_10_method_50_code 114 = .ok (.iaload, 1) := zD (q := (114, .iaload, 1)) tx_md_count_1 15 rfl
theorem d_md_count_115 : decode prog_10_method_50_code 115 = .ok (.iconst 1, 1) := zD (q := (115, .iconst 1, 1)) tx_md_count_1 16 rfl
theorem d_md_count_116 : decode prog_10_method_50_code 116 = .ok (.iadd, 1) := zD (q := (116, .iadd, 1)) tx_md_count_1 17 rfl
theorem d_md_count_117 : decode prog_10_method_50_code 117 = .ok (.goto 12, 3) := zD (q := (117, .goto 12, 3)) tx_md_count_1 18 rfl
theorem d_md_count_120 : decode prog_10_method_50_code 120 = .ok (.aload_n 0, 1) := zD (q := (120, .aload_n 0, 1)) tx_md_count_1 19 rfl
theorem d_md_count_121 : decode prog_10_method_50_code 121 = .ok (.getfield 81, 3) := zD (q := (121, .getfield 81, 3)) tx_md_count_1 20 rfl
theorem d_md_count_124 : decode prog_10_method_50_code 124 = .ok (.iload 4, 2) := zD (q := (124, .iload 4, 2)) tx_md_count_1 21 rfl
theorem d_md_count_126 : decode prog_10_method_50_code 126 = .ok (.iconst 4, 1) := zD (q := (126, .iconst 4, 1)) tx_md_count_1 22 rfl
theorem d_md_count_127 : decode prog_10_method_50_code 127 = .ok (.iadd, 1) := zD (q := (127, .iadd, 1)) tx_md_count_1 23 rfl
theorem d_md_count_128 : decode prog_10_method_50_code 128 = .ok (.iaload, 1) := zD (q := (128, .iaload, 1)) tx_md_count_1 24 rfl
theorem d_md_count_129 : decode prog_10_method_50_code 129 = .ok (.iastore, 1) := zD (q := (129, .iastore, 1)) tx_md_count_1 25 rfl
theorem d_md_count_130 : decode prog_10_method_50_code 130 = .ok (.aload_n 0, 1) := zD (q := (130, .aload_n 0, 1)) tx_md_count_1 26 rfl
theorem d_md_count_131 : decode prog_10_method_50_code 131 = .ok (.getfield 81, 3) := zD (q := (131, .getfield 81, 3)) tx_md_count_1 27 rfl
theorem d_md_count_134 : decode prog_10_method_50_code 134 = .ok (.iload 4, 2) := zD (q := (134, .iload 4, 2)) tx_md_count_1 28 rfl
theorem d_md_count_136 : decode prog_10_method_50_code 136 = .ok (.iconst 5, 1) := zD (q := (136, .iconst 5, 1)) tx_md_count_1 29 rfl
theorem d_md_count_137 : decode prog_10_method_50_code 137 = .ok (.iadd, 1) := zD (q := (137, .iadd, 1)) tx_md_count_1 30 rfl
theorem d_md_count_138 : decode prog_10_method_50_code 138 = .ok (.dup2, 1) := zD (q := (138, .dup2, 1)) tx_md_count_1 31 rfl
theorem d_md_count_139 : decode prog_10_method_50_code 139 = .ok (.iaload, 1) := zD (q := (139, .iaload, 1)) tx_md_count_1 32 rfl
theorem d_md_count_140 : decode prog_10_method_50_code 140 = .ok (.iload_n 2, 1) := zD (q := (140, .iload_n 2, 1)) tx_md_count_1 33 rfl
theorem d_md_count_141 : decode prog_10_method_50_code 141 = .ok (.iadd, 1) := zD (q := (141, .iadd, 1)) tx_md_count_1 34 rfl
theorem d_md_count_142 : decode prog_10_method_50_code 142 = .ok (.iastore, 1) := zD (q := (142, .iastore, 1)) tx_md_count_1 35 rfl
theorem d_md_count_143 : decode prog_10_method_50_code 143 = .ok (.aload_n 0, 1) := zD (q := (143, .aload_n 0, 1)) tx_md_count_1 36 rfl
theorem d_md_count_144 : decode prog_10_method_50_code 144 = .ok (.getfield 81, 3) := zD (q := (144, .getfield 81, 3)) tx_md_count_1 37 rfl
theorem d_md_count_147 : decode prog_10_method_50_code 147 = .ok (.iload 4, 2) := zD (q := (147, .iload 4, 2)) tx_md_count_1 38 rfl
theorem d_md_count_149 : decode prog_10_method_50_code 149 = .ok (.bipush 6, 2) := zD (q := (149, .bipush 6, 2)) tx_md_count_1 39 rfl
theorem d_md_count_151 : decode prog_10_method_50_code 151 = .ok (.iadd, 1) := zD (q := (151, .iadd, 1)) tx_md_count_1 40 rfl
theorem d_md_count_152 : decode prog_10_method_50_code 152 = .ok (.dup2, 1) := zD (q := (152, .dup2, 1)) tx_md_count_1 41 rfl
theorem d_md_count_153 : decode prog_10_method_50_code 153 = .ok (.iaload, 1) := zD (q := (153, .iaload, 1)) tx_md_count_1 42 rfl
theorem d_md_count_154 : decode prog_10_method_50_code 154 = .ok (.iload_n 3, 1) := zD (q := (154, .iload_n 3, 1)) tx_md_count_1 43 rfl
theorem d_md_count_155 : decode prog_10_method_50_code 155 = .ok (.iadd, 1) := zD (q := (155, .iadd, 1)) tx_md_count_1 44 rfl
theorem d_md_count_156 : decode prog_10_method_50_code 156 = .ok (.iastore, 1) := zD (q := (156, .iastore, 1)) tx_md_count_1 45 rfl
theorem d_md_count_157 : decode prog_10_method_50_code 157 = .ok (.aload_n 0, 1) := zD (q := (157, .aload_n 0, 1)) tx_md_count_1 46 rfl
theorem d_md_count_158 : decode prog_10_method_50_code 158 = .ok (.getfield 81, 3) := zD (q := (158, .getfield 81, 3)) tx_md_count_1 47 rfl
theorem d_md_count_161 : decode prog_10_method_50_code 161 = .ok (.iload 4, 2) := zD (q := (161, .iload 4, 2)) tx_md_count_1 48 rfl
theorem d_md_count_163 : decode prog_10_method_50_code 163 = .ok (.bipush 7, 2) := zD (q := (163, .bipush 7, 2)) tx_md_count_1 49 rfl
theorem d_md_count_165 : decode prog_10_method_50_code 165 = .ok (.iadd, 1) := zD (q := (165, .iadd, 1)) tx_md_count_1 50 rfl
theorem d_md_count_166 : decode prog_10_method_50_code 166 = .ok (.iconst 3, 1) := zD (q := (166, .iconst 3, 1)) tx_md_count_1 51 rfl
theorem d_md_count_167 : decode prog_10_method_50_code 167 = .ok (.aload_n 0, 1) := zD (q := (167, .aload_n 0, 1)) tx_md_count_1 52 rfl
theorem d_md_count_168 : decode prog_10_method_50_code 168 = .ok (.getfield 81, 3) := zD (q := (168, .getfield 81, 3)) tx_md_count_1 53 rfl
theorem d_md_count_171 : decode prog_10_method_50_code 171 = .ok (.iload 4, 2) := zD (q := (171, .iload 4, 2)) tx_md_count_1 54 rfl
theorem d_md_count_173 : decode prog_10_method_50_code 173 = .ok (.iconst 2, 1) := zD (q := (173, .iconst 2, 1)) tx_md_count_1 55 rfl
theorem d_md_count_174 : decode prog_10_method_50_code 174 = .ok (.iadd, 1) := zD (q := (174, .iadd, 1)) tx_md_count_1 56 rfl
theorem d_md_count_175 : decode prog_10_method_50_code 175 = .ok (.iaload, 1) := zD (q := (175, .iaload, 1)) tx_md_count_1 57 rfl
theorem d_md_count_176 : decode prog_10_method_50_code 176 = .ok (.imul, 1) := zD (q := (176, .imul, 1)) tx_md_count_1 58 rfl
theorem d_md_count_177 : decode prog_10_method_50_code 177 = .ok (.aload_n 0, 1) := zD (q := (177, .aload_n 0, 1)) tx_md_count_1 59 rfl
def T_md_count_2 : List (Nat × Instr × Nat) := [(178, .getfield 81, 3), (181, .iload 4, 2), (183, .iconst 3, 1), (184, .iadd, 1), (185, .iaload, 1), (186, .iadd, 1), (187, .iastore, 1), (188, .return_, 1)]
theorem tx_md_count_2 : zdec prog_10_method_50_code T_md_count_2 = true := by decide +kernel
theorem d_md_count_178 : decode prog_10_method_50_code 178 = .ok (.getfield 81, 3) := zD (q := (178, .getfield 81, 3)) tx_md_count_2 0 rfl
theorem d_md_count_181 : decode prog_10_method_50_code 181 = .ok (.iload 4, 2) := zD (q := (181, .iload 4, 2)) tx_md_count_2 1 rfl
theorem d_md_count_183 : decode prog_10_method_50_code 183 = .ok (.iconst 3, 1) := zD (q := (183, .iconst 3, 1)) tx_md_count_2 2 rfl
theorem d_md_count_184 : decode prog_10_method_50_code 184 = .ok (.iadd, 1) := zD (q := (184, .iadd, 1)) tx_md_count_2 3 rfl
theorem d_md_count_185 : decode prog_10_method_50_code 185 = .ok (.iaload, 1) := zD (q := (185, .iaload, 1)) tx_md_count_2 4 rfl
theorem d_md_count_186 : decode prog_10_method_50_code 186 = .ok (.iadd, 1) := zD (q := (186, .iadd, 1)) tx_md_count_2 5 rfl
theorem d_md_count_187 : decode prog_10_method_50_code 187 = .ok (.iastore, 1) := zD (q := (187, .iastore, 1)) tx_md_count_2 6 rfl
theorem d_md_count_188 : decode prog_10_method_50_code 188 = .ok (.return_, 1) := zD (q := (188, .return_, 1)) tx_md_count_2 7 rfl
def T_md_isBefore_0 : List (Nat × Instr × Nat) := [(0, .aload_n 0, 1), (1, .getfield 81, 3), (4, .bipush 8, 2), (6, .iload_n 1, 1), (7, .imul, 1), (8, .bipush 7, 2), (10, .iadd, 1), (11, .iaload, 1), (12, .aload_n 0, 1), (13, .getfield 81, 3), (16, .bipush 8, 2), (18, .iload_n 2, 1), (19, .imul, 1), (20, .bipush 7, 2), (22, .iadd, 1), (23, .iaload, 1), (24, .isub, 1), (25, .istore_n 3, 1), (26, .aload_n 0, 1), (27, .getfield 81, 3), (30, .bipush 8, 2), (32, .iload_n 1, 1), (33, .imul, 1), (34, .iconst 5, 1), (35, .iadd, 1), (36, .iaload, 1), (37, .aload_n 0, 1), (38, .getfield 81, 3), (41, .bipush 8, 2), (43, .iload_n 1, 1), (44, .imul, 1), (45, .bipush 6, 2), (47, .iadd, 1), (48, .iaload, 1), (49, .isub, 1), (50, .aload_n 0, 1), (51, .getfield 81, 3), (54, .bipush 8, 2), (56, .iload_n 2, 1), (57, .imul, 1), (58, .iconst 5, 1), (59, .iadd, 1), (60, .iaload, 1), (61, .isub, 1), (62, .aload_n 0, 1), (63, .getfield 81, 3), (66, .bipush 8, 2), (68, .iload_n 2, 1), (69, .imul, 1), (70, .bipush 6, 2), (72, .iadd, 1), (73, .iaload, 1), (74, .iadd, 1), (75, .istore 4, 2), (77, .aload_n 0, 1), (78, .getfield 81, 3), (81, .bipush 8, 2), (83, .iload_n 1, 1), (84, .imul, 1), (85, .iconst 5, 1)]
theorem tx_md_isBefore_0 : zdec prog_10_method_51_code T_md_isBefore_0 = true := by decide +kernel
theorem d_md_isBefore_0 : decode prog_10_method_51_code 0 = .ok (.aload_n 0, 1) := zD (q := (0, .aload_n 0, 1)) tx_md_isBefore_0 0 rfl
theorem d_md_isBefore_1 : decode prog_10_method_51_code 1 = .ok (.getfield 81, 3) := zD (q := (1, .getfield 81, 3)) tx_md_isBefore_0 1 rfl
theorem d_md_isBefore_4 : decode prog_10_method_51_code 4 = .ok (.bipush 8, 2) := zD (q := (4, .bipush 8, 2)) tx_md_isBefore_0 2 rfl
theorem d_md_isBefore_6 : decode prog_10_method_51_code 6 = .ok (.iload_n 1, 1) := zD (q := (6, .iload_n 1, 1)) tx_md_isBefore_0 3 rfl
theorem d_md_isBefore_7 : decode prog_10_method_51_code 7 = .ok (.imul, 1) := zD (q := (7, .imul, 1)) tx_md_isBefore_0 4 rfl
theorem d_md_isBefore_8 : decode prog_10_method_51_code 8 = .ok (.bipush 7, 2) := zD (q := (8, .bipush 7, 2)) tx_md_isBefore_0 5 rfl
theorem d_md_isBefore_10 : decode prog_10_method_51_code 10 = .ok (.iadd, 1) := zD (q := (10, .iadd, 1)) tx_md_isBefore_0 6 rfl
theorem d_md_isBefore_11 : decode prog_10_method_51_code 11 = .ok (.iaload, 1) := zD (q := (11, .iaload, 1)) tx_md_isBefore_0 7 rfl
theorem d_md_isBefore_12 : decode prog_10_method_51_code 12 = .ok (.aload_n 0, 1) := zD (q := (12, .aload_n 0, 1)) tx_md_isBefore_0 8 rfl
theorem d_md_isBefore_13 : decode prog_10_method_51_code 13 = .ok (.getfield 81, 3) := zD (q := (13, .getfield 81, 3)) tx_md_isBefore_0 9 rfl
theorem d_md_isBefore_16 : decode prog_10_method_51_code 16 = .ok (.bipush 8, 2) := zD (q := (16, .bipush 8, 2)) tx_md_isBefore_0 10 rfl
theorem d_md_isBefore_18 : decode prog_10_method_51_code 18 = .ok (.iload_n 2, 1) := zD (q := (18, .iload_n 2, 1)) tx_md_isBefore_0 11 rfl
theorem d_md_isBefore_19 : decode prog_10_method_51_code 19 = .ok (.imul, 1) := zD (q := (19, .imul, 1)) tx_md_isBefore_0 12 rfl
theorem d_md_isBefore_20 : decode prog_10_method_51_code 20 = .ok (.bipush 7, 2) := zD (q := (20, .bipush 7, 2)) tx_md_isBefore_0 13 rfl
theorem d_md_isBefore_22 : decode prog_10_method_51_code 22 = .ok (.iadd, 1) := zD (q := (22, .iadd, 1)) tx_md_isBefore_0 14 rfl
theorem d_md_isBefore_23 : decode prog_10_method_51_code 23 = .ok (.iaload, 1) := zD (q := (23, .iaload, 1)) tx_md_isBefore_0 15 rfl
theorem d_md_isBefore_24 : decode prog_10_method_51_code 24 = .ok (.isub, 1) := zD (q := (24, .isub, 1)) tx_md_isBefore_0 16 rfl
theorem d_md_isBefore_25 : decode prog_10_method_51_code 25 = .ok (.istore_n 3, 1) := zD (q := (25, .istore_n 3, 1)) tx_md_isBefore_0 17 rfl
theorem d_md_isBefore_26 : decode prog_10_method_51_code 26 = .ok (.aload_n 0, 1) := zD (q := (26, .aload_n 0, 1)) tx_md_isBefore_0 18 rfl
theorem d_md_isBefore_27 : decode prog_10_method_51_code 27 = .ok (.getfield 81, 3) := zD (q := (27, .getfield 81, 3)) tx_md_isBefore_0 19 rfl
theorem d_md_isBefore_30 : decode prog_10_method_51_code 30 = .ok (.bipush 8, 2) := zD (q := (30, .bipush 8, 2)) tx_md_isBefore_0 20 rfl
theorem d_md_isBefore_32 : decode prog_10_method_51_code 32 = .ok (.iload_n 1, 1) := zD (q := (32, .iload_n 1, 1)) tx_md_isBefore_0 21 rfl
theorem d_md_isBefore_33 : decode prog_10_method_51_code 33 = .ok (.imul, 1) := zD (q := (33, .imul, 1)) tx_md_isBefore_0 22 rfl
theorem d_md_isBefore_34 : decode prog_10_method_51_code 34 = .ok (.iconst 5, 1) := zD (q := (34, .iconst 5, 1)) tx_md_isBefore_0 23 rfl
theorem d_md_isBefore_35 : decode prog_10_method_51_code 35 = .ok (.iadd, 1) := zD (q := (35, .iadd, 1)) tx_md_isBefore_0 24 rfl
theorem d_md_isBefore_36 : decode prog_10_method_51_code 36 = .ok (.iaload, 1) := zD (q := (36, .iaload, 1)) tx_md_isBefore_0 25 rfl
theorem d_md_isBefore_37 : decode prog_10_method_51_code 37 = .ok (.aload_n 0, 1) := zD (q := (37, .aload_n 0, 1)) tx_md_isBefore_0 26 rfl
theorem d_md_isBefore_38 : decode prog_10_method_51_code 38 = .ok (.getfield 81, 3) := zD (q := (38, .getfield 81, 3)) tx_md_isBefore_0 27 rfl
theorem d_md_isBefore_41 : decode prog_10_method_51_code 41 = .ok (.bipush 8, 2) := zD (q := (41, .bipush 8, 2)) tx_md_isBefore_0 28 rfl
theorem d_md_isBefore_43 : decode prog_10_method_51_code 43 = .ok (.iload_n 1, 1) := zD (q := (43, .iload_n 1, 1)) tx_md_isBefore_0 29 rfl
theorem d_md_isBefore_44 : decode prog_10_method_51_code 44 = .ok (.imul, 1) := zD (q := (44, .imul, 1)) tx_md_isBefore_0 30 rfl
theorem d_md_isBefore_45 : decode prog_10_method_51_code 45 = .ok (.bipush 6, 2) := zD (q := (45, .bipush 6, 2)) tx_md_isBefore_0 31 rfl
theorem d_md_isBefore_47 : decode prog_10_method_51_code 47 = .ok (.iadd, 1) := zD (q := (47, .iadd, 1)) tx_md_isBefore_0 32 rfl
theorem d_md_isBefore_48 : decode prog_10_method_51_code 48 = .ok (.iaload, 1) := zD (q := (48, .iaload, 1)) tx_md_isBefore_0 33 rfl
theorem d_md_isBefore_49 : decode prog_10_method_51_code 49 = .ok (.isub, 1) := zD (q := (49, .isub, 1)) tx_md_isBefore_0 34 rfl
theorem d_md_isBefore_50 : decode prog_10_method_51_code 50 = .ok (.aload_n 0, 1) := zD (q := (50, .aload_n 0, 1)) tx_md_isBefore_0 35 rfl
theorem d_md_isBefore_51 : decode prog_10_method_51_code 51 = .ok (.getfield 81, 3) := zD (q := (51, .getfield 81, 3)) tx_md_isBefore_0 36 rfl
theorem d_md_isBefore_54 : decode prog_10_method_51_code 54 = .ok (.bipush 8, 2) := zD (q := (54, .bipush 8, 2)) tx_md_isBefore_0 37 rfl
theorem d_md_isBefore_56 : decode prog_10_method_51_code 56 = .ok (.iload_n 2, 1) := zD (q := (56, .iload_n 2, 1)) tx_md_isBefore_0 38 rfl
theorem d_md_isBefore_57 : decode prog_10_method_51_code 57 = .ok (.imul, 1) := zD (q := (57, .imul, 1)) tx_md_isBefore_0 39 rfl
theorem d_md_isBefore_58 : decode prog_10_method_51_code 58 = .ok (.iconst 5, 1) := zD (q := (58, .iconst 5, 1)) tx_md_isBefore_0 40 rfl
theorem d_md_isBefore_59 : decode prog_10_method_51_code 59 = .ok (.iadd, 1) := zD (q := (59, .iadd, 1)) tx_md_isBefore_0 41 rfl
theorem d_md_isBefore_60 : decode prog_10_method_51_code 60 = .ok (.iaload, 1) := zD (q := (60, .iaload, 1)) tx_md_isBefore_0 42 rfl
theorem d_md_isBefore_61 : decode prog_10_method_51_code 61 = .ok (.isub, 1) := zD (q := (61, .isub, 1)) tx_md_isBefore_0 43 rfl
theorem d_md_isBefore_62 : decode prog_10_method_51_code 62 = .ok (.aload_n 0, 1) := zD (q := (62, .aload_n 0, 1)) tx_md_isBefore_0 44 rfl
theorem d_md_isBefore_63 : decode prog_10_method_51_code 63 = .ok (.getfield 81, 3) := zD (q := (63, .getfield 81, 3)) tx_md_isBefore_0 45 rfl
theorem d_md_isBefore_66 : decode prog_10_method_51_code 66 = .ok (.bipush 8, 2) := zD (q := (66, .bipush 8, 2)) tx_md_isBefore_0 46 rfl
theorem d_md_isBefore_68 : decode prog_10_method_51_code 68 = .ok (.iload_n 2, 1) := zD (q := (68, .iload_n 2, 1)) tx_md_isBefore_0 47 rfl
theorem d_md_isBefore_69 : decode prog_10_method_51_code 69 = .ok (.imul, 1) := zD (q := (69, .imul, 1)) tx_md_isBefore_0 48 rfl
theorem d_md_isBefore_70 : decode prog_10_method_51_code 70 = .ok (.bipush 6, 2) := zD (q := (70, .bipush 6, 2)) tx_md_isBefore_0 49 rfl
theorem d_md_isBefore_72 : decode prog_10_method_51_code 72 = .ok (.iadd, 1) := zD (q := (72, .iadd, 1)) tx_md_isBefore_0 50 rfl
theorem d_md_isBefore_73 : decode prog_10_method_51_code 73 = .ok (.iaload, 1) := zD (q := (73, .iaload, 1)) tx_md_isBefore_0 51 rfl
theorem d_md_isBefore_74 : decode prog_10_method_51_code 74 = .ok (.iadd, 1) := zD (q := (74, .iadd, 1)) tx_md_isBefore_0 52 rfl
theorem d_md_isBefore_75 : decode prog_10_method_51_code 75 = .ok (.istore 4, 2) := zD (q := (75, .istore 4, 2)) tx_md_isBefore_0 53 rfl
theorem d_md_isBefore_77 : decode prog_10_method_51_code 77 = .ok (.aload_n 0, 1) := zD (q := (77, .aload_n 0, 1)) tx_md_isBefore_0 54 rfl
theorem d_md_isBefore_78 : decode prog_10_method_51_code 78 = .ok (.getfield 81, 3) := zD (q := (78, .getfield 81, 3)) tx_md_isBefore_0 55 rfl
theorem d_md_isBefore_81 : decode prog_10_method_51_code 81 = .ok (.bipush 8, 2) := zD (q := (81, .bipush 8, 2)) tx_md_isBefore_0 56 rfl
theorem d_md_isBefore_83 : decode prog_10_method_51_code 83 = .ok (.iload_n 1, 1) := zD (q := (83, .iload_n 1, 1)) tx_md_isBefore_0 57 rfl
theorem d_md_isBefore_84 : decode prog_10_method_51_code 84 = .ok (.imul, 1) := zD (q := (84, .imul, 1)) tx_md_isBefore_0 58 rfl
theorem d_md_isBefore_85 : decode prog_10_method_51_code 85 = .ok (.iconst 5, 1) := zD (q := (85, .iconst 5, 1)) tx_md_isBefore_0 59 rfl
def T_md_isBefore_1 : List (Nat × Instr × Nat) := [(86, .iadd, 1), (87, .iaload, 1), (88, .aload_n 0, 1), (89, .getfield 81, 3), (92, .bipush 8, 2), (94, .iload_n 2, 1), (95, .imul, 1), (96, .iconst 5, 1), (97, .iadd, 1), (98, .iaload, 1), (99, .isub, 1), (100, .istore 5, 2), (102, .iload_n 3, 1), (103, .ifCond .eq 15, 3), (106, .iload_n 3, 1), (107, .ifCond .le 7, 3), (110, .iconst 1, 1), (111, .goto 53, 3), (114, .iconst 0, 1), (115, .goto 49, 3), (118, .iload 4, 2), (120, .ifCond .eq 16, 3), (123, .iload 4, 2), (125, .ifCond .le 7, 3), (128, .iconst 1, 1), (129, .goto 35, 3), (132, .iconst 0, 1), (133, .goto 31, 3), (136, .iload 5, 2), (138, .ifCond .eq 16, 3), (141, .iload 5, 2), (143, .ifCond .le 7, 3), (146, .iconst 1, 1), (147, .goto 17, 3), (150, .iconst 0, 1), (151, .goto 13, 3), (154, .iload_n 1, 1), (155, .iload_n 2, 1), (156, .if_icmp .ge 7, 3), (159, .iconst 1, 1), (160, .goto 4, 3), (163, .iconst 0, 1), (164, .ireturn, 1)]
theorem tx_md_isBefore_1 : zdec prog_10_method_51_code T_md_isBefore_1 = true := by decide +kernel
theorem d_md_isBefore_86 : decode prog_10_method_51_code 86 = .ok (.iadd, 1) := zD (q := (86, .iadd, 1)) tx_md_isBefore_1 0 rfl
theorem d_md_isBefore_87 : decode prog_10_method_51_code 87 = .ok (.iaload, 1) := zD (q := (87, .iaload, 1)) tx_md_isBefore_1 1 rfl
theorem d_md_isBefore_88 : decode prog_10_method_51_code 88 = .ok (.aload_n 0, 1) := zD (q := (88, .aload_n 0, 1)) tx_md_isBefore_1 2 rfl
theorem d_md_isBefore_89 : decode prog_10_method_51_code 89 = .ok (.getfield 81, 3) := zD (q := (89, .getfield 81, 3)) tx_md_isBefore_1 3 rfl
theorem d_md_isBefore_92 : decode prog_10_method_51_code 92 = .ok (.bipush 8, 2) := zD (q := (92, .bipush 8, 2)) tx_md_isBefore_1 4 rfl
theorem d_md_isBefore_94 : decode prog_10_method_51_code 94 = .ok (.iload_n 2, 1) := zD (q := (94, .iload_n 2, 1)) tx_md_isBefore_1 5 rfl
theorem d_md_isBefore_95 : decode prog_10_method_51_code 95 = .ok (.imul, 1) := zD (q := (95, .imul, 1)) tx_md_isBefore_1 6 rfl
theorem d_md_isBefore_96 : decode prog_10_method_51_code 96 = .ok (.iconst 5, 1) := zD (q := (96, .iconst 5, 1)) tx_md_isBefore_1 7 rfl
theorem d_md_isBefore_97 : decode prog_10_method_51_code 97 = .ok (.iadd, 1) := zD (q := (97, .iadd, 1)) tx_md_isBefore_1 8 rfl
theorem d_md_isBefore_98 : decode prog_10_method_51_code 98 = .ok (.iaload, 1) := zD (q := (98, .iaload, 1)) tx_md_isBefore_1 9 rfl
theorem d_md_isBefore_99 : decode prog_10_method_51_code 99 = .ok (.isub, 1) := zD (q := (99, .isub, 1)) tx_md_isBefore_1 10 rfl
theorem d_md_isBefore_100 : decode prog_10_method_51_code 100 = .ok (.istore 5, 2) := zD (q := (100, .istore 5, 2)) tx_md_isBefore_1 11 rfl
theorem d_md_isBefore_102 : decode prog_10_method_51_code 102 = .ok (.iload_n 3, 1) := zD (q := (102, .iload_n 3, 1)) tx_md_isBefore_1 12 rfl
theorem d_md_isBefore_103 : decode prog_10_method_51_code 103 = .ok (.ifCond .eq 15, 3) := zD (q := (103, .ifCond .eq 15, 3)) tx_md_isBefore_1 13 rfl
theorem d_md_isBefore_106 : decode prog_10_method_51_code 106 = .ok (.iload_n 3, 1) := zD (q := (106, .iload_n 3, 1)) tx_md_isBefore_1 14 rfl
theorem d_md_isBefore_107 : decode prog_10_method_51_code 107 = .ok (.ifCond .le 7, 3) := zD (q := (107, .ifCond .le 7, 3)) tx_md_isBefore_1 15 rfl
theorem d_md_isBefore_110 : decode prog_10_method_51_code 110 = .ok (.iconst 1, 1) := zD (q := (110, .iconst 1, 1)) tx_md_isBefore_1 16 rfl
theorem d_md_isBefore_111 : decode prog_10_method_51_code 111 = .ok (.goto 53, 3) := zD (q := (111, .goto 53, 3)) tx_md_isBefore_1 17 rfl
theorem d_md_isBefore_114 : decode prog_10_method_51_code 114 = .ok (.iconst 0, 1) := zD (q := (114, .iconst 0, 1)) tx_md_isBefore_1 18 rfl
theorem d_md_isBefore_115 : decode prog_10_method_51_code 115 = .ok (.goto 49, 3) := zD (q := (115, .goto 49, 3)) tx_md_isBefore_1 19 rfl
theorem d_md_isBefore_118 : decode prog_10_method_51_code 118 = .ok (.iload 4, 2) := zD (q := (118, .iload 4, 2)) tx_md_isBefore_1 20 rfl
theorem d_md_isBefore_120 : decode prog_10_method_51_code 120 = .ok (.ifCond .eq 16, 3) := zD (q := (120, .ifCond .eq 16, 3)) tx_md_isBefore_1 21 rfl
theorem d_md_isBefore_123 : decode prog_10_method_51_code 123 = .ok (.iload 4, 2) := zD (q := (123, .iload 4, 2)) tx_md_isBefore_1 22 rfl
theorem d_md_isBefore_125 : decode prog_10_method_51_code 125 = .ok (.ifCond .le 7, 3) := zD (q := (125, .ifCond .le 7, 3)) tx_md_isBefore_1 23 rfl
theorem d_md_isBefore_128 : decode prog_10_method_51_code 128 = .ok (.iconst 1, 1) := zD (q := (128, .iconst 1, 1)) tx_md_isBefore_1 24 rfl
theorem d_md_isBefore_129 : decode prog_10_method_51_code 129 = .ok (.goto 35, 3) := zD (q := (129, .goto 35, 3)) tx_md_isBefore_1 25 rfl
theorem d_md_isBefore_132 : decode prog_10_method_51_code 132 = .ok (.iconst 0, 1) := zD (q := (132, .iconst 0, 1)) tx_md_isBefore_1 26 rfl
theorem d_md_isBefore_133 : decode prog_10_method_51_code 133 = .ok (.goto 31, 3) := zD (q := (133, .goto 31, 3)) tx_md_isBefore_1 27 rfl
theorem d_md_isBefore_136 : decode prog_10_method_51_code 136 = .ok (.iload 5, 2) := zD (q := (136, .iload 5, 2)) tx_md_isBefore_1 28 rfl
theorem d_md_isBefore_138 : decode prog_10_method_51_code 138 = .ok (.ifCond .eq 16, 3) := zD (q := (138, .ifCond .eq 16, 3)) tx_md_isBefore_1 29 rfl
theorem d_md_isBefore_141 : decode prog_10_method_51_code 141 = .ok (.iload 5, 2) := zD (q := (141, .iload 5, 2)) tx_md_isBefore_1 30 rfl
theorem d_md_isBefore_143 : decode prog_10_method_51_code 143 = .ok (.ifCond .le 7, 3) := zD (q := (143, .ifCond .le 7, 3)) tx_md_isBefore_1 31 rfl
theorem d_md_isBefore_146 : decode prog_10_method_51_code 146 = .ok (.iconst 1, 1) := zD (q := (146, .iconst 1, 1)) tx_md_isBefore_1 32 rfl
theorem d_md_isBefore_147 : decode prog_10_method_51_code 147 = .ok (.goto 17, 3) := zD (q := (147, .goto 17, 3)) tx_md_isBefore_1 33 rfl
theorem d_md_isBefore_150 : decode prog_10_method_51_code 150 = .ok (.iconst 0, 1) := zD (q := (150, .iconst 0, 1)) tx_md_isBefore_1 34 rfl
theorem d_md_isBefore_151 : decode prog_10_method_51_code 151 = .ok (.goto 13, 3) := zD (q := (151, .goto 13, 3)) tx_md_isBefore_1 35 rfl
theorem d_md_isBefore_154 : decode prog_10_method_51_code 154 = .ok (.iload_n 1, 1) := zD (q := (154, .iload_n 1, 1)) tx_md_isBefore_1 36 rfl
theorem d_md_isBefore_155 : decode prog_10_method_51_code 155 = .ok (.iload_n 2, 1) := zD (q := (155, .iload_n 2, 1)) tx_md_isBefore_1 37 rfl
theorem d_md_isBefore_156 : decode prog_10_method_51_code 156 = .ok (.if_icmp .ge 7, 3) := zD (q := (156, .if_icmp .ge 7, 3)) tx_md_isBefore_1 38 rfl
theorem d_md_isBefore_159 : decode prog_10_method_51_code 159 = .ok (.iconst 1, 1) := zD (q := (159, .iconst 1, 1)) tx_md_isBefore_1 39 rfl
theorem d_md_isBefore_160 : decode prog_10_method_51_code 160 = .ok (.goto 4, 3) := zD (q := (160, .goto 4, 3)) tx_md_isBefore_1 40 rfl
theorem d_md_isBefore_163 : decode prog_10_method_51_code 163 = .ok (.iconst 0, 1) := zD (q := (163, .iconst 0, 1)) tx_md_isBefore_1 41 rfl
theorem d_md_isBefore_164 : decode prog_10_method_51_code 164 = .ok (.ireturn, 1) := zD (q := (164, .ireturn, 1)) tx_md_isBefore_1 42 rfl
def T_md_washOut_0 : List (Nat × Instr × Nat) := [(0, .aload_n 0, 1), (1, .iload_n 1, 1), (2, .invokevirtual 182, 3), (5, .istore_n 2, 1), (6, .aload_n 0, 1), (7, .iload_n 2, 1), (8, .ifCond .ne 7, 3), (11, .iconst 1, 1), (12, .goto 4, 3), (15, .iconst 0, 1), (16, .iload_n 2, 1), (17, .ifCond .eq 24, 3), (20, .aload_n 0, 1), (21, .getfield 54, 3), (24, .iload_n 1, 1), (25, .baload, 1), (26, .ifCond .ne 11, 3), (29, .aload_n 0, 1), (30, .invokevirtual 211, 3), (33, .iconst 4, 1), (34, .if_icmp .ne 7, 3), (37, .iconst 1, 1), (38, .goto 4, 3), (41, .iconst 0, 1), (42, .iconst 0, 1), (43, .iconst 0, 1), (44, .invokevirtual 100, 3), (47, .ifCond .eq 5, 3), (50, .iconst 0, 1), (51, .ireturn, 1), (52, .aload_n 0, 1), (53, .getfield 54, 3), (56, .iload_n 1, 1), (57, .iconst 1, 1), (58, .bastore, 1), (59, .iconst 0, 1), (60, .istore_n 3, 1), (61, .iconst 0, 1), (62, .istore 4, 2), (64, .iload 4, 2), (66, .aload_n 0, 1), (67, .getfield 7, 3), (70, .if_icmp .ge 50, 3), (73, .bipush 20, 2), (75, .iload_n 1, 1), (76, .imul, 1), (77, .iload 4, 2), (79, .iadd, 1), (80, .istore 5, 2), (82, .aload_n 0, 1), (83, .iload 4, 2), (85, .iload_n 1, 1), (86, .invokevirtual 185, 3), (89, .iconst 1, 1), (90, .if_icmp .ne 24, 3), (93, .aload_n 0, 1), (94, .getfield 39, 3), (97, .iload 5, 2), (99, .baload, 1), (100, .ifCond .ne 14, 3)]
theorem tx_md_washOut_0 : zdec prog_10_method_54_code T_md_washOut_0 = true := by decide +kernel
theorem d_md_washOut_0 : decode prog_10_method_54_code 0 = .ok (.aload_n 0, 1) := zD (q := (0, .aload_n 0, 1)) tx_md_washOut_0 0 rfl
theorem d_md_washOut_1 : decode prog_10_method_54_code 1 = .ok (.iload_n 1, 1) := zD (q := (1, .iload_n 1, 1)) tx_md_washOut_0 1 rfl
theorem d_md_washOut_2 : decode prog_10_method_54_code 2 = .ok (.invokevirtual 182, 3) := zD (q := (2, .invokevirtual 182, 3)) tx_md_washOut_0 2 rfl
theorem d_md_washOut_5 : decode prog_10_method_54_code 5 = .ok (.istore_n 2, 1) := zD (q := (5, .istore_n 2, 1)) tx_md_washOut_0 3 rfl
theorem d_md_washOut_6 : decode prog_10_method_54_code 6 = .ok (.aload_n 0, 1) := zD (q := (6, .aload_n 0, 1)) tx_md_washOut_0 4 rfl
theorem d_md_washOut_7 : decode prog_10_method_54_code 7 = .ok (.iload_n 2, 1) := zD (q := (7, .iload_n 2, 1)) tx_md_washOut_0 5 rfl
theorem d_md_washOut_8 : decode prog_10_method_54_code 8 = .ok (.ifCond .ne 7, 3) := zD (q := (8, .ifCond .ne 7, 3)) tx_md_washOut_0 6 rfl
theorem d_md_washOut_11 : decode prog_10_method_54_code 11 = .ok (.iconst 1, 1) := zD (q := (11, .iconst 1, 1)) tx_md_washOut_0 7 rfl
theorem d_md_washOut_12 : decode prog_10_method_54_code 12 = .ok (.goto 4, 3) := zD (q := (12, .goto 4, 3)) tx_md_washOut_0 8 rfl
theorem d_md_washOut_15 : decode prog_10_method_54_code 15 = .ok (.iconst 0, 1) := zD (q := (15, .iconst 0, 1)) tx_md_washOut_0 9 rfl
theorem d_md_washOut_16 : decode prog_10_method_54_code 16 = .ok (.iload_n 2, 1) := zD (q := (16, .iload_n 2, 1)) tx_md_washOut_0 10 rfl
theorem d_md_washOut_17 : decode prog_10_method_54_code 17 = .ok (.ifCond .eq 24, 3) := zD (q := (17, .ifCond .eq 24, 3)) tx_md_washOut_0 11 rfl
theorem d_md_washOut_20 : decode prog_10_method_54_code 20 = .ok (.aload_n 0, 1) := zD (q := (20, .aload_n 0, 1)) tx_md_washOut_0 12 rfl
theorem d_md_washOut_21 : decode prog_10_method_54_code 21 = .ok (.getfield 54, 3) := zD (q := (21, .getfield 54, 3)) tx_md_washOut_0 13 rfl
theorem d_md_washOut_24 : decode prog_10_method_54_code 24 = .ok (.iload_n 1, 1) := zD (q := (24, .iload_n 1, 1)) tx_md_washOut_0 14 rfl
theorem d_md_washOut_25 : decode prog_10_method_54_code 25 = .ok (.baload, 1) := zD (q := (25, .baload, 1)) tx_md_washOut_0 15 rfl
theorem d_md_washOut_26 : decode prog_10_method_54_code 26 = .ok (.ifCond .ne 11, 3) := zD (q := (26, .ifCond .ne 11, 3)) tx_md_washOut_0 16 rfl
theorem d_md_washOut_29 : decode prog_10_method_54_code 29 = .ok (.aload_n 0, 1) := zD (q := (29, .aload_n 0, 1)) tx_md_washOut_0 17 rfl
theorem d_md_washOut_30 : decode prog_10_method_54_code 30 = .ok (.invokevirtual 211, 3) := zD (q := (30, .invokevirtual 211, 3)) tx_md_washOut_0 18 rfl
theorem d_md_washOut_33 : decode prog_10_method_54_code 33 = .ok (.iconst 4, 1) := zD (q := (33, .iconst 4, 1)) tx_md_washOut_0 19 rfl
theorem d_md_washOut_34 : decode prog_10_method_54_code 34 = .ok (.if_icmp .ne 7, 3) := zD (q := (34, .if_icmp .ne 7, 3)) tx_md_washOut_0 20 rfl
theorem d_md_washOut_37 : decode prog_10_method_54_code 37 = .ok (.iconst 1, 1) := zD (q := (37, .iconst 1, 1)) tx_md_washOut_0 21 rfl
theorem d_md_washOut_38 : decode prog_10_method_54_code 38 = .ok (.goto 4, 3) := zD (q := (38, .goto 4, 3)) tx_md_washOut_0 22 rfl
theorem d_md_washOut_41 : decode prog_10_method_54_code 41 = .ok (.iconst 0, 1) := zD (q := (41, .iconst 0, 1)) tx_md_washOut_0 23 rfl
theorem d_md_washOut_42 : decode prog_10_method_54_code 42 = .ok (.iconst 0, 1) := zD (q := (42, .iconst 0, 1)) tx_md_washOut_0 24 rfl
theorem d_md_washOut_43 : decode prog_10_method_54_code 43 = .ok (.iconst 0, 1) := zD (q := (43, .iconst 0, 1)) tx_md_washOut_0 25 rfl
theorem d_md_washOut_44 : decode prog_10_method_54_code 44 = .ok (.invokevirtual 100, 3) := zD (q := (44, .invokevirtual 100, 3)) tx_md_washOut_0 26 rfl
theorem d_md_washOut_47 : decode prog_10_method_54_code 47 = .ok (.ifCond .eq 5, 3) := zD (q := (47, .ifCond .eq 5, 3)) tx_md_washOut_0 27 rfl
theorem d_md_washOut_50 : decode prog_10_method_54_code 50 = .ok (.iconst 0, 1) := zD (q := (50, .iconst 0, 1)) tx_md_washOut_0 28 rfl
theorem d_md_washOut_51 : decode prog_10_method_54_code 51 = .ok (.ireturn, 1) := zD (q := (51, .ireturn, 1)) tx_md_washOut_0 29 rfl
theorem d_md_washOut_52 : decode prog_10_method_54_code 52 = .ok (.aload_n 0, 1) := zD (q := (52, .aload_n 0, 1)) tx_md_washOut_0 30 rfl
theorem d_md_washOut_53 : decode prog_10_method_54_code 53 = .ok (.getfield 54, 3) := zD (q := (53, .getfield 54, 3)) tx_md_washOut_0 31 rfl
theorem d_md_washOut_56 : decode prog_10_method_54_code 56 = .ok (.iload_n 1, 1) := zD (q := (56, .iload_n 1, 1)) tx_md_washOut_0 32 rfl
theorem d_md_washOut_57 : decode prog_10_method_54_code 57 = .ok (.iconst 1, 1) := zD (q := (57, .iconst 1, 1)) tx_md_washOut_0 33 rfl
theorem d_md_washOut_58 : decode prog_10_method_54_code 58 = .ok (.bastore, 1) := zD (q := (58, .bastore, 1)) tx_md_washOut_0 34 rfl
theorem d_md_washOut_59 : decode prog_10_method_54_code 59 = .ok (.iconst 0, 1) := zD (q := (59, .iconst 0, 1)) tx_md_washOut_0 35 rfl
theorem d_md_washOut_60 : decode prog_10_method_54_code 60 = .ok (.istore_n 3, 1) := zD (q := (60, .istore_n 3, 1)) tx_md_washOut_0 36 rfl
theorem d_md_washOut_61 : decode prog_10_method_54_code 61 = .ok (.iconst 0, 1) := zD (q := (61, .iconst 0, 1)) tx_md_washOut_0 37 rfl
theorem d_md_washOut_62 : decode prog_10_method_54_code 62 = .ok (.istore 4, 2) := zD (q := (62, .istore 4, 2)) tx_md_washOut_0 38 rfl
theorem d_md_washOut_64 : decode prog_10_method_54_code 64 = .ok (.iload 4, 2) := zD (q := (64, .iload 4, 2)) tx_md_washOut_0 39 rfl
theorem d_md_washOut_66 : decode prog_10_method_54_code 66 = .ok (.aload_n 0, 1) := zD (q := (66, .aload_n 0, 1)) tx_md_washOut_0 40 rfl
theorem d_md_washOut_67 : decode prog_10_method_54_code 67 = .ok (.getfield 7, 3) := zD (q := (67, .getfield 7, 3)) tx_md_washOut_0 41 rfl
theorem d_md_washOut_70 : decode prog_10_method_54_code 70 = .ok (.if_icmp .ge 50, 3) := zD (q := (70, .if_icmp .ge 50, 3)) tx_md_washOut_0 42 rfl
theorem d_md_washOut_73 : decode prog_10_method_54_code 73 = .ok (.bipush 20, 2) := zD (q := (73, .bipush 20, 2)) tx_md_washOut_0 43 rfl
theorem d_md_washOut_75 : decode prog_10_method_54_code 75 = .ok (.iload_n 1, 1) := zD (q := (75, .iload_n 1, 1)) tx_md_washOut_0 44 rfl
theorem d_md_washOut_76 : decode prog_10_method_54_code 76 = .ok (.imul, 1) := zD (q := (76, .imul, 1)) tx_md_washOut_0 45 rfl
theorem d_md_washOut_77 : decode prog_10_method_54_code 77 = .ok (.iload 4, 2) := zD (q := (77, .iload 4, 2)) tx_md_washOut_0 46 rfl
theorem d_md_washOut_79 : decode prog_10_method_54_code 79 = .ok (.iadd, 1) := zD (q := (79, .iadd, 1)) tx_md_washOut_0 47 rfl
theorem d_md_washOut_80 : decode prog_10_method_54_code 80 = .ok (.istore 5, 2) := zD (q := (80, .istore 5, 2)) tx_md_washOut_0 48 rfl
theorem d_md_washOut_82 : decode prog_10_method_54_code 82 = .ok (.aload_n 0, 1) := zD (q := (82, .aload_n 0, 1)) tx_md_washOut_0 49 rfl
theorem d_md_washOut_83 : decode prog_10_method_54_code 83 = .ok (.iload 4, 2) := zD (q := (83, .iload 4, 2)) tx_md_washOut_0 50 rfl
theorem d_md_washOut_85 : decode prog_10_method_54_code 85 = .ok (.iload_n 1, 1) := zD (q := (85, .iload_n 1, 1)) tx_md_washOut_0 51 rfl
theorem d_md_washOut_86 : decode prog_10_method_54_code 86 = .ok (.invokevirtual 185, 3) := zD (q := (86, .invokevirtual 185, 3)) tx_md_washOut_0 52 rfl
theorem d_md_washOut_89 : decode prog_10_method_54_code 89 = .ok (.iconst 1, 1) := zD (q := (89, .iconst 1, 1)) tx_md_washOut_0 53 rfl
theorem d_md_washOut_90 : decode prog_10_method_54_code 90 = .ok (.if_icmp .ne 24, 3) := zD (q := (90, .if_icmp .ne 24, 3)) tx_md_washOut_0 54 rfl
theorem d_md_washOut_93 : decode prog_10_method_54_code 93 = .ok (.aload_n 0, 1) := zD (q := (93, .aload_n 0, 1)) tx_md_washOut_0 55 rfl
theorem d_md_washOut_94 : decode prog_10_method_54_code 94 = .ok (.getfield 39, 3) := zD (q := (94, .getfield 39, 3)) tx_md_washOut_0 56 rfl
theorem d_md_washOut_97 : decode prog_10_method_54_code 97 = .ok (.iload 5, 2) := zD (q := (97, .iload 5, 2)) tx_md_washOut_0 57 rfl
theorem d_md_washOut_99 : decode prog_10_method_54_code 99 = .ok (.baload, 1) := zD (q := (99, .baload, 1)) tx_md_washOut_0 58 rfl
theorem d_md_washOut_100 : decode prog_10_method_54_code 100 = .ok (.ifCond .ne 14, 3) := zD (q := (100, .ifCond .ne 14, 3)) tx_md_washOut_0 59 rfl
def T_md_washOut_1 : List (Nat × Instr × Nat) := [(103, .aload_n 0, 1), (104, .getfield 48, 3), (107, .iload 5, 2), (109, .iconst 1, 1), (110, .bastore, 1), (111, .iinc 3 1, 3), (114, .iinc 4 1, 3), (117, .goto (-53), 3), (120, .iload_n 3, 1), (121, .ireturn, 1)]
theorem tx_md_washOut_1 : zdec prog_10_method_54_code T_md_washOut_1 = true := by decide +kernel
theorem d_md_washOut_103 : decode prog_10_method_54_code 103 = .ok (.aload_n 0, 1) := zD (q := (103, .aload_n 0, 1)) tx_md_washOut_1 0 rfl
theorem d_md_washOut_104 : decode prog_10_method_54_code 104 = .ok (.getfield 48, 3) := zD (q := (104, .getfield 48, 3)) tx_md_washOut_1 1 rfl
theorem d_md_washOut_107 : decode prog_10_method_54_code 107 = .ok (.iload 5, 2) := zD (q := (107, .iload 5, 2)) tx_md_washOut_1 2 rfl
theorem d_md_washOut_109 : decode prog_10_method_54_code 109 = .ok (.iconst 1, 1) := zD (q := (109, .iconst 1, 1)) tx_md_washOut_1 3 rfl
theorem d_md_washOut_110 : decode prog_10_method_54_code 110 = .ok (.bastore, 1) := zD (q := (110, .bastore, 1)) tx_md_washOut_1 4 rfl
theorem d_md_washOut_111 : decode prog_10_method_54_code 111 = .ok (.iinc 3 1, 3) := zD (q := (111, .iinc 3 1, 3)) tx_md_washOut_1 5 rfl
theorem d_md_washOut_114 : decode prog_10_method_54_code 114 = .ok (.iinc 4 1, 3) := zD (q := (114, .iinc 4 1, 3)) tx_md_washOut_1 6 rfl
theorem d_md_washOut_117 : decode prog_10_method_54_code 117 = .ok (.goto (-53), 3) := zD (q := (117, .goto (-53), 3)) tx_md_washOut_1 7 rfl
theorem d_md_washOut_120 : decode prog_10_method_54_code 120 = .ok (.iload_n 3, 1) := zD (q := (120, .iload_n 3, 1)) tx_md_washOut_1 8 rfl
theorem d_md_washOut_121 : decode prog_10_method_54_code 121 = .ok (.ireturn, 1) := zD (q := (121, .ireturn, 1)) tx_md_washOut_1 9 rfl
def T_md_reserve_0 : List (Nat × Instr × Nat) := [(0, .iconst 0, 1), (1, .istore_n 2, 1), (2, .iconst 0, 1), (3, .istore_n 3, 1), (4, .iload_n 3, 1), (5, .aload_n 0, 1), (6, .getfield 97, 3), (9, .if_icmp .ge 29, 3), (12, .iload_n 2, 1), (13, .ifCond .ne 13, 3), (16, .aload_n 0, 1), (17, .getfield 57, 3), (20, .iload_n 3, 1), (21, .iaload, 1), (22, .iload_n 1, 1), (23, .if_icmp .ne 7, 3), (26, .iconst 1, 1), (27, .goto 4, 3), (30, .iconst 0, 1), (31, .istore_n 2, 1), (32, .iinc 3 1, 3), (35, .goto (-31), 3), (38, .aload_n 0, 1), (39, .iload_n 1, 1), (40, .iconst 0, 1), (41, .bipush 99, 2), (43, .invokestatic 90, 3), (46, .ifCond .ne 7, 3), (49, .iconst 1, 1), (50, .goto 4, 3), (53, .iconst 0, 1), (54, .iload_n 2, 1), (55, .ifCond .ne 12, 3), (58, .aload_n 0, 1), (59, .getfield 97, 3), (62, .bipush 6, 2), (64, .if_icmp .ne 7, 3), (67, .iconst 1, 1), (68, .goto 4, 3), (71, .iconst 0, 1), (72, .iconst 0, 1), (73, .iconst 0, 1), (74, .invokevirtual 100, 3), (77, .ifCond .eq 5, 3), (80, .iconst 0, 1), (81, .ireturn, 1), (82, .aload_n 0, 1), (83, .getfield 97, 3), (86, .istore_n 3, 1), (87, .iload_n 3, 1), (88, .ifCond .le 35, 3), (91, .aload_n 0, 1), (92, .getfield 57, 3), (95, .iload_n 3, 1), (96, .iconst 1, 1), (97, .isub, 1), (98, .iaload, 1), (99, .iload_n 1, 1), (100, .if_icmp .le 23, 3), (103, .aload_n 0, 1)]
theorem tx_md_reserve_0 : zdec prog_10_method_55_code T_md_reserve_0 = true := by decide +kernel
theorem d_md_reserve_0 : decode prog_10_method_55_code 0 = .ok (.iconst 0, 1) := zD (q := (0, .iconst 0, 1)) tx_md_reserve_0 0 rfl
theorem d_md_reserve_1 : decode prog_10_method_55_code 1 = .ok (.istore_n 2, 1) := zD (q := (1, .istore_n 2, 1)) tx_md_reserve_0 1 rfl
theorem d_md_reserve_2 : decode prog_10_method_55_code 2 = .ok (.iconst 0, 1) := zD (q := (2, .iconst 0, 1)) tx_md_reserve_0 2 rfl
theorem d_md_reserve_3 : decode prog_10_method_55_code 3 = .ok (.istore_n 3, 1) := zD (q := (3, .istore_n 3, 1)) tx_md_reserve_0 3 rfl
theorem d_md_reserve_4 : decode prog_10_method_55_code 4 = .ok (.iload_n 3, 1) := zD (q := (4, .iload_n 3, 1)) tx_md_reserve_0 4 rfl
theorem d_md_reserve_5 : decode prog_10_method_55_code 5 = .ok (.aload_n 0, 1) := zD (q := (5, .aload_n 0, 1)) tx_md_reserve_0 5 rfl
theorem d_md_reserve_6 : decode prog_10_method_55_code 6 = .ok (.getfield 97, 3) := zD (q := (6, .getfield 97, 3)) tx_md_reserve_0 6 rfl
theorem d_md_reserve_9 : decode prog_10_method_55_code 9 = .ok (.if_icmp .ge 29, 3) := zD (q := (9, .if_icmp .ge 29, 3)) tx_md_reserve_0 7 rfl
theorem d_md_reserve_12 : decode prog_10_method_55_code 12 = .ok (.iload_n 2, 1) := zD (q := (12, .iload_n 2, 1)) tx_md_reserve_0 8 rfl
theorem d_md_reserve_13 : decode prog_10_method_55_code 13 = .ok (.ifCond .ne 13, 3) := zD (q := (13, .ifCond .ne 13, 3)) tx_md_reserve_0 9 rfl
theorem d_md_reserve_16 : decode prog_10_method_55_code 16 = .ok (.aload_n 0, 1) := zD (q := (16, .aload_n 0, 1)) tx_md_reserve_0 10 rfl
theorem d_md_reserve_17 : decode prog_10_method_55_code 17 = .ok (.getfield 57, 3) := zD (q := (17, .getfield 57, 3)) tx_md_reserve_0 11 rfl
theorem d_md_reserve_20 : decode prog_10_method_55_code 20 = .ok (.iload_n 3, 1) := zD (q := (20, .iload_n 3, 1)) tx_md_reserve_0 12 rfl
theorem d_md_reserve_21 : decode prog_10_method_55_code 21 = .ok (.iaload, 1) := zD (q := (21, .iaload, 1)) tx_md_reserve_0 13 rfl
theorem d_md_reserve_22 : decode prog_10_method_55_code 22 = .ok (.iload_n 1, 1) := zD (q := (22, .iload_n 1, 1)) tx_md_reserve_0 14 rfl
theorem d_md_reserve_23 : decode prog_10_method_55_code 23 = .ok (.if_icmp .ne 7, 3) := zD (q := (23, .if_icmp .ne 7, 3)) tx_md_reserve_0 15 rfl
theorem d_md_reserve_26 : decode prog_10_method_55_code 26 = .ok (.iconst 1, 1) := zD (q := (26, .iconst 1, 1)) tx_md_reserve_0 16 rfl
theorem d_md_reserve_27 : decode prog_10_method_55_code 27 = .ok (.goto 4, 3) := zD (q := (27, .goto 4, 3)) tx_md_reserve_0 17 rfl
theorem d_md_reserve_30 : decode prog_10_method_55_code 30 = .ok (.iconst 0, 1) := zD (q := (30, .iconst 0, 1)) tx_md_reserve_0 18 rfl
theorem d_md_reserve_31 : decode prog_10_method_55_code 31 = .ok (.istore_n 2, 1) := zD (q := (31, .istore_n 2, 1)) tx_md_reserve_0 19 rfl
theorem d_md_reserve_32 : decode prog_10_method_55_code 32 = .ok (.iinc 3 1, 3) := zD (q := (32, .iinc 3 1, 3)) tx_md_reserve_0 20 rfl
theorem d_md_reserve_35 : decode prog_10_method_55_code 35 = .ok (.goto (-31), 3) := zD (q := (35, .goto (-31), 3)) tx_md_reserve_0 21 rfl
theorem d_md_reserve_38 : decode prog_10_method_55_code 38 = .ok (.aload_n 0, 1) := zD (q := (38, .aload_n 0, 1)) tx_md_reserve_0 22 rfl
theorem d_md_reserve_39 : decode prog_10_method_55_code 39 = .ok (.iload_n 1, 1) := zD (q := (39, .iload_n 1, 1)) tx_md_reserve_0 23 rfl
theorem d_md_reserve_40 : decode prog_10_method_55_code 40 = .ok (.iconst 0, 1) := zD (q := (40, .iconst 0, 1)) tx_md_reserve_0 24 rfl
theorem d_md_reserve_41 : decode prog_10_method_55_code 41 = .ok (.bipush 99, 2) := zD (q := (41, .bipush 99, 2)) tx_md_reserve_0 25 rfl
theorem d_md_reserve_43 : decode prog_10_method_55_code 43 = .ok (.invokestatic 90, 3) := zD (q := (43, .invokestatic 90, 3)) tx_md_reserve_0 26 rfl
theorem d_md_reserve_46 : decode prog_10_method_55_code 46 = .ok (.ifCond .ne 7, 3) := zD (q := (46, .ifCond .ne 7, 3)) tx_md_reserve_0 27 rfl
theorem d_md_reserve_49 : decode prog_10_method_55_code 49 = .ok (.iconst 1, 1) := zD (q := (49, .iconst 1, 1)) tx_md_reserve_0 28 rfl
theorem d_md_reserve_50 : decode prog_10_method_55_code 50 = .ok (.goto 4, 3) := zD (q := (50, .goto 4, 3)) tx_md_reserve_0 29 rfl
theorem d_md_reserve_53 : decode prog_10_method_55_code 53 = .ok (.iconst 0, 1) := zD (q := (53, .iconst 0, 1)) tx_md_reserve_0 30 rfl
theorem d_md_reserve_54 : decode prog_10_method_55_code 54 = .ok (.iload_n 2, 1) := zD (q := (54, .iload_n 2, 1)) tx_md_reserve_0 31 rfl
theorem d_md_reserve_55 : decode prog_10_method_55_code 55 = .ok (.ifCond .ne 12, 3) := zD (q := (55, .ifCond .ne 12, 3)) tx_md_reserve_0 32 rfl
theorem d_md_reserve_58 : decode prog_10_method_55_code 58 = .ok (.aload_n 0, 1) := zD (q := (58, .aload_n 0, 1)) tx_md_reserve_0 33 rfl
theorem d_md_reserve_59 : decode prog_10_method_55_code 59 = .ok (.getfield 97, 3) := zD (q := (59, .getfield 97, 3)) tx_md_reserve_0 34 rfl
theorem d_md_reserve_62 : decode prog_10_method_55_code 62 = .ok (.bipush 6, 2) := zD (q := (62, .bipush 6, 2)) tx_md_reserve_0 35 rfl
theorem d_md_reserve_64 : decode prog_10_method_55_code 64 = .ok (.if_icmp .ne 7, 3) := zD (q := (64, .if_icmp .ne 7, 3)) tx_md_reserve_0 36 rfl
theorem d_md_reserve_67 : decode prog_10_method_55_code 67 = .ok (.iconst 1, 1) := zD (q := (67, .iconst 1, 1)) tx_md_reserve_0 37 rfl
theorem d_md_reserve_68 : decode prog_10_method_55_code 68 = .ok (.goto 4, 3) := zD (q := (68, .goto 4, 3)) tx_md_reserve_0 38 rfl
theorem d_md_reserve_71 : decode prog_10_method_55_code 71 = .ok (.iconst 0, 1) := zD (q := (71, .iconst 0, 1)) tx_md_reserve_0 39 rfl
theorem d_md_reserve_72 : decode prog_10_method_55_code 72 = .ok (.iconst 0, 1) := zD (q := (72, .iconst 0, 1)) tx_md_reserve_0 40 rfl
theorem d_md_reserve_73 : decode prog_10_method_55_code 73 = .ok (.iconst 0, 1) := zD (q := (73, .iconst 0, 1)) tx_md_reserve_0 41 rfl
theorem d_md_reserve_74 : decode prog_10_method_55_code 74 = .ok (.invokevirtual 100, 3) := zD (q := (74, .invokevirtual 100, 3)) tx_md_reserve_0 42 rfl
theorem d_md_reserve_77 : decode prog_10_method_55_code 77 = .ok (.ifCond .eq 5, 3) := zD (q := (77, .ifCond .eq 5, 3)) tx_md_reserve_0 43 rfl
theorem d_md_reserve_80 : decode prog_10_method_55_code 80 = .ok (.iconst 0, 1) := zD (q := (80, .iconst 0, 1)) tx_md_reserve_0 44 rfl
theorem d_md_reserve_81 : decode prog_10_method_55_code 81 = .ok (.ireturn, 1) := zD (q := (81, .ireturn, 1)) tx_md_reserve_0 45 rfl
theorem d_md_reserve_82 : decode prog_10_method_55_code 82 = .ok (.aload_n 0, 1) := zD (q := (82, .aload_n 0, 1)) tx_md_reserve_0 46 rfl
theorem d_md_reserve_83 : decode prog_10_method_55_code 83 = .ok (.getfield 97, 3) := zD (q := (83, .getfield 97, 3)) tx_md_reserve_0 47 rfl
theorem d_md_reserve_86 : decode prog_10_method_55_code 86 = .ok (.istore_n 3, 1) := zD (q := (86, .istore_n 3, 1)) tx_md_reserve_0 48 rfl
theorem d_md_reserve_87 : decode prog_10_method_55_code 87 = .ok (.iload_n 3, 1) := zD (q := (87, .iload_n 3, 1)) tx_md_reserve_0 49 rfl
theorem d_md_reserve_88 : decode prog_10_method_55_code 88 = .ok (.ifCond .le 35, 3) := zD (q := (88, .ifCond .le 35, 3)) tx_md_reserve_0 50 rfl
theorem d_md_reserve_91 : decode prog_10_method_55_code 91 = .ok (.aload_n 0, 1) := zD (q := (91, .aload_n 0, 1)) tx_md_reserve_0 51 rfl
theorem d_md_reserve_92 : decode prog_10_method_55_code 92 = .ok (.getfield 57, 3) := zD (q := (92, .getfield 57, 3)) tx_md_reserve_0 52 rfl
theorem d_md_reserve_95 : decode prog_10_method_55_code 95 = .ok (.iload_n 3, 1) := zD (q := (95, .iload_n 3, 1)) tx_md_reserve_0 53 rfl
theorem d_md_reserve_96 : decode prog_10_method_55_code 96 = .ok (.iconst 1, 1) := zD (q := (96, .iconst 1, 1)) tx_md_reserve_0 54 rfl
theorem d_md_reserve_97 : decode prog_10_method_55_code 97 = .ok (.isub, 1) := zD (q := (97, .isub, 1)) tx_md_reserve_0 55 rfl
theorem d_md_reserve_98 : decode prog_10_method_55_code 98 = .ok (.iaload, 1) := zD (q := (98, .iaload, 1)) tx_md_reserve_0 56 rfl
theorem d_md_reserve_99 : decode prog_10_method_55_code 99 = .ok (.iload_n 1, 1) := zD (q := (99, .iload_n 1, 1)) tx_md_reserve_0 57 rfl
theorem d_md_reserve_100 : decode prog_10_method_55_code 100 = .ok (.if_icmp .le 23, 3) := zD (q := (100, .if_icmp .le 23, 3)) tx_md_reserve_0 58 rfl
theorem d_md_reserve_103 : decode prog_10_method_55_code 103 = .ok (.aload_n 0, 1) := zD (q := (103, .aload_n 0, 1)) tx_md_reserve_0 59 rfl
def T_md_reserve_1 : List (Nat × Instr × Nat) := [(104, .getfield 57, 3), (107, .iload_n 3, 1), (108, .aload_n 0, 1), (109, .getfield 57, 3), (112, .iload_n 3, 1), (113, .iconst 1, 1), (114, .isub, 1), (115, .iaload, 1), (116, .iastore, 1), (117, .iinc 3 (-1), 3), (120, .goto (-33), 3), (123, .aload_n 0, 1), (124, .getfield 57, 3), (127, .iload_n 3, 1), (128, .iload_n 1, 1), (129, .iastore, 1), (130, .aload_n 0, 1), (131, .dup, 1), (132, .getfield 97, 3), (135, .iconst 1, 1), (136, .iadd, 1), (137, .putfield 97, 3), (140, .aload_n 0, 1), (141, .getfield 97, 3), (144, .ireturn, 1)]
theorem tx_md_reserve_1 : zdec prog_10_method_55_code T_md_reserve_1 = true := by decide +kernel
theorem d_md_reserve_104 : decode prog_10_method_55_code 104 = .ok (.getfield 57, 3) := zD (q := (104, .getfield 57, 3)) tx_md_reserve_1 0 rfl
theorem d_md_reserve_107 : decode prog_10_method_55_code 107 = .ok (.iload_n 3, 1) := zD (q := (107, .iload_n 3, 1)) tx_md_reserve_1 1 rfl
theorem d_md_reserve_108 : decode prog_10_method_55_code 108 = .ok (.aload_n 0, 1) := zD (q := (108, .aload_n 0, 1)) tx_md_reserve_1 2 rfl
theorem d_md_reserve_109 : decode prog_10_method_55_code 109 = .ok (.getfield 57, 3) := zD (q := (109, .getfield 57, 3)) tx_md_reserve_1 3 rfl
theorem d_md_reserve_112 : decode prog_10_method_55_code 112 = .ok (.iload_n 3, 1) := zD (q := (112, .iload_n 3, 1)) tx_md_reserve_1 4 rfl
theorem d_md_reserve_113 : decode prog_10_method_55_code 113 = .ok (.iconst 1, 1) := zD (q := (113, .iconst 1, 1)) tx_md_reserve_1 5 rfl
theorem d_md_reserve_114 : decode prog_10_method_55_code 114 = .ok (.isub, 1) := zD (q := (114, .isub, 1)) tx_md_reserve_1 6 rfl
theorem d_md_reserve_115 : decode prog_10_method_55_code 115 = .ok (.iaload, 1) := zD (q := (115, .iaload, 1)) tx_md_reserve_1 7 rfl
theorem d_md_reserve_116 : decode prog_10_method_55_code 116 = .ok (.iastore, 1) := zD (q := (116, .iastore, 1)) tx_md_reserve_1 8 rfl
theorem d_md_reserve_117 : decode prog_10_method_55_code 117 = .ok (.iinc 3 (-1), 3) := zD (q := (117, .iinc 3 (-1), 3)) tx_md_reserve_1 9 rfl
theorem d_md_reserve_120 : decode prog_10_method_55_code 120 = .ok (.goto (-33), 3) := zD (q := (120, .goto (-33), 3)) tx_md_reserve_1 10 rfl
theorem d_md_reserve_123 : decode prog_10_method_55_code 123 = .ok (.aload_n 0, 1) := zD (q := (123, .aload_n 0, 1)) tx_md_reserve_1 11 rfl
theorem d_md_reserve_124 : decode prog_10_method_55_code 124 = .ok (.getfield 57, 3) := zD (q := (124, .getfield 57, 3)) tx_md_reserve_1 12 rfl
theorem d_md_reserve_127 : decode prog_10_method_55_code 127 = .ok (.iload_n 3, 1) := zD (q := (127, .iload_n 3, 1)) tx_md_reserve_1 13 rfl
theorem d_md_reserve_128 : decode prog_10_method_55_code 128 = .ok (.iload_n 1, 1) := zD (q := (128, .iload_n 1, 1)) tx_md_reserve_1 14 rfl
theorem d_md_reserve_129 : decode prog_10_method_55_code 129 = .ok (.iastore, 1) := zD (q := (129, .iastore, 1)) tx_md_reserve_1 15 rfl
theorem d_md_reserve_130 : decode prog_10_method_55_code 130 = .ok (.aload_n 0, 1) := zD (q := (130, .aload_n 0, 1)) tx_md_reserve_1 16 rfl
theorem d_md_reserve_131 : decode prog_10_method_55_code 131 = .ok (.dup, 1) := zD (q := (131, .dup, 1)) tx_md_reserve_1 17 rfl
theorem d_md_reserve_132 : decode prog_10_method_55_code 132 = .ok (.getfield 97, 3) := zD (q := (132, .getfield 97, 3)) tx_md_reserve_1 18 rfl
theorem d_md_reserve_135 : decode prog_10_method_55_code 135 = .ok (.iconst 1, 1) := zD (q := (135, .iconst 1, 1)) tx_md_reserve_1 19 rfl
theorem d_md_reserve_136 : decode prog_10_method_55_code 136 = .ok (.iadd, 1) := zD (q := (136, .iadd, 1)) tx_md_reserve_1 20 rfl
theorem d_md_reserve_137 : decode prog_10_method_55_code 137 = .ok (.putfield 97, 3) := zD (q := (137, .putfield 97, 3)) tx_md_reserve_1 21 rfl
theorem d_md_reserve_140 : decode prog_10_method_55_code 140 = .ok (.aload_n 0, 1) := zD (q := (140, .aload_n 0, 1)) tx_md_reserve_1 22 rfl
theorem d_md_reserve_141 : decode prog_10_method_55_code 141 = .ok (.getfield 97, 3) := zD (q := (141, .getfield 97, 3)) tx_md_reserve_1 23 rfl
theorem d_md_reserve_144 : decode prog_10_method_55_code 144 = .ok (.ireturn, 1) := zD (q := (144, .ireturn, 1)) tx_md_reserve_1 24 rfl
def T_md_missing_0 : List (Nat × Instr × Nat) := [(0, .aload_n 0, 1), (1, .iconst 0, 1), (2, .putfield 87, 3), (5, .aload_n 0, 1), (6, .invokevirtual 229, 3), (9, .aload_n 0, 1), (10, .getfield 226, 3), (13, .ireturn, 1)]
theorem tx_md_missing_0 : zdec prog_10_method_57_code T_md_missing_0 = true := by decide +kernel
theorem d_md_missing_0 : decode prog_10_method_57_code 0 = .ok (.aload_n 0, 1) := zD (q := (0, .aload_n 0, 1)) tx_md_missing_0 0 rfl
theorem d_md_missing_1 : decode prog_10_method_57_code 1 = .ok (.iconst 0, 1) := zD (q := (1, .iconst 0, 1)) tx_md_missing_0 1 rfl
theorem d_md_missing_2 : decode prog_10_method_57_code 2 = .ok (.putfield 87, 3) := zD (q := (2, .putfield 87, 3)) tx_md_missing_0 2 rfl
theorem d_md_missing_5 : decode prog_10_method_57_code 5 = .ok (.aload_n 0, 1) := zD (q := (5, .aload_n 0, 1)) tx_md_missing_0 3 rfl
theorem d_md_missing_6 : decode prog_10_method_57_code 6 = .ok (.invokevirtual 229, 3) := zD (q := (6, .invokevirtual 229, 3)) tx_md_missing_0 4 rfl
theorem d_md_missing_9 : decode prog_10_method_57_code 9 = .ok (.aload_n 0, 1) := zD (q := (9, .aload_n 0, 1)) tx_md_missing_0 5 rfl
theorem d_md_missing_10 : decode prog_10_method_57_code 10 = .ok (.getfield 226, 3) := zD (q := (10, .getfield 226, 3)) tx_md_missing_0 6 rfl
theorem d_md_missing_13 : decode prog_10_method_57_code 13 = .ok (.ireturn, 1) := zD (q := (13, .ireturn, 1)) tx_md_missing_0 7 rfl
def T_md_listMissing_0 : List (Nat × Instr × Nat) := [(0, .aload_n 0, 1), (1, .iconst 0, 1), (2, .putfield 226, 3), (5, .iconst 0, 1), (6, .istore_n 1, 1), (7, .iload_n 1, 1), (8, .sipush 800, 3), (11, .if_icmp .ge 38, 3), (14, .aload_n 0, 1), (15, .getfield 48, 3), (18, .iload_n 1, 1), (19, .baload, 1), (20, .ifCond .eq 23, 3), (23, .aload_n 0, 1), (24, .getfield 75, 3), (27, .aload_n 0, 1), (28, .getfield 226, 3), (31, .iload_n 1, 1), (32, .iastore, 1), (33, .aload_n 0, 1), (34, .dup, 1), (35, .getfield 226, 3), (38, .iconst 1, 1), (39, .iadd, 1), (40, .putfield 226, 3), (43, .iinc 1 1, 3), (46, .goto (-39), 3), (49, .return_, 1)]
theorem tx_md_listMissing_0 : zdec prog_10_method_56_code T_md_listMissing_0 = true := by decide +kernel
theorem d_md_listMissing_0 : decode prog_10_method_56_code 0 = .ok (.aload_n 0, 1) := zD (q := (0, .aload_n 0, 1)) tx_md_listMissing_0 0 rfl
theorem d_md_listMissing_1 : decode prog_10_method_56_code 1 = .ok (.iconst 0, 1) := zD (q := (1, .iconst 0, 1)) tx_md_listMissing_0 1 rfl
theorem d_md_listMissing_2 : decode prog_10_method_56_code 2 = .ok (.putfield 226, 3) := zD (q := (2, .putfield 226, 3)) tx_md_listMissing_0 2 rfl
theorem d_md_listMissing_5 : decode prog_10_method_56_code 5 = .ok (.iconst 0, 1) := zD (q := (5, .iconst 0, 1)) tx_md_listMissing_0 3 rfl
theorem d_md_listMissing_6 : decode prog_10_method_56_code 6 = .ok (.istore_n 1, 1) := zD (q := (6, .istore_n 1, 1)) tx_md_listMissing_0 4 rfl
theorem d_md_listMissing_7 : decode prog_10_method_56_code 7 = .ok (.iload_n 1, 1) := zD (q := (7, .iload_n 1, 1)) tx_md_listMissing_0 5 rfl
theorem d_md_listMissing_8 : decode prog_10_method_56_code 8 = .ok (.sipush 800, 3) := zD (q := (8, .sipush 800, 3)) tx_md_listMissing_0 6 rfl
theorem d_md_listMissing_11 : decode prog_10_method_56_code 11 = .ok (.if_icmp .ge 38, 3) := zD (q := (11, .if_icmp .ge 38, 3)) tx_md_listMissing_0 7 rfl
theorem d_md_listMissing_14 : decode prog_10_method_56_code 14 = .ok (.aload_n 0, 1) := zD (q := (14, .aload_n 0, 1)) tx_md_listMissing_0 8 rfl
theorem d_md_listMissing_15 : decode prog_10_method_56_code 15 = .ok (.getfield 48, 3) := zD (q := (15, .getfield 48, 3)) tx_md_listMissing_0 9 rfl
theorem d_md_listMissing_18 : decode prog_10_method_56_code 18 = .ok (.iload_n 1, 1) := zD (q := (18, .iload_n 1, 1)) tx_md_listMissing_0 10 rfl
theorem d_md_listMissing_19 : decode prog_10_method_56_code 19 = .ok (.baload, 1) := zD (q := (19, .baload, 1)) tx_md_listMissing_0 11 rfl
theorem d_md_listMissing_20 : decode prog_10_method_56_code 20 = .ok (.ifCond .eq 23, 3) := zD (q := (20, .ifCond .eq 23, 3)) tx_md_listMissing_0 12 rfl
theorem d_md_listMissing_23 : decode prog_10_method_56_code 23 = .ok (.aload_n 0, 1) := zD (q := (23, .aload_n 0, 1)) tx_md_listMissing_0 13 rfl
theorem d_md_listMissing_24 : decode prog_10_method_56_code 24 = .ok (.getfield 75, 3) := zD (q := (24, .getfield 75, 3)) tx_md_listMissing_0 14 rfl
theorem d_md_listMissing_27 : decode prog_10_method_56_code 27 = .ok (.aload_n 0, 1) := zD (q := (27, .aload_n 0, 1)) tx_md_listMissing_0 15 rfl
theorem d_md_listMissing_28 : decode prog_10_method_56_code 28 = .ok (.getfield 226, 3) := zD (q := (28, .getfield 226, 3)) tx_md_listMissing_0 16 rfl
theorem d_md_listMissing_31 : decode prog_10_method_56_code 31 = .ok (.iload_n 1, 1) := zD (q := (31, .iload_n 1, 1)) tx_md_listMissing_0 17 rfl
theorem d_md_listMissing_32 : decode prog_10_method_56_code 32 = .ok (.iastore, 1) := zD (q := (32, .iastore, 1)) tx_md_listMissing_0 18 rfl
theorem d_md_listMissing_33 : decode prog_10_method_56_code 33 = .ok (.aload_n 0, 1) := zD (q := (33, .aload_n 0, 1)) tx_md_listMissing_0 19 rfl
theorem d_md_listMissing_34 : decode prog_10_method_56_code 34 = .ok (.dup, 1) := zD (q := (34, .dup, 1)) tx_md_listMissing_0 20 rfl
theorem d_md_listMissing_35 : decode prog_10_method_56_code 35 = .ok (.getfield 226, 3) := zD (q := (35, .getfield 226, 3)) tx_md_listMissing_0 21 rfl
theorem d_md_listMissing_38 : decode prog_10_method_56_code 38 = .ok (.iconst 1, 1) := zD (q := (38, .iconst 1, 1)) tx_md_listMissing_0 22 rfl
theorem d_md_listMissing_39 : decode prog_10_method_56_code 39 = .ok (.iadd, 1) := zD (q := (39, .iadd, 1)) tx_md_listMissing_0 23 rfl
theorem d_md_listMissing_40 : decode prog_10_method_56_code 40 = .ok (.putfield 226, 3) := zD (q := (40, .putfield 226, 3)) tx_md_listMissing_0 24 rfl
theorem d_md_listMissing_43 : decode prog_10_method_56_code 43 = .ok (.iinc 1 1, 3) := zD (q := (43, .iinc 1 1, 3)) tx_md_listMissing_0 25 rfl
theorem d_md_listMissing_46 : decode prog_10_method_56_code 46 = .ok (.goto (-39), 3) := zD (q := (46, .goto (-39), 3)) tx_md_listMissing_0 26 rfl
theorem d_md_listMissing_49 : decode prog_10_method_56_code 49 = .ok (.return_, 1) := zD (q := (49, .return_, 1)) tx_md_listMissing_0 27 rfl
def T_md_catchUp_0 : List (Nat × Instr × Nat) := [(0, .aload_n 0, 1), (1, .invokevirtual 229, 3), (4, .aload_n 0, 1), (5, .aload_n 0, 1), (6, .getfield 226, 3), (9, .bipush 14, 2), (11, .if_icmp .le 7, 3), (14, .iconst 1, 1), (15, .goto 4, 3), (18, .iconst 0, 1), (19, .iconst 0, 1), (20, .iconst 0, 1), (21, .iconst 0, 1), (22, .invokevirtual 100, 3), (25, .ifCond .eq 5, 3), (28, .iconst 0, 1), (29, .ireturn, 1), (30, .aload_n 0, 1), (31, .invokevirtual 238, 3), (34, .istore_n 1, 1), (35, .iload_n 1, 1), (36, .aload_n 0, 1), (37, .getfield 97, 3), (40, .if_icmp .gt 17, 3), (43, .aload_n 0, 1), (44, .iload_n 1, 1), (45, .invokevirtual 241, 3), (48, .ifCond .ne 9, 3), (51, .iinc 1 1, 3), (54, .goto (-19), 3), (57, .iload_n 1, 1), (58, .aload_n 0, 1), (59, .getfield 97, 3), (62, .if_icmp .le 5, 3), (65, .iconst (-1), 1), (66, .ireturn, 1), (67, .iconst 0, 1), (68, .istore_n 2, 1), (69, .iload_n 2, 1), (70, .aload_n 0, 1), (71, .getfield 226, 3), (74, .if_icmp .ge 31, 3), (77, .aload_n 0, 1), (78, .getfield 51, 3), (81, .aload_n 0, 1), (82, .getfield 75, 3), (85, .iload_n 2, 1), (86, .iaload, 1), (87, .aload_n 0, 1), (88, .getfield 57, 3), (91, .aload_n 0, 1), (92, .getfield 78, 3), (95, .iload_n 2, 1), (96, .iaload, 1), (97, .iaload, 1), (98, .iastore, 1), (99, .iinc 2 1, 3), (102, .goto (-33), 3), (105, .iload_n 1, 1), (106, .ireturn, 1)]
theorem tx_md_catchUp_0 : zdec prog_10_method_62_code T_md_catchUp_0 = true := by decide +kernel
theorem d_md_catchUp_0 : decode prog_10_method_62_code 0 = .ok (.aload_n 0, 1) := zD (q := (0, .aload_n 0, 1)) tx_md_catchUp_0 0 rfl
theorem d_md_catchUp_1 : decode prog_10_method_62_code 1 = .ok (.invokevirtual 229, 3) := zD (q := (1, .invokevirtual 229, 3)) tx_md_catchUp_0 1 rfl
theorem d_md_catchUp_4 : decode prog_10_method_62_code 4 = .ok (.aload_n 0, 1) := zD (q := (4, .aload_n 0, 1)) tx_md_catchUp_0 2 rfl
theorem d_md_catchUp_5 : decode prog_10_method_62_code 5 = .ok (.aload_n 0, 1) := zD (q := (5, .aload_n 0, 1)) tx_md_catchUp_0 3 rfl
theorem d_md_catchUp_6 : decode prog_10_method_62_code 6 = .ok (.getfield 226, 3) := zD (q := (6, .getfield 226, 3)) tx_md_catchUp_0 4 rfl
theorem d_md_catchUp_9 : decode prog_10_method_62_code 9 = .ok (.bipush 14, 2) := zD (q := (9, .bipush 14, 2)) tx_md_catchUp_0 5 rfl
theorem d_md_catchUp_11 : decode prog_10_method_62_code 11 = .ok (.if_icmp .le 7, 3) := zD (q := (11, .if_icmp .le 7, 3)) tx_md_catchUp_0 6 rfl
theorem d_md_catchUp_14 : decode prog_10_method_62_code 14 = .ok (.iconst 1, 1) := zD (q := (14, .iconst 1, 1)) tx_md_catchUp_0 7 rfl
theorem d_md_catchUp_15 : decode prog_10_method_62_code 15 = .ok (.goto 4, 3) := zD (q := (15, .goto 4, 3)) tx_md_catchUp_0 8 rfl
theorem d_md_catchUp_18 : decode prog_10_method_62_code 18 = .ok (.iconst 0, 1) := zD (q := (18, .iconst 0, 1)) tx_md_catchUp_0 9 rfl
theorem d_md_catchUp_19 : decode prog_10_method_62_code 19 = .ok (.iconst 0, 1) := zD (q := (19, .iconst 0, 1)) tx_md_catchUp_0 10 rfl
theorem d_md_catchUp_20 : decode prog_10_method_62_code 20 = .ok (.iconst 0, 1) := zD (q := (20, .iconst 0, 1)) tx_md_catchUp_0 11 rfl
theorem d_md_catchUp_21 : decode prog_10_method_62_code 21 = .ok (.iconst 0, 1) := zD (q := (21, .iconst 0, 1)) tx_md_catchUp_0 12 rfl
theorem d_md_catchUp_22 : decode prog_10_method_62_code 22 = .ok (.invokevirtual 100, 3) := zD (q := (22, .invokevirtual 100, 3)) tx_md_catchUp_0 13 rfl
theorem d_md_catchUp_25 : decode prog_10_method_62_code 25 = .ok (.ifCond .eq 5, 3) := zD (q := (25, .ifCond .eq 5, 3)) tx_md_catchUp_0 14 rfl
theorem d_md_catchUp_28 : decode prog_10_method_62_code 28 = .ok (.iconst 0, 1) := zD (q := (28, .iconst 0, 1)) tx_md_catchUp_0 15 rfl
theorem d_md_catchUp_29 : decode prog_10_method_62_code 29 = .ok (.ireturn, 1) := zD (q := (29, .ireturn, 1)) tx_md_catchUp_0 16 rfl
theorem d_md_catchUp_30 : decode prog_10_method_62_code 30 = .ok (.aload_n 0, 1) := zD (q := (30, .aload_n 0, 1)) tx_md_catchUp_0 17 rfl
theorem d_md_catchUp_31 : decode prog_10_method_62_code 31 = .ok (.invokevirtual 238, 3) := zD (q := (31, .invokevirtual 238, 3)) tx_md_catchUp_0 18 rfl
theorem d_md_catchUp_34 : decode prog_10_method_62_code 34 = .ok (.istore_n 1, 1) := zD (q := (34, .istore_n 1, 1)) tx_md_catchUp_0 19 rfl
theorem d_md_catchUp_35 : decode prog_10_method_62_code 35 = .ok (.iload_n 1, 1) := zD (q := (35, .iload_n 1, 1)) tx_md_catchUp_0 20 rfl
theorem d_md_catchUp_36 : decode prog_10_method_62_code 36 = .ok (.aload_n 0, 1) := zD (q := (36, .aload_n 0, 1)) tx_md_catchUp_0 21 rfl
theorem d_md_catchUp_37 : decode prog_10_method_62_code 37 = .ok (.getfield 97, 3) := zD (q := (37, .getfield 97, 3)) tx_md_catchUp_0 22 rfl
theorem d_md_catchUp_40 : decode prog_10_method_62_code 40 = .ok (.if_icmp .gt 17, 3) := zD (q := (40, .if_icmp .gt 17, 3)) tx_md_catchUp_0 23 rfl
theorem d_md_catchUp_43 : decode prog_10_method_62_code 43 = .ok (.aload_n 0, 1) := zD (q := (43, .aload_n 0, 1)) tx_md_catchUp_0 24 rfl
theorem d_md_catchUp_44 : decode prog_10_method_62_code 44 = .ok (.iload_n 1, 1) := zD (q := (44, .iload_n 1, 1)) tx_md_catchUp_0 25 rfl
theorem d_md_catchUp_45 : decode prog_10_method_62_code 45 = .ok (.invokevirtual 241, 3) := zD (q := (45, .invokevirtual 241, 3)) tx_md_catchUp_0 26 rfl
theorem d_md_catchUp_48 : decode prog_10_method_62_code 48 = .ok (.ifCond .ne 9, 3) := zD (q := (48, .ifCond .ne 9, 3)) tx_md_catchUp_0 27 rfl
theorem d_md_catchUp_51 : decode prog_10_method_62_code 51 = .ok (.iinc 1 1, 3) := zD (q := (51, .iinc 1 1, 3)) tx_md_catchUp_0 28 rfl
theorem d_md_catchUp_54 : decode prog_10_method_62_code 54 = .ok (.goto (-19), 3) := zD (q := (54, .goto (-19), 3)) tx_md_catchUp_0 29 rfl
theorem d_md_catchUp_57 : decode prog_10_method_62_code 57 = .ok (.iload_n 1, 1) := zD (q := (57, .iload_n 1, 1)) tx_md_catchUp_0 30 rfl
theorem d_md_catchUp_58 : decode prog_10_method_62_code 58 = .ok (.aload_n 0, 1) := zD (q := (58, .aload_n 0, 1)) tx_md_catchUp_0 31 rfl
theorem d_md_catchUp_59 : decode prog_10_method_62_code 59 = .ok (.getfield 97, 3) := zD (q := (59, .getfield 97, 3)) tx_md_catchUp_0 32 rfl
theorem d_md_catchUp_62 : decode prog_10_method_62_code 62 = .ok (.if_icmp .le 5, 3) := zD (q := (62, .if_icmp .le 5, 3)) tx_md_catchUp_0 33 rfl
theorem d_md_catchUp_65 : decode prog_10_method_62_code 65 = .ok (.iconst (-1), 1) := zD (q := (65, .iconst (-1), 1)) tx_md_catchUp_0 34 rfl
theorem d_md_catchUp_66 : decode prog_10_method_62_code 66 = .ok (.ireturn, 1) := zD (q := (66, .ireturn, 1)) tx_md_catchUp_0 35 rfl
theorem d_md_catchUp_67 : decode prog_10_method_62_code 67 = .ok (.iconst 0, 1) := zD (q := (67, .iconst 0, 1)) tx_md_catchUp_0 36 rfl
theorem d_md_catchUp_68 : decode prog_10_method_62_code 68 = .ok (.istore_n 2, 1) := zD (q := (68, .istore_n 2, 1)) tx_md_catchUp_0 37 rfl
theorem d_md_catchUp_69 : decode prog_10_method_62_code 69 = .ok (.iload_n 2, 1) := zD (q := (69, .iload_n 2, 1)) tx_md_catchUp_0 38 rfl
theorem d_md_catchUp_70 : decode prog_10_method_62_code 70 = .ok (.aload_n 0, 1) := zD (q := (70, .aload_n 0, 1)) tx_md_catchUp_0 39 rfl
theorem d_md_catchUp_71 : decode prog_10_method_62_code 71 = .ok (.getfield 226, 3) := zD (q := (71, .getfield 226, 3)) tx_md_catchUp_0 40 rfl
theorem d_md_catchUp_74 : decode prog_10_method_62_code 74 = .ok (.if_icmp .ge 31, 3) := zD (q := (74, .if_icmp .ge 31, 3)) tx_md_catchUp_0 41 rfl
theorem d_md_catchUp_77 : decode prog_10_method_62_code 77 = .ok (.aload_n 0, 1) := zD (q := (77, .aload_n 0, 1)) tx_md_catchUp_0 42 rfl
theorem d_md_catchUp_78 : decode prog_10_method_62_code 78 = .ok (.getfield 51, 3) := zD (q := (78, .getfield 51, 3)) tx_md_catchUp_0 43 rfl
theorem d_md_catchUp_81 : decode prog_10_method_62_code 81 = .ok (.aload_n 0, 1) := zD (q := (81, .aload_n 0, 1)) tx_md_catchUp_0 44 rfl
theorem d_md_catchUp_82 : decode prog_10_method_62_code 82 = .ok (.getfield 75, 3) := zD (q := (82, .getfield 75, 3)) tx_md_catchUp_0 45 rfl
theorem d_md_catchUp_85 : decode prog_10_method_62_code 85 = .ok (.iload_n 2, 1) := zD (q := (85, .iload_n 2, 1)) tx_md_catchUp_0 46 rfl
theorem d_md_catchUp_86 : decode prog_10_method_62_code 86 = .ok (.iaload, 1) := zD (q := (86, .iaload, 1)) tx_md_catchUp_0 47 rfl
theorem d_md_catchUp_87 : decode prog_10_method_62_code 87 = .ok (.aload_n 0, 1) := zD (q := (87, .aload_n 0, 1)) tx_md_catchUp_0 48 rfl
theorem d_md_catchUp_88 : decode prog_10_method_62_code 88 = .ok (.getfield 57, 3) := zD (q := (88, .getfield 57, 3)) tx_md_catchUp_0 49 rfl
theorem d_md_catchUp_91 : decode prog_10_method_62_code 91 = .ok (.aload_n 0, 1) := zD (q := (91, .aload_n 0, 1)) tx_md_catchUp_0 50 rfl
theorem d_md_catchUp_92 : decode prog_10_method_62_code 92 = .ok (.getfield 78, 3) := zD (q := (92, .getfield 78, 3)) tx_md_catchUp_0 51 rfl
theorem d_md_catchUp_95 : decode prog_10_method_62_code 95 = .ok (.iload_n 2, 1) := zD (q := (95, .iload_n 2, 1)) tx_md_catchUp_0 52 rfl
theorem d_md_catchUp_96 : decode prog_10_method_62_code 96 = .ok (.iaload, 1) := zD (q := (96, .iaload, 1)) tx_md_catchUp_0 53 rfl
theorem d_md_catchUp_97 : decode prog_10_method_62_code 97 = .ok (.iaload, 1) := zD (q := (97, .iaload, 1)) tx_md_catchUp_0 54 rfl
theorem d_md_catchUp_98 : decode prog_10_method_62_code 98 = .ok (.iastore, 1) := zD (q := (98, .iastore, 1)) tx_md_catchUp_0 55 rfl
theorem d_md_catchUp_99 : decode prog_10_method_62_code 99 = .ok (.iinc 2 1, 3) := zD (q := (99, .iinc 2 1, 3)) tx_md_catchUp_0 56 rfl
theorem d_md_catchUp_102 : decode prog_10_method_62_code 102 = .ok (.goto (-33), 3) := zD (q := (102, .goto (-33), 3)) tx_md_catchUp_0 57 rfl
theorem d_md_catchUp_105 : decode prog_10_method_62_code 105 = .ok (.iload_n 1, 1) := zD (q := (105, .iload_n 1, 1)) tx_md_catchUp_0 58 rfl
theorem d_md_catchUp_106 : decode prog_10_method_62_code 106 = .ok (.ireturn, 1) := zD (q := (106, .ireturn, 1)) tx_md_catchUp_0 59 rfl
def T_md_busiest_0 : List (Nat × Instr × Nat) := [(0, .iconst 0, 1), (1, .istore_n 1, 1), (2, .iconst 0, 1), (3, .istore_n 2, 1), (4, .iload_n 2, 1), (5, .aload_n 0, 1), (6, .getfield 7, 3), (9, .if_icmp .ge 78, 3), (12, .iconst 0, 1), (13, .istore_n 3, 1), (14, .iconst 0, 1), (15, .istore 4, 2), (17, .iload 4, 2), (19, .aload_n 0, 1), (20, .getfield 226, 3), (23, .if_icmp .ge 47, 3), (26, .aload_n 0, 1), (27, .getfield 75, 3), (30, .iload 4, 2), (32, .iaload, 1), (33, .bipush 20, 2), (35, .irem, 1), (36, .iload_n 2, 1), (37, .if_icmp .eq 19, 3), (40, .aload_n 0, 1), (41, .getfield 33, 3), (44, .aload_n 0, 1), (45, .getfield 75, 3), (48, .iload 4, 2), (50, .iaload, 1), (51, .iaload, 1), (52, .iload_n 2, 1), (53, .if_icmp .ne 9, 3), (56, .iload_n 3, 1), (57, .iconst 1, 1), (58, .iadd, 1), (59, .goto 4, 3), (62, .iload_n 3, 1), (63, .istore_n 3, 1), (64, .iinc 4 1, 3), (67, .goto (-50), 3), (70, .iload_n 3, 1), (71, .iload_n 1, 1), (72, .if_icmp .le 7, 3), (75, .iload_n 3, 1), (76, .goto 4, 3), (79, .iload_n 1, 1), (80, .istore_n 1, 1), (81, .iinc 2 1, 3), (84, .goto (-80), 3), (87, .iload_n 1, 1), (88, .ireturn, 1)]
theorem tx_md_busiest_0 : zdec prog_10_method_60_code T_md_busiest_0 = true := by decide +kernel
theorem d_md_busiest_0 : decode prog_10_method_60_code 0 = .ok (.iconst 0, 1) := zD (q := (0, .iconst 0, 1)) tx_md_busiest_0 0 rfl
theorem d_md_busiest_1 : decode prog_10_method_60_code 1 = .ok (.istore_n 1, 1) := zD (q := (1, .istore_n 1, 1)) tx_md_busiest_0 1 rfl
theorem d_md_busiest_2 : decode prog_10_method_60_code 2 = .ok (.iconst 0, 1) := zD (q := (2, .iconst 0, 1)) tx_md_busiest_0 2 rfl
theorem d_md_busiest_3 : decode prog_10_method_60_code 3 = .ok (.istore_n 2, 1) := zD (q := (3, .istore_n 2, 1)) tx_md_busiest_0 3 rfl
theorem d_md_busiest_4 : decode prog_10_method_60_code 4 = .ok (.iload_n 2, 1) := zD (q := (4, .iload_n 2, 1)) tx_md_busiest_0 4 rfl
theorem d_md_busiest_5 : decode prog_10_method_60_code 5 = .ok (.aload_n 0, 1) := zD (q := (5, .aload_n 0, 1)) tx_md_busiest_0 5 rfl
theorem d_md_busiest_6 : decode prog_10_method_60_code 6 = .ok (.getfield 7, 3) := zD (q := (6, .getfield 7, 3)) tx_md_busiest_0 6 rfl
theorem d_md_busiest_9 : decode prog_10_method_60_code 9 = .ok (.if_icmp .ge 78, 3) := zD (q := (9, .if_icmp .ge 78, 3)) tx_md_busiest_0 7 rfl
theorem d_md_busiest_12 : decode prog_10_method_60_code 12 = .ok (.iconst 0, 1) := zD (q := (12, .iconst 0, 1)) tx_md_busiest_0 8 rfl
theorem d_md_busiest_13 : decode prog_10_method_60_code 13 = .ok (.istore_n 3, 1) := zD (q := (13, .istore_n 3, 1)) tx_md_busiest_0 9 rfl
theorem d_md_busiest_14 : decode prog_10_method_60_code 14 = .ok (.iconst 0, 1) := zD (q := (14, .iconst 0, 1)) tx_md_busiest_0 10 rfl
theorem d_md_busiest_15 : decode prog_10_method_60_code 15 = .ok (.istore 4, 2) := zD (q := (15, .istore 4, 2)) tx_md_busiest_0 11 rfl
theorem d_md_busiest_17 : decode prog_10_method_60_code 17 = .ok (.iload 4, 2) := zD (q := (17, .iload 4, 2)) tx_md_busiest_0 12 rfl
theorem d_md_busiest_19 : decode prog_10_method_60_code 19 = .ok (.aload_n 0, 1) := zD (q := (19, .aload_n 0, 1)) tx_md_busiest_0 13 rfl
theorem d_md_busiest_20 : decode prog_10_method_60_code 20 = .ok (.getfield 226, 3) := zD (q := (20, .getfield 226, 3)) tx_md_busiest_0 14 rfl
theorem d_md_busiest_23 : decode prog_10_method_60_code 23 = .ok (.if_icmp .ge 47, 3) := zD (q := (23, .if_icmp .ge 47, 3)) tx_md_busiest_0 15 rfl
theorem d_md_busiest_26 : decode prog_10_method_60_code 26 = .ok (.aload_n 0, 1) := zD (q := (26, .aload_n 0, 1)) tx_md_busiest_0 16 rfl
theorem d_md_busiest_27 : decode prog_10_method_60_code 27 = .ok (.getfield 75, 3) := zD (q := (27, .getfield 75, 3)) tx_md_busiest_0 17 rfl
theorem d_md_busiest_30 : decode prog_10_method_60_code 30 = .ok (.iload 4, 2) := zD (q := (30, .iload 4, 2)) tx_md_busiest_0 18 rfl
theorem d_md_busiest_32 : decode prog_10_method_60_code 32 = .ok (.iaload, 1) := zD (q := (32, .iaload, 1)) tx_md_busiest_0 19 rfl
theorem d_md_busiest_33 : decode prog_10_method_60_code 33 = .ok (.bipush 20, 2) := zD (q := (33, .bipush 20, 2)) tx_md_busiest_0 20 rfl
theorem d_md_busiest_35 : decode prog_10_method_60_code 35 = .ok (.irem, 1) := zD (q := (35, .irem, 1)) tx_md_busiest_0 21 rfl
theorem d_md_busiest_36 : decode prog_10_method_60_code 36 = .ok (.iload_n 2, 1) := zD (q := (36, .iload_n 2, 1)) tx_md_busiest_0 22 rfl
theorem d_md_busiest_37 : decode prog_10_method_60_code 37 = .ok (.if_icmp .eq 19, 3) := zD (q := (37, .if_icmp .eq 19, 3)) tx_md_busiest_0 23 rfl
theorem d_md_busiest_40 : decode prog_10_method_60_code 40 = .ok (.aload_n 0, 1) := zD (q := (40, .aload_n 0, 1)) tx_md_busiest_0 24 rfl
theorem d_md_busiest_41 : decode prog_10_method_60_code 41 = .ok (.getfield 33, 3) := zD (q := (41, .getfield 33, 3)) tx_md_busiest_0 25 rfl
theorem d_md_busiest_44 : decode prog_10_method_60_code 44 = .ok (.aload_n 0, 1) := zD (q := (44, .aload_n 0, 1)) tx_md_busiest_0 26 rfl
theorem d_md_busiest_45 : decode prog_10_method_60_code 45 = .ok (.getfield 75, 3) := zD (q := (45, .getfield 75, 3)) tx_md_busiest_0 27 rfl
theorem d_md_busiest_48 : decode prog_10_method_60_code 48 = .ok (.iload 4, 2) := zD (q := (48, .iload 4, 2)) tx_md_busiest_0 28 rfl
theorem d_md_busiest_50 : decode prog_10_method_60_code 50 = .ok (.iaload, 1) := zD (q := (50, .iaload, 1)) tx_md_busiest_0 29 rfl
theorem d_md_busiest_51 : decode prog_10_method_60_code 51 = .ok (.iaload, 1) := zD (q := (51, .iaload, 1)) tx_md_busiest_0 30 rfl
theorem d_md_busiest_52 : decode prog_10_method_60_code 52 = .ok (.iload_n 2, 1) := zD (q := (52, .iload_n 2, 1)) tx_md_busiest_0 31 rfl
theorem d_md_busiest_53 : decode prog_10_method_60_code 53 = .ok (.if_icmp .ne 9, 3) := zD (q := (53, .if_icmp .ne 9, 3)) tx_md_busiest_0 32 rfl
theorem d_md_busiest_56 : decode prog_10_method_60_code 56 = .ok (.iload_n 3, 1) := zD (q := (56, .iload_n 3, 1)) tx_md_busiest_0 33 rfl
theorem d_md_busiest_57 : decode prog_10_method_60_code 57 = .ok (.iconst 1, 1) := zD (q := (57, .iconst 1, 1)) tx_md_busiest_0 34 rfl
theorem d_md_busiest_58 : decode prog_10_method_60_code 58 = .ok (.iadd, 1) := zD (q := (58, .iadd, 1)) tx_md_busiest_0 35 rfl
theorem d_md_busiest_59 : decode prog_10_method_60_code 59 = .ok (.goto 4, 3) := zD (q := (59, .goto 4, 3)) tx_md_busiest_0 36 rfl
theorem d_md_busiest_62 : decode prog_10_method_60_code 62 = .ok (.iload_n 3, 1) := zD (q := (62, .iload_n 3, 1)) tx_md_busiest_0 37 rfl
theorem d_md_busiest_63 : decode prog_10_method_60_code 63 = .ok (.istore_n 3, 1) := zD (q := (63, .istore_n 3, 1)) tx_md_busiest_0 38 rfl
theorem d_md_busiest_64 : decode prog_10_method_60_code 64 = .ok (.iinc 4 1, 3) := zD (q := (64, .iinc 4 1, 3)) tx_md_busiest_0 39 rfl
theorem d_md_busiest_67 : decode prog_10_method_60_code 67 = .ok (.goto (-50), 3) := zD (q := (67, .goto (-50), 3)) tx_md_busiest_0 40 rfl
theorem d_md_busiest_70 : decode prog_10_method_60_code 70 = .ok (.iload_n 3, 1) := zD (q := (70, .iload_n 3, 1)) tx_md_busiest_0 41 rfl
theorem d_md_busiest_71 : decode prog_10_method_60_code 71 = .ok (.iload_n 1, 1) := zD (q := (71, .iload_n 1, 1)) tx_md_busiest_0 42 rfl
theorem d_md_busiest_72 : decode prog_10_method_60_code 72 = .ok (.if_icmp .le 7, 3) := zD (q := (72, .if_icmp .le 7, 3)) tx_md_busiest_0 43 rfl
theorem d_md_busiest_75 : decode prog_10_method_60_code 75 = .ok (.iload_n 3, 1) := zD (q := (75, .iload_n 3, 1)) tx_md_busiest_0 44 rfl
theorem d_md_busiest_76 : decode prog_10_method_60_code 76 = .ok (.goto 4, 3) := zD (q := (76, .goto 4, 3)) tx_md_busiest_0 45 rfl
theorem d_md_busiest_79 : decode prog_10_method_60_code 79 = .ok (.iload_n 1, 1) := zD (q := (79, .iload_n 1, 1)) tx_md_busiest_0 46 rfl
theorem d_md_busiest_80 : decode prog_10_method_60_code 80 = .ok (.istore_n 1, 1) := zD (q := (80, .istore_n 1, 1)) tx_md_busiest_0 47 rfl
theorem d_md_busiest_81 : decode prog_10_method_60_code 81 = .ok (.iinc 2 1, 3) := zD (q := (81, .iinc 2 1, 3)) tx_md_busiest_0 48 rfl
theorem d_md_busiest_84 : decode prog_10_method_60_code 84 = .ok (.goto (-80), 3) := zD (q := (84, .goto (-80), 3)) tx_md_busiest_0 49 rfl
theorem d_md_busiest_87 : decode prog_10_method_60_code 87 = .ok (.iload_n 1, 1) := zD (q := (87, .iload_n 1, 1)) tx_md_busiest_0 50 rfl
theorem d_md_busiest_88 : decode prog_10_method_60_code 88 = .ok (.ireturn, 1) := zD (q := (88, .ireturn, 1)) tx_md_busiest_0 51 rfl
def T_md_put_0 : List (Nat × Instr × Nat) := [(0, .iconst 0, 1), (1, .istore_n 2, 1), (2, .aload_n 0, 1), (3, .getfield 78, 3), (6, .iconst 0, 1), (7, .iconst (-1), 1), (8, .iastore, 1), (9, .iload_n 2, 1), (10, .ifCond .lt 87, 3), (13, .iload_n 2, 1), (14, .aload_n 0, 1), (15, .getfield 226, 3), (18, .if_icmp .ge 79, 3), (21, .aload_n 0, 1), (22, .getfield 78, 3), (25, .iload_n 2, 1), (26, .dup2, 1), (27, .iaload, 1), (28, .iconst 1, 1), (29, .iadd, 1), (30, .iastore, 1), (31, .aload_n 0, 1), (32, .getfield 78, 3), (35, .iload_n 2, 1), (36, .iaload, 1), (37, .iload_n 1, 1), (38, .if_icmp .ge 30, 3), (41, .aload_n 0, 1), (42, .iload_n 2, 1), (43, .aload_n 0, 1), (44, .getfield 78, 3), (47, .iload_n 2, 1), (48, .iaload, 1), (49, .invokevirtual 235, 3), (52, .ifCond .ne 16, 3), (55, .aload_n 0, 1), (56, .getfield 78, 3), (59, .iload_n 2, 1), (60, .dup2, 1), (61, .iaload, 1), (62, .iconst 1, 1), (63, .iadd, 1), (64, .iastore, 1), (65, .goto (-34), 3), (68, .aload_n 0, 1), (69, .getfield 78, 3), (72, .iload_n 2, 1), (73, .iaload, 1), (74, .iload_n 1, 1), (75, .if_icmp .ge 16, 3), (78, .iinc 2 1, 3), (81, .aload_n 0, 1), (82, .getfield 78, 3), (85, .iload_n 2, 1), (86, .iconst (-1), 1), (87, .iastore, 1), (88, .goto (-79), 3), (91, .iinc 2 (-1), 3), (94, .goto (-85), 3), (97, .iload_n 2, 1)]
theorem tx_md_put_0 : zdec prog_10_method_61_code T_md_put_0 = true := by decide +kernel
theorem d_md_put_0 : decode prog_10_method_61_code 0 = .ok (.iconst 0, 1) := zD (q := (0, .iconst 0, 1)) tx_md_put_0 0 rfl
theorem d_md_put_1 : decode prog_10_method_61_code 1 = .ok (.istore_n 2, 1) := zD (q := (1, .istore_n 2, 1)) tx_md_put_0 1 rfl
theorem d_md_put_2 : decode prog_10_method_61_code 2 = .ok (.aload_n 0, 1) := zD (q := (2, .aload_n 0, 1)) tx_md_put_0 2 rfl
theorem d_md_put_3 : decode prog_10_method_61_code 3 = .ok (.getfield 78, 3) := zD (q := (3, .getfield 78, 3)) tx_md_put_0 3 rfl
theorem d_md_put_6 : decode prog_10_method_61_code 6 = .ok (.iconst 0, 1) := zD (q := (6, .iconst 0, 1)) tx_md_put_0 4 rfl
theorem d_md_put_7 : decode prog_10_method_61_code 7 = .ok (.iconst (-1), 1) := zD (q := (7, .iconst (-1), 1)) tx_md_put_0 5 rfl
theorem d_md_put_8 : decode prog_10_method_61_code 8 = .ok (.iastore, 1) := zD (q := (8, .iastore, 1)) tx_md_put_0 6 rfl
theorem d_md_put_9 : decode prog_10_method_61_code 9 = .ok (.iload_n 2, 1) := zD (q := (9, .iload_n 2, 1)) tx_md_put_0 7 rfl
theorem d_md_put_10 : decode prog_10_method_61_code 10 = .ok (.ifCond .lt 87, 3) := zD (q := (10, .ifCond .lt 87, 3)) tx_md_put_0 8 rfl
theorem d_md_put_13 : decode prog_10_method_61_code 13 = .ok (.iload_n 2, 1) := zD (q := (13, .iload_n 2, 1)) tx_md_put_0 9 rfl
theorem d_md_put_14 : decode prog_10_method_61_code 14 = .ok (.aload_n 0, 1) := zD (q := (14, .aload_n 0, 1)) tx_md_put_0 10 rfl
theorem d_md_put_15 : decode prog_10_method_61_code 15 = .ok (.getfield 226, 3) := zD (q := (15, .getfield 226, 3)) tx_md_put_0 11 rfl
theorem d_md_put_18 : decode prog_10_method_61_code 18 = .ok (.if_icmp .ge 79, 3) := zD (q := (18, .if_icmp .ge 79, 3)) tx_md_put_0 12 rfl
theorem d_md_put_21 : decode prog_10_method_61_code 21 = .ok (.aload_n 0, 1) := zD (q := (21, .aload_n 0, 1)) tx_md_put_0 13 rfl
theorem d_md_put_22 : decode prog_10_method_61_code 22 = .ok (.getfield 78, 3) := zD (q := (22, .getfield 78, 3)) tx_md_put_0 14 rfl
theorem d_md_put_25 : decode prog_10_method_61_code 25 = .ok (.iload_n 2, 1) := zD (q := (25, .iload_n 2, 1)) tx_md_put_0 15 rfl
theorem d_md_put_26 : decode prog_10_method_61_code 26 = .ok (.dup2, 1) := zD (q := (26, .dup2, 1)) tx_md_put_0 16 rfl
theorem d_md_put_27 : decode prog_10_method_61_code 27 = .ok (.iaload, 1) := zD (q := (27, .iaload, 1)) tx_md_put_0 17 rfl
theorem d_md_put_28 : decode prog_10_method_61_code 28 = .ok (.iconst 1, 1) := zD (q := (28, .iconst 1, 1)) tx_md_put_0 18 rfl
theorem d_md_put_29 : decode prog_10_method_61_code 29 = .ok (.iadd, 1) := zD (q := (29, .iadd, 1)) tx_md_put_0 19 rfl
theorem d_md_put_30 : decode prog_10_method_61_code 30 = .ok (.iastore, 1) := zD (q := (30, .iastore, 1)) tx_md_put_0 20 rfl
theorem d_md_put_31 : decode prog_10_method_61_code 31 = .ok (.aload_n 0, 1) := zD (q := (31, .aload_n 0, 1)) tx_md_put_0 21 rfl
theorem d_md_put_32 : decode prog_10_method_61_code 32 = .ok (.getfield 78, 3) := zD (q := (32, .getfield 78, 3)) tx_md_put_0 22 rfl
theorem d_md_put_35 : decode prog_10_method_61_code 35 = .ok (.iload_n 2, 1) := zD (q := (35, .iload_n 2, 1)) tx_md_put_0 23 rfl
theorem d_md_put_36 : decode prog_10_method_61_code 36 = .ok (.iaload, 1) := zD (q := (36, .iaload, 1)) tx_md_put_0 24 rfl
theorem d_md_put_37 : decode prog_10_method_61_code 37 = .ok (.iload_n 1, 1) := zD (q := (37, .iload_n 1, 1)) tx_md_put_0 25 rfl
theorem d_md_put_38 : decode prog_10_method_61_code 38 = .ok (.if_icmp .ge 30, 3) := zD (q := (38, .if_icmp .ge 30, 3)) tx_md_put_0 26 rfl
theorem d_md_put_41 : decode prog_10_method_61_code 41 = .ok (.aload_n 0, 1) := zD (q := (41, .aload_n 0, 1)) tx_md_put_0 27 rfl
theorem d_md_put_42 : decode prog_10_method_61_code 42 = .ok (.iload_n 2, 1) := zD (q := (42, .iload_n 2, 1)) tx_md_put_0 28 rfl
theorem d_md_put_43 : decode prog_10_method_61_code 43 = .ok (.aload_n 0, 1) := zD (q := (43, .aload_n 0, 1)) tx_md_put_0 29 rfl
theorem d_md_put_44 : decode prog_10_method_61_code 44 = .ok (.getfield 78, 3) := zD (q := (44, .getfield 78, 3)) tx_md_put_0 30 rfl
theorem d_md_put_47 : decode prog_10_method_61_code 47 = .ok (.iload_n 2, 1) := zD (q := (47, .iload_n 2, 1)) tx_md_put_0 31 rfl
theorem d_md_put_48 : decode prog_10_method_61_code 48 = .ok (.iaload, 1) := zD (q := (48, .iaload, 1)) tx_md_put_0 32 rfl
theorem d_md_put_49 : decode prog_10_method_61_code 49 = .ok (.invokevirtual 235, 3) := zD (q := (49, .invokevirtual 235, 3)) tx_md_put_0 33 rfl
theorem d_md_put_52 : decode prog_10_method_61_code 52 = .ok (.ifCond .ne 16, 3) := zD (q := (52, .ifCond .ne 16, 3)) tx_md_put_0 34 rfl
theorem d_md_put_55 : decode prog_10_method_61_code 55 = .ok (.aload_n 0, 1) := zD (q := (55, .aload_n 0, 1)) tx_md_put_0 35 rfl
theorem d_md_put_56 : decode prog_10_method_61_code 56 = .ok (.getfield 78, 3) := zD (q := (56, .getfield 78, 3)) tx_md_put_0 36 rfl
theorem d_md_put_59 : decode prog_10_method_61_code 59 = .ok (.iload_n 2, 1) := zD (q := (59, .iload_n 2, 1)) tx_md_put_0 37 rfl
theorem d_md_put_60 : decode prog_10_method_61_code 60 = .ok (.dup2, 1) := zD (q := (60, .dup2, 1)) tx_md_put_0 38 rfl
theorem d_md_put_61 : decode prog_10_method_61_code 61 = .ok (.iaload, 1) := zD (q := (61, .iaload, 1)) tx_md_put_0 39 rfl
theorem d_md_put_62 : decode prog_10_method_61_code 62 = .ok (.iconst 1, 1) := zD (q := (62, .iconst 1, 1)) tx_md_put_0 40 rfl
theorem d_md_put_63 : decode prog_10_method_61_code 63 = .ok (.iadd, 1) := zD (q := (63, .iadd, 1)) tx_md_put_0 41 rfl
theorem d_md_put_64 : decode prog_10_method_61_code 64 = .ok (.iastore, 1) := zD (q := (64, .iastore, 1)) tx_md_put_0 42 rfl
theorem d_md_put_65 : decode prog_10_method_61_code 65 = .ok (.goto (-34), 3) := zD (q := (65, .goto (-34), 3)) tx_md_put_0 43 rfl
theorem d_md_put_68 : decode prog_10_method_61_code 68 = .ok (.aload_n 0, 1) := zD (q := (68, .aload_n 0, 1)) tx_md_put_0 44 rfl
theorem d_md_put_69 : decode prog_10_method_61_code 69 = .ok (.getfield 78, 3) := zD (q := (69, .getfield 78, 3)) tx_md_put_0 45 rfl
theorem d_md_put_72 : decode prog_10_method_61_code 72 = .ok (.iload_n 2, 1) := zD (q := (72, .iload_n 2, 1)) tx_md_put_0 46 rfl
theorem d_md_put_73 : decode prog_10_method_61_code 73 = .ok (.iaload, 1) := zD (q := (73, .iaload, 1)) tx_md_put_0 47 rfl
theorem d_md_put_74 : decode prog_10_method_61_code 74 = .ok (.iload_n 1, 1) := zD (q := (74, .iload_n 1, 1)) tx_md_put_0 48 rfl
theorem d_md_put_75 : decode prog_10_method_61_code 75 = .ok (.if_icmp .ge 16, 3) := zD (q := (75, .if_icmp .ge 16, 3)) tx_md_put_0 49 rfl
theorem d_md_put_78 : decode prog_10_method_61_code 78 = .ok (.iinc 2 1, 3) := zD (q := (78, .iinc 2 1, 3)) tx_md_put_0 50 rfl
theorem d_md_put_81 : decode prog_10_method_61_code 81 = .ok (.aload_n 0, 1) := zD (q := (81, .aload_n 0, 1)) tx_md_put_0 51 rfl
theorem d_md_put_82 : decode prog_10_method_61_code 82 = .ok (.getfield 78, 3) := zD (q := (82, .getfield 78, 3)) tx_md_put_0 52 rfl
theorem d_md_put_85 : decode prog_10_method_61_code 85 = .ok (.iload_n 2, 1) := zD (q := (85, .iload_n 2, 1)) tx_md_put_0 53 rfl
theorem d_md_put_86 : decode prog_10_method_61_code 86 = .ok (.iconst (-1), 1) := zD (q := (86, .iconst (-1), 1)) tx_md_put_0 54 rfl
theorem d_md_put_87 : decode prog_10_method_61_code 87 = .ok (.iastore, 1) := zD (q := (87, .iastore, 1)) tx_md_put_0 55 rfl
theorem d_md_put_88 : decode prog_10_method_61_code 88 = .ok (.goto (-79), 3) := zD (q := (88, .goto (-79), 3)) tx_md_put_0 56 rfl
theorem d_md_put_91 : decode prog_10_method_61_code 91 = .ok (.iinc 2 (-1), 3) := zD (q := (91, .iinc 2 (-1), 3)) tx_md_put_0 57 rfl
theorem d_md_put_94 : decode prog_10_method_61_code 94 = .ok (.goto (-85), 3) := zD (q := (94, .goto (-85), 3)) tx_md_put_0 58 rfl
theorem d_md_put_97 : decode prog_10_method_61_code 97 = .ok (.iload_n 2, 1) := zD (q := (97, .iload_n 2, 1)) tx_md_put_0 59 rfl
def T_md_put_1 : List (Nat × Instr × Nat) := [(98, .aload_n 0, 1), (99, .getfield 226, 3), (102, .if_icmp .ne 7, 3), (105, .iconst 1, 1), (106, .goto 4, 3), (109, .iconst 0, 1), (110, .ireturn, 1)]
theorem tx_md_put_1 : zdec prog_10_method_61_code T_md_put_1 = true := by decide +kernel
theorem d_md_put_98 : decode prog_10_method_61_code 98 = .ok (.aload_n 0, 1) := zD (q := (98, .aload_n 0, 1)) tx_md_put_1 0 rfl
theorem d_md_put_99 : decode prog_10_method_61_code 99 = .ok (.getfield 226, 3) := zD (q := (99, .getfield 226, 3)) tx_md_put_1 1 rfl
theorem d_md_put_102 : decode prog_10_method_61_code 102 = .ok (.if_icmp .ne 7, 3) := zD (q := (102, .if_icmp .ne 7, 3)) tx_md_put_1 2 rfl
theorem d_md_put_105 : decode prog_10_method_61_code 105 = .ok (.iconst 1, 1) := zD (q := (105, .iconst 1, 1)) tx_md_put_1 3 rfl
theorem d_md_put_106 : decode prog_10_method_61_code 106 = .ok (.goto 4, 3) := zD (q := (106, .goto 4, 3)) tx_md_put_1 4 rfl
theorem d_md_put_109 : decode prog_10_method_61_code 109 = .ok (.iconst 0, 1) := zD (q := (109, .iconst 0, 1)) tx_md_put_1 5 rfl
theorem d_md_put_110 : decode prog_10_method_61_code 110 = .ok (.ireturn, 1) := zD (q := (110, .ireturn, 1)) tx_md_put_1 6 rfl
def T_md_isClear_0 : List (Nat × Instr × Nat) := [(0, .iconst 1, 1), (1, .istore_n 3, 1), (2, .iconst 0, 1), (3, .istore 4, 2), (5, .iload 4, 2), (7, .iload_n 1, 1), (8, .if_icmp .ge 40, 3), (11, .iload_n 3, 1), (12, .ifCond .eq 28, 3), (15, .aload_n 0, 1), (16, .getfield 78, 3), (19, .iload 4, 2), (21, .iaload, 1), (22, .iload_n 2, 1), (23, .if_icmp .ne 13, 3), (26, .aload_n 0, 1), (27, .iload_n 1, 1), (28, .iload 4, 2), (30, .invokevirtual 232, 3), (33, .ifCond .ne 7, 3), (36, .iconst 1, 1), (37, .goto 4, 3), (40, .iconst 0, 1), (41, .istore_n 3, 1), (42, .iinc 4 1, 3), (45, .goto (-40), 3), (48, .iload_n 3, 1), (49, .ireturn, 1)]
theorem tx_md_isClear_0 : zdec prog_10_method_59_code T_md_isClear_0 = true := by decide +kernel
theorem d_md_isClear_0 : decode prog_10_method_59_code 0 = .ok (.iconst 1, 1) := zD (q := (0, .iconst 1, 1)) tx_md_isClear_0 0 rfl
theorem d_md_isClear_1 : decode prog_10_method_59_code 1 = .ok (.istore_n 3, 1) := zD (q := (1, .istore_n 3, 1)) tx_md_isClear_0 1 rfl
theorem d_md_isClear_2 : decode prog_10_method_59_code 2 = .ok (.iconst 0, 1) := zD (q := (2, .iconst 0, 1)) tx_md_isClear_0 2 rfl
theorem d_md_isClear_3 : decode prog_10_method_59_code 3 = .ok (.istore 4, 2) := zD (q := (3, .istore 4, 2)) tx_md_isClear_0 3 rfl
theorem d_md_isClear_5 : decode prog_10_method_59_code 5 = .ok (.iload 4, 2) := zD (q := (5, .iload 4, 2)) tx_md_isClear_0 4 rfl
theorem d_md_isClear_7 : decode prog_10_method_59_code 7 = .ok (.iload_n 1, 1) := zD (q := (7, .iload_n 1, 1)) tx_md_isClear_0 5 rfl
theorem d_md_isClear_8 : decode prog_10_method_59_code 8 = .ok (.if_icmp .ge 40, 3) := zD (q := (8, .if_icmp .ge 40, 3)) tx_md_isClear_0 6 rfl
theorem d_md_isClear_11 : decode prog_10_method_59_code 11 = .ok (.iload_n 3, 1) := zD (q := (11, .iload_n 3, 1)) tx_md_isClear_0 7 rfl
theorem d_md_isClear_12 : decode prog_10_method_59_code 12 = .ok (.ifCond .eq 28, 3) := zD (q := (12, .ifCond .eq 28, 3)) tx_md_isClear_0 8 rfl
theorem d_md_isClear_15 : decode prog_10_method_59_code 15 = .ok (.aload_n 0, 1) := zD (q := (15, .aload_n 0, 1)) tx_md_isClear_0 9 rfl
theorem d_md_isClear_16 : decode prog_10_method_59_code 16 = .ok (.getfield 78, 3) := zD (q := (16, .getfield 78, 3)) tx_md_isClear_0 10 rfl
theorem d_md_isClear_19 : decode prog_10_method_59_code 19 = .ok (.iload 4, 2) := zD (q := (19, .iload 4, 2)) tx_md_isClear_0 11 rfl
theorem d_md_isClear_21 : decode prog_10_method_59_code 21 = .ok (.iaload, 1) := zD (q := (21, .iaload, 1)) tx_md_isClear_0 12 rfl
theorem d_md_isClear_22 : decode prog_10_method_59_code 22 = .ok (.iload_n 2, 1) := zD (q := (22, .iload_n 2, 1)) tx_md_isClear_0 13 rfl
theorem d_md_isClear_23 : decode prog_10_method_59_code 23 = .ok (.if_icmp .ne 13, 3) := zD (q := (23, .if_icmp .ne 13, 3)) tx_md_isClear_0 14 rfl
theorem d_md_isClear_26 : decode prog_10_method_59_code 26 = .ok (.aload_n 0, 1) := zD (q := (26, .aload_n 0, 1)) tx_md_isClear_0 15 rfl
theorem d_md_isClear_27 : decode prog_10_method_59_code 27 = .ok (.iload_n 1, 1) := zD (q := (27, .iload_n 1, 1)) tx_md_isClear_0 16 rfl
theorem d_md_isClear_28 : decode prog_10_method_59_code 28 = .ok (.iload 4, 2) := zD (q := (28, .iload 4, 2)) tx_md_isClear_0 17 rfl
theorem d_md_isClear_30 : decode prog_10_method_59_code 30 = .ok (.invokevirtual 232, 3) := zD (q := (30, .invokevirtual 232, 3)) tx_md_isClear_0 18 rfl
theorem d_md_isClear_33 : decode prog_10_method_59_code 33 = .ok (.ifCond .ne 7, 3) := zD (q := (33, .ifCond .ne 7, 3)) tx_md_isClear_0 19 rfl
theorem d_md_isClear_36 : decode prog_10_method_59_code 36 = .ok (.iconst 1, 1) := zD (q := (36, .iconst 1, 1)) tx_md_isClear_0 20 rfl
theorem d_md_isClear_37 : decode prog_10_method_59_code 37 = .ok (.goto 4, 3) := zD (q := (37, .goto 4, 3)) tx_md_isClear_0 21 rfl
theorem d_md_isClear_40 : decode prog_10_method_59_code 40 = .ok (.iconst 0, 1) := zD (q := (40, .iconst 0, 1)) tx_md_isClear_0 22 rfl
theorem d_md_isClear_41 : decode prog_10_method_59_code 41 = .ok (.istore_n 3, 1) := zD (q := (41, .istore_n 3, 1)) tx_md_isClear_0 23 rfl
theorem d_md_isClear_42 : decode prog_10_method_59_code 42 = .ok (.iinc 4 1, 3) := zD (q := (42, .iinc 4 1, 3)) tx_md_isClear_0 24 rfl
theorem d_md_isClear_45 : decode prog_10_method_59_code 45 = .ok (.goto (-40), 3) := zD (q := (45, .goto (-40), 3)) tx_md_isClear_0 25 rfl
theorem d_md_isClear_48 : decode prog_10_method_59_code 48 = .ok (.iload_n 3, 1) := zD (q := (48, .iload_n 3, 1)) tx_md_isClear_0 26 rfl
theorem d_md_isClear_49 : decode prog_10_method_59_code 49 = .ok (.ireturn, 1) := zD (q := (49, .ireturn, 1)) tx_md_isClear_0 27 rfl
def T_md_meet_0 : List (Nat × Instr × Nat) := [(0, .aload_n 0, 1), (1, .getfield 75, 3), (4, .iload_n 1, 1), (5, .iaload, 1), (6, .bipush 20, 2), (8, .irem, 1), (9, .istore_n 3, 1), (10, .aload_n 0, 1), (11, .getfield 33, 3), (14, .aload_n 0, 1), (15, .getfield 75, 3), (18, .iload_n 1, 1), (19, .iaload, 1), (20, .iaload, 1), (21, .istore 4, 2), (23, .aload_n 0, 1), (24, .getfield 75, 3), (27, .iload_n 2, 1), (28, .iaload, 1), (29, .bipush 20, 2), (31, .irem, 1), (32, .istore 5, 2), (34, .aload_n 0, 1), (35, .getfield 33, 3), (38, .aload_n 0, 1), (39, .getfield 75, 3), (42, .iload_n 2, 1), (43, .iaload, 1), (44, .iaload, 1), (45, .istore 6, 2), (47, .iload_n 3, 1), (48, .iload 5, 2), (50, .if_icmp .eq 23, 3), (53, .iload_n 3, 1), (54, .iload 6, 2), (56, .if_icmp .eq 17, 3), (59, .iload 4, 2), (61, .iload 5, 2), (63, .if_icmp .eq 10, 3), (66, .iload 4, 2), (68, .iload 6, 2), (70, .if_icmp .ne 7, 3), (73, .iconst 1, 1), (74, .goto 4, 3), (77, .iconst 0, 1), (78, .ireturn, 1)]
theorem tx_md_meet_0 : zdec prog_10_method_58_code T_md_meet_0 = true := by decide +kernel
theorem d_md_meet_0 : decode prog_10_method_58_code 0 = .ok (.aload_n 0, 1) := zD (q := (0, .aload_n 0, 1)) tx_md_meet_0 0 rfl
theorem d_md_meet_1 : decode prog_10_method_58_code 1 = .ok (.getfield 75, 3) := zD (q := (1, .getfield 75, 3)) tx_md_meet_0 1 rfl
theorem d_md_meet_4 : decode prog_10_method_58_code 4 = .ok (.iload_n 1, 1) := zD (q := (4, .iload_n 1, 1)) tx_md_meet_0 2 rfl
theorem d_md_meet_5 : decode prog_10_method_58_code 5 = .ok (.iaload, 1) := zD (q := (5, .iaload, 1)) tx_md_meet_0 3 rfl
theorem d_md_meet_6 : decode prog_10_method_58_code 6 = .ok (.bipush 20, 2) := zD (q := (6, .bipush 20, 2)) tx_md_meet_0 4 rfl
theorem d_md_meet_8 : decode prog_10_method_58_code 8 = .ok (.irem, 1) := zD (q := (8, .irem, 1)) tx_md_meet_0 5 rfl
theorem d_md_meet_9 : decode prog_10_method_58_code 9 = .ok (.istore_n 3, 1) := zD (q := (9, .istore_n 3, 1)) tx_md_meet_0 6 rfl
theorem d_md_meet_10 : decode prog_10_method_58_code 10 = .ok (.aload_n 0, 1) := zD (q := (10, .aload_n 0, 1)) tx_md_meet_0 7 rfl
theorem d_md_meet_11 : decode prog_10_method_58_code 11 = .ok (.getfield 33, 3) := zD (q := (11, .getfield 33, 3)) tx_md_meet_0 8 rfl
theorem d_md_meet_14 : decode prog_10_method_58_code 14 = .ok (.aload_n 0, 1) := zD (q := (14, .aload_n 0, 1)) tx_md_meet_0 9 rfl
theorem d_md_meet_15 : decode prog_10_method_58_code 15 = .ok (.getfield 75, 3) := zD (q := (15, .getfield 75, 3)) tx_md_meet_0 10 rfl
theorem d_md_meet_18 : decode prog_10_method_58_code 18 = .ok (.iload_n 1, 1) := zD (q := (18, .iload_n 1, 1)) tx_md_meet_0 11 rfl
theorem d_md_meet_19 : decode prog_10_method_58_code 19 = .ok (.iaload, 1) := zD (q := (19, .iaload, 1)) tx_md_meet_0 12 rfl
theorem d_md_meet_20 : decode prog_10_method_58_code 20 = .ok (.iaload, 1) := zD (q := (20, .iaload, 1)) tx_md_meet_0 13 rfl
theorem d_md_meet_21 : decode prog_10_method_58_code 21 = .ok (.istore 4, 2) := zD (q := (21, .istore 4, 2)) tx_md_meet_0 14 rfl
theorem d_md_meet_23 : decode prog_10_method_58_code 23 = .ok (.aload_n 0, 1) := zD (q := (23, .aload_n 0, 1)) tx_md_meet_0 15 rfl
theorem d_md_meet_24 : decode prog_10_method_58_code 24 = .ok (.getfield 75, 3) := zD (q := (24, .getfield 75, 3)) tx_md_meet_0 16 rfl
theorem d_md_meet_27 : decode prog_10_method_58_code 27 = .ok (.iload_n 2, 1) := zD (q := (27, .iload_n 2, 1)) tx_md_meet_0 17 rfl
theorem d_md_meet_28 : decode prog_10_method_58_code 28 = .ok (.iaload, 1) := zD (q := (28, .iaload, 1)) tx_md_meet_0 18 rfl
theorem d_md_meet_29 : decode prog_10_method_58_code 29 = .ok (.bipush 20, 2) := zD (q := (29, .bipush 20, 2)) tx_md_meet_0 19 rfl
theorem d_md_meet_31 : decode prog_10_method_58_code 31 = .ok (.irem, 1) := zD (q := (31, .irem, 1)) tx_md_meet_0 20 rfl
theorem d_md_meet_32 : decode prog_10_method_58_code 32 = .ok (.istore 5, 2) := zD (q := (32, .istore 5, 2)) tx_md_meet_0 21 rfl
theorem d_md_meet_34 : decode prog_10_method_58_code 34 = .ok (.aload_n 0, 1) := zD (q := (34, .aload_n 0, 1)) tx_md_meet_0 22 rfl
theorem d_md_meet_35 : decode prog_10_method_58_code 35 = .ok (.getfield 33, 3) := zD (q := (35, .getfield 33, 3)) tx_md_meet_0 23 rfl
theorem d_md_meet_38 : decode prog_10_method_58_code 38 = .ok (.aload_n 0, 1) := zD (q := (38, .aload_n 0, 1)) tx_md_meet_0 24 rfl
theorem d_md_meet_39 : decode prog_10_method_58_code 39 = .ok (.getfield 75, 3) := zD (q := (39, .getfield 75, 3)) tx_md_meet_0 25 rfl
theorem d_md_meet_42 : decode prog_10_method_58_code 42 = .ok (.iload_n 2, 1) := zD (q := (42, .iload_n 2, 1)) tx_md_meet_0 26 rfl
theorem d_md_meet_43 : decode prog_10_method_58_code 43 = .ok (.iaload, 1) := zD (q := (43, .iaload, 1)) tx_md_meet_0 27 rfl
theorem d_md_meet_44 : decode prog_10_method_58_code 44 = .ok (.iaload, 1) := zD (q := (44, .iaload, 1)) tx_md_meet_0 28 rfl
theorem d_md_meet_45 : decode prog_10_method_58_code 45 = .ok (.istore 6, 2) := zD (q := (45, .istore 6, 2)) tx_md_meet_0 29 rfl
theorem d_md_meet_47 : decode prog_10_method_58_code 47 = .ok (.iload_n 3, 1) := zD (q := (47, .iload_n 3, 1)) tx_md_meet_0 30 rfl
theorem d_md_meet_48 : decode prog_10_method_58_code 48 = .ok (.iload 5, 2) := zD (q := (48, .iload 5, 2)) tx_md_meet_0 31 rfl
theorem d_md_meet_50 : decode prog_10_method_58_code 50 = .ok (.if_icmp .eq 23, 3) := zD (q := (50, .if_icmp .eq 23, 3)) tx_md_meet_0 32 rfl
theorem d_md_meet_53 : decode prog_10_method_58_code 53 = .ok (.iload_n 3, 1) := zD (q := (53, .iload_n 3, 1)) tx_md_meet_0 33 rfl
theorem d_md_meet_54 : decode prog_10_method_58_code 54 = .ok (.iload 6, 2) := zD (q := (54, .iload 6, 2)) tx_md_meet_0 34 rfl
theorem d_md_meet_56 : decode prog_10_method_58_code 56 = .ok (.if_icmp .eq 17, 3) := zD (q := (56, .if_icmp .eq 17, 3)) tx_md_meet_0 35 rfl
theorem d_md_meet_59 : decode prog_10_method_58_code 59 = .ok (.iload 4, 2) := zD (q := (59, .iload 4, 2)) tx_md_meet_0 36 rfl
theorem d_md_meet_61 : decode prog_10_method_58_code 61 = .ok (.iload 5, 2) := zD (q := (61, .iload 5, 2)) tx_md_meet_0 37 rfl
theorem d_md_meet_63 : decode prog_10_method_58_code 63 = .ok (.if_icmp .eq 10, 3) := zD (q := (63, .if_icmp .eq 10, 3)) tx_md_meet_0 38 rfl
theorem d_md_meet_66 : decode prog_10_method_58_code 66 = .ok (.iload 4, 2) := zD (q := (66, .iload 4, 2)) tx_md_meet_0 39 rfl
theorem d_md_meet_68 : decode prog_10_method_58_code 68 = .ok (.iload 6, 2) := zD (q := (68, .iload 6, 2)) tx_md_meet_0 40 rfl
theorem d_md_meet_70 : decode prog_10_method_58_code 70 = .ok (.if_icmp .ne 7, 3) := zD (q := (70, .if_icmp .ne 7, 3)) tx_md_meet_0 41 rfl
theorem d_md_meet_73 : decode prog_10_method_58_code 73 = .ok (.iconst 1, 1) := zD (q := (73, .iconst 1, 1)) tx_md_meet_0 42 rfl
theorem d_md_meet_74 : decode prog_10_method_58_code 74 = .ok (.goto 4, 3) := zD (q := (74, .goto 4, 3)) tx_md_meet_0 43 rfl
theorem d_md_meet_77 : decode prog_10_method_58_code 77 = .ok (.iconst 0, 1) := zD (q := (77, .iconst 0, 1)) tx_md_meet_0 44 rfl
theorem d_md_meet_78 : decode prog_10_method_58_code 78 = .ok (.ireturn, 1) := zD (q := (78, .ireturn, 1)) tx_md_meet_0 45 rfl
def T_md_catchDate_0 : List (Nat × Instr × Nat) := [(0, .aload_n 0, 1), (1, .iload_n 1, 1), (2, .invokevirtual 182, 3), (5, .ifCond .eq 15, 3), (8, .aload_n 0, 1), (9, .iload_n 2, 1), (10, .invokevirtual 119, 3), (13, .ifCond .eq 7, 3), (16, .iconst 1, 1), (17, .goto 4, 3), (20, .iconst 0, 1), (21, .istore_n 3, 1), (22, .aload_n 0, 1), (23, .iload_n 3, 1), (24, .ifCond .ne 7, 3), (27, .iconst 1, 1), (28, .goto 4, 3), (31, .iconst 0, 1), (32, .iload_n 3, 1), (33, .ifCond .eq 17, 3), (36, .aload_n 0, 1), (37, .iload_n 2, 1), (38, .iload_n 1, 1), (39, .invokevirtual 185, 3), (42, .iconst 1, 1), (43, .if_icmp .eq 7, 3), (46, .iconst 1, 1), (47, .goto 4, 3), (50, .iconst 0, 1), (51, .iconst 0, 1), (52, .iconst 0, 1), (53, .invokevirtual 100, 3), (56, .ifCond .eq 5, 3), (59, .iconst 0, 1), (60, .ireturn, 1), (61, .aload_n 0, 1), (62, .getfield 51, 3), (65, .bipush 20, 2), (67, .iload_n 1, 1), (68, .imul, 1), (69, .iload_n 2, 1), (70, .iadd, 1), (71, .iaload, 1), (72, .ireturn, 1)]
theorem tx_md_catchDate_0 : zdec prog_10_method_63_code T_md_catchDate_0 = true := by decide +kernel
theorem d_md_catchDate_0 : decode prog_10_method_63_code 0 = .ok (.aload_n 0, 1) := zD (q := (0, .aload_n 0, 1)) tx_md_catchDate_0 0 rfl
theorem d_md_catchDate_1 : decode prog_10_method_63_code 1 = .ok (.iload_n 1, 1) := zD (q := (1, .iload_n 1, 1)) tx_md_catchDate_0 1 rfl
theorem d_md_catchDate_2 : decode prog_10_method_63_code 2 = .ok (.invokevirtual 182, 3) := zD (q := (2, .invokevirtual 182, 3)) tx_md_catchDate_0 2 rfl
theorem d_md_catchDate_5 : decode prog_10_method_63_code 5 = .ok (.ifCond .eq 15, 3) := zD (q := (5, .ifCond .eq 15, 3)) tx_md_catchDate_0 3 rfl
theorem d_md_catchDate_8 : decode prog_10_method_63_code 8 = .ok (.aload_n 0, 1) := zD (q := (8, .aload_n 0, 1)) tx_md_catchDate_0 4 rfl
theorem d_md_catchDate_9 : decode prog_10_method_63_code 9 = .ok (.iload_n 2, 1) := zD (q := (9, .iload_n 2, 1)) tx_md_catchDate_0 5 rfl
theorem d_md_catchDate_10 : decode prog_10_method_63_code 10 = .ok (.invokevirtual 119, 3) := zD (q := (10, .invokevirtual 119, 3)) tx_md_catchDate_0 6 rfl
theorem d_md_catchDate_13 : decode prog_10_method_63_code 13 = .ok (.ifCond .eq 7, 3) := zD (q := (13, .ifCond .eq 7, 3)) tx_md_catchDate_0 7 rfl
theorem d_md_catchDate_16 : decode prog_10_method_63_code 16 = .ok (.iconst 1, 1) := zD (q := (16, .iconst 1, 1)) tx_md_catchDate_0 8 rfl
theorem d_md_catchDate_17 : decode prog_10_method_63_code 17 = .ok (.goto 4, 3) := zD (q := (17, .goto 4, 3)) tx_md_catchDate_0 9 rfl
theorem d_md_catchDate_20 : decode prog_10_method_63_code 20 = .ok (.iconst 0, 1) := zD (q := (20, .iconst 0, 1)) tx_md_catchDate_0 10 rfl
theorem d_md_catchDate_21 : decode prog_10_method_63_code 21 = .ok (.istore_n 3, 1) := zD (q := (21, .istore_n 3, 1)) tx_md_catchDate_0 11 rfl
theorem d_md_catchDate_22 : decode prog_10_method_63_code 22 = .ok (.aload_n 0, 1) := zD (q := (22, .aload_n 0, 1)) tx_md_catchDate_0 12 rfl
theorem d_md_catchDate_23 : decode prog_10_method_63_code 23 = .ok (.iload_n 3, 1) := zD (q := (23, .iload_n 3, 1)) tx_md_catchDate_0 13 rfl
theorem d_md_catchDate_24 : decode prog_10_method_63_code 24 = .ok (.ifCond .ne 7, 3) := zD (q := (24, .ifCond .ne 7, 3)) tx_md_catchDate_0 14 rfl
theorem d_md_catchDate_27 : decode prog_10_method_63_code 27 = .ok (.iconst 1, 1) := zD (q := (27, .iconst 1, 1)) tx_md_catchDate_0 15 rfl
theorem d_md_catchDate_28 : decode prog_10_method_63_code 28 = .ok (.goto 4, 3) := zD (q := (28, .goto 4, 3)) tx_md_catchDate_0 16 rfl
theorem d_md_catchDate_31 : decode prog_10_method_63_code 31 = .ok (.iconst 0, 1) := zD (q := (31, .iconst 0, 1)) tx_md_catchDate_0 17 rfl
theorem d_md_catchDate_32 : decode prog_10_method_63_code 32 = .ok (.iload_n 3, 1) := zD (q := (32, .iload_n 3, 1)) tx_md_catchDate_0 18 rfl
theorem d_md_catchDate_33 : decode prog_10_method_63_code 33 = .ok (.ifCond .eq 17, 3) := zD (q := (33, .ifCond .eq 17, 3)) tx_md_catchDate_0 19 rfl
theorem d_md_catchDate_36 : decode prog_10_method_63_code 36 = .ok (.aload_n 0, 1) := zD (q := (36, .aload_n 0, 1)) tx_md_catchDate_0 20 rfl
theorem d_md_catchDate_37 : decode prog_10_method_63_code 37 = .ok (.iload_n 2, 1) := zD (q := (37, .iload_n 2, 1)) tx_md_catchDate_0 21 rfl
theorem d_md_catchDate_38 : decode prog_10_method_63_code 38 = .ok (.iload_n 1, 1) := zD (q := (38, .iload_n 1, 1)) tx_md_catchDate_0 22 rfl
theorem d_md_catchDate_39 : decode prog_10_method_63_code 39 = .ok (.invokevirtual 185, 3) := zD (q := (39, .invokevirtual 185, 3)) tx_md_catchDate_0 23 rfl
theorem d_md_catchDate_42 : decode prog_10_method_63_code 42 = .ok (.iconst 1, 1) := zD (q := (42, .iconst 1, 1)) tx_md_catchDate_0 24 rfl
theorem d_md_catchDate_43 : decode prog_10_method_63_code 43 = .ok (.if_icmp .eq 7, 3) := zD (q := (43, .if_icmp .eq 7, 3)) tx_md_catchDate_0 25 rfl
theorem d_md_catchDate_46 : decode prog_10_method_63_code 46 = .ok (.iconst 1, 1) := zD (q := (46, .iconst 1, 1)) tx_md_catchDate_0 26 rfl
theorem d_md_catchDate_47 : decode prog_10_method_63_code 47 = .ok (.goto 4, 3) := zD (q := (47, .goto 4, 3)) tx_md_catchDate_0 27 rfl
theorem d_md_catchDate_50 : decode prog_10_method_63_code 50 = .ok (.iconst 0, 1) := zD (q := (50, .iconst 0, 1)) tx_md_catchDate_0 28 rfl
theorem d_md_catchDate_51 : decode prog_10_method_63_code 51 = .ok (.iconst 0, 1) := zD (q := (51, .iconst 0, 1)) tx_md_catchDate_0 29 rfl
theorem d_md_catchDate_52 : decode prog_10_method_63_code 52 = .ok (.iconst 0, 1) := zD (q := (52, .iconst 0, 1)) tx_md_catchDate_0 30 rfl
theorem d_md_catchDate_53 : decode prog_10_method_63_code 53 = .ok (.invokevirtual 100, 3) := zD (q := (53, .invokevirtual 100, 3)) tx_md_catchDate_0 31 rfl
theorem d_md_catchDate_56 : decode prog_10_method_63_code 56 = .ok (.ifCond .eq 5, 3) := zD (q := (56, .ifCond .eq 5, 3)) tx_md_catchDate_0 32 rfl
theorem d_md_catchDate_59 : decode prog_10_method_63_code 59 = .ok (.iconst 0, 1) := zD (q := (59, .iconst 0, 1)) tx_md_catchDate_0 33 rfl
theorem d_md_catchDate_60 : decode prog_10_method_63_code 60 = .ok (.ireturn, 1) := zD (q := (60, .ireturn, 1)) tx_md_catchDate_0 34 rfl
theorem d_md_catchDate_61 : decode prog_10_method_63_code 61 = .ok (.aload_n 0, 1) := zD (q := (61, .aload_n 0, 1)) tx_md_catchDate_0 35 rfl
theorem d_md_catchDate_62 : decode prog_10_method_63_code 62 = .ok (.getfield 51, 3) := zD (q := (62, .getfield 51, 3)) tx_md_catchDate_0 36 rfl
theorem d_md_catchDate_65 : decode prog_10_method_63_code 65 = .ok (.bipush 20, 2) := zD (q := (65, .bipush 20, 2)) tx_md_catchDate_0 37 rfl
theorem d_md_catchDate_67 : decode prog_10_method_63_code 67 = .ok (.iload_n 1, 1) := zD (q := (67, .iload_n 1, 1)) tx_md_catchDate_0 38 rfl
theorem d_md_catchDate_68 : decode prog_10_method_63_code 68 = .ok (.imul, 1) := zD (q := (68, .imul, 1)) tx_md_catchDate_0 39 rfl
theorem d_md_catchDate_69 : decode prog_10_method_63_code 69 = .ok (.iload_n 2, 1) := zD (q := (69, .iload_n 2, 1)) tx_md_catchDate_0 40 rfl
theorem d_md_catchDate_70 : decode prog_10_method_63_code 70 = .ok (.iadd, 1) := zD (q := (70, .iadd, 1)) tx_md_catchDate_0 41 rfl
theorem d_md_catchDate_71 : decode prog_10_method_63_code 71 = .ok (.iaload, 1) := zD (q := (71, .iaload, 1)) tx_md_catchDate_0 42 rfl
theorem d_md_catchDate_72 : decode prog_10_method_63_code 72 = .ok (.ireturn, 1) := zD (q := (72, .ireturn, 1)) tx_md_catchDate_0 43 rfl
