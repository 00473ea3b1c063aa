/-! names, 3d: decode tables, printed by gen/names2.py -/
section NAMES3
def T_Mo_init0 : List (Nat × Instr × Nat) := [(0, .aload_n 0, 1), (1, .invokespecial 1, 3), (4, .aload_n 0, 1), (5, .bipush 100, 2), (7, .newarray .int, 2), (9, .putfield 7, 3), (12, .aload_n 0, 1), (13, .iconst (-1), 1), (14, .putfield 13, 3), (17, .aload_n 0, 1), (18, .iconst 5, 1), (19, .newarray .int, 2), (21, .putfield 17, 3), (24, .aload_n 0, 1), (25, .iconst 5, 1), (26, .newarray .int, 2), (28, .putfield 20, 3), (31, .aload_n 0, 1), (32, .bipush 6, 2), (34, .newarray .int, 2), (36, .putfield 23, 3), (39, .aload_n 0, 1), (40, .bipush 6, 2), (42, .newarray .int, 2), (44, .putfield 26, 3), (47, .aload_n 0, 1), (48, .bipush 78, 2), (50, .newarray .int, 2), (52, .putfield 29, 3), (55, .aload_n 0, 1), (56, .bipush 78, 2), (58, .newarray .int, 2), (60, .putfield 32, 3), (63, .aload_n 0, 1), (64, .bipush 78, 2), (66, .newarray .int, 2), (68, .putfield 35, 3), (71, .aload_n 0, 1), (72, .bipush 78, 2), (74, .newarray .int, 2)]
set_option maxRecDepth 100000 in
theorem t_Mo_init0 : ∀ q ∈ T_Mo_init0, decode prog_11_method_1_code q.1 = .ok q.2 := by decide +kernel
theorem d_Mo_init_0 : decode prog_11_method_1_code 0 = .ok (.aload_n 0, 1) := q_tb t_Mo_init0 0 rfl
theorem d_Mo_init_1 : decode prog_11_method_1_code 1 = .ok (.invokespecial 1, 3) := q_tb t_Mo_init0 1 rfl
theorem d_Mo_init_4 : decode prog_11_method_1_code 4 = .ok (.aload_n 0, 1) := q_tb t_Mo_init0 2 rfl
theorem d_Mo_init_5 : decode prog_11_method_1_code 5 = .ok (.bipush 100, 2) := q_tb t_Mo_init0 3 rfl
theorem d_Mo_init_7 : decode prog_11_method_1_code 7 = .ok (.newarray .int, 2) := q_tb t_Mo_init0 4 rfl
theorem d_Mo_init_9 : decode prog_11_method_1_code 9 = .ok (.putfield 7, 3) := q_tb t_Mo_init0 5 rfl
theorem d_Mo_init_12 : decode prog_11_method_1_code 12 = .ok (.aload_n 0, 1) := q_tb t_Mo_init0 6 rfl
theorem d_Mo_init_13 : decode prog_11_method_1_code 13 = .ok (.iconst (-1), 1) := q_tb t_Mo_init0 7 rfl
theorem d_Mo_init_14 : decode prog_11_method_1_code 14 = .ok (.putfield 13, 3) := q_tb t_Mo_init0 8 rfl
theorem d_Mo_init_17 : decode prog_11_method_1_code 17 = .ok (.aload_n 0, 1) := q_tb t_Mo_init0 9 rfl
theorem d_Mo_init_18 : decode prog_11_method_1_code 18 = .ok (.iconst 5, 1) := q_tb t_Mo_init0 10 rfl
theorem d_Mo_init_19 : decode prog_11_method_1_code 19 = .ok (.newarray .int, 2) := q_tb t_Mo_init0 11 rfl
theorem d_Mo_init_21 : decode prog_11_method_1_code 21 = .ok (.putfield 17, 3) := q_tb t_Mo_init0 12 rfl
theorem d_Mo_init_24 : decode prog_11_method_1_code 24 = .ok (.aload_n 0, 1) := q_tb t_Mo_init0 13 rfl
theorem d_Mo_init_25 : decode prog_11_method_1_code 25 = .ok (.iconst 5, 1) := q_tb t_Mo_init0 14 rfl
theorem d_Mo_init_26 : decode prog_11_method_1_code 26 = .ok (.newarray .int, 2) := q_tb t_Mo_init0 15 rfl
theorem d_Mo_init_28 : decode prog_11_method_1_code 28 = .ok (.putfield 20, 3) := q_tb t_Mo_init0 16 rfl
theorem d_Mo_init_31 : decode prog_11_method_1_code 31 = .ok (.aload_n 0, 1) := q_tb t_Mo_init0 17 rfl
theorem d_Mo_init_32 : decode prog_11_method_1_code 32 = .ok (.bipush 6, 2) := q_tb t_Mo_init0 18 rfl
theorem d_Mo_init_34 : decode prog_11_method_1_code 34 = .ok (.newarray .int, 2) := q_tb t_Mo_init0 19 rfl
theorem d_Mo_init_36 : decode prog_11_method_1_code 36 = .ok (.putfield 23, 3) := q_tb t_Mo_init0 20 rfl
theorem d_Mo_init_39 : decode prog_11_method_1_code 39 = .ok (.aload_n 0, 1) := q_tb t_Mo_init0 21 rfl
theorem d_Mo_init_40 : decode prog_11_method_1_code 40 = .ok (.bipush 6, 2) := q_tb t_Mo_init0 22 rfl
theorem d_Mo_init_42 : decode prog_11_method_1_code 42 = .ok (.newarray .int, 2) := q_tb t_Mo_init0 23 rfl
theorem d_Mo_init_44 : decode prog_11_method_1_code 44 = .ok (.putfield 26, 3) := q_tb t_Mo_init0 24 rfl
theorem d_Mo_init_47 : decode prog_11_method_1_code 47 = .ok (.aload_n 0, 1) := q_tb t_Mo_init0 25 rfl
theorem d_Mo_init_48 : decode prog_11_method_1_code 48 = .ok (.bipush 78, 2) := q_tb t_Mo_init0 26 rfl
theorem d_Mo_init_50 : decode prog_11_method_1_code 50 = .ok (.newarray .int, 2) := q_tb t_Mo_init0 27 rfl
theorem d_Mo_init_52 : decode prog_11_method_1_code 52 = .ok (.putfield 29, 3) := q_tb t_Mo_init0 28 rfl
theorem d_Mo_init_55 : decode prog_11_method_1_code 55 = .ok (.aload_n 0, 1) := q_tb t_Mo_init0 29 rfl
theorem d_Mo_init_56 : decode prog_11_method_1_code 56 = .ok (.bipush 78, 2) := q_tb t_Mo_init0 30 rfl
theorem d_Mo_init_58 : decode prog_11_method_1_code 58 = .ok (.newarray .int, 2) := q_tb t_Mo_init0 31 rfl
theorem d_Mo_init_60 : decode prog_11_method_1_code 60 = .ok (.putfield 32, 3) := q_tb t_Mo_init0 32 rfl
theorem d_Mo_init_63 : decode prog_11_method_1_code 63 = .ok (.aload_n 0, 1) := q_tb t_Mo_init0 33 rfl
theorem d_Mo_init_64 : decode prog_11_method_1_code 64 = .ok (.bipush 78, 2) := q_tb t_Mo_init0 34 rfl
theorem d_Mo_init_66 : decode prog_11_method_1_code 66 = .ok (.newarray .int, 2) := q_tb t_Mo_init0 35 rfl
theorem d_Mo_init_68 : decode prog_11_method_1_code 68 = .ok (.putfield 35, 3) := q_tb t_Mo_init0 36 rfl
theorem d_Mo_init_71 : decode prog_11_method_1_code 71 = .ok (.aload_n 0, 1) := q_tb t_Mo_init0 37 rfl
theorem d_Mo_init_72 : decode prog_11_method_1_code 72 = .ok (.bipush 78, 2) := q_tb t_Mo_init0 38 rfl
theorem d_Mo_init_74 : decode prog_11_method_1_code 74 = .ok (.newarray .int, 2) := q_tb t_Mo_init0 39 rfl
def T_Mo_init1 : List (Nat × Instr × Nat) := [(76, .putfield 38, 3), (79, .aload_n 0, 1), (80, .bipush 13, 2), (82, .newarray .int, 2), (84, .putfield 41, 3), (87, .aload_n 0, 1), (88, .bipush 13, 2), (90, .newarray .int, 2), (92, .putfield 44, 3), (95, .aload_n 0, 1), (96, .bipush 13, 2), (98, .newarray .int, 2), (100, .putfield 47, 3), (103, .aload_n 0, 1), (104, .bipush 13, 2), (106, .newarray .int, 2), (108, .putfield 50, 3), (111, .aload_n 0, 1), (112, .bipush 14, 2), (114, .newarray .boolean, 2), (116, .putfield 53, 3), (119, .aload_n 0, 1), (120, .bipush 14, 2), (122, .newarray .int, 2), (124, .putfield 57, 3), (127, .aload_n 0, 1), (128, .bipush 14, 2), (130, .newarray .int, 2), (132, .putfield 60, 3), (135, .aload_n 0, 1), (136, .bipush 14, 2), (138, .newarray .boolean, 2), (140, .putfield 63, 3), (143, .aload_n 0, 1), (144, .bipush 14, 2), (146, .newarray .int, 2), (148, .putfield 66, 3), (151, .aload_n 0, 1), (152, .bipush 14, 2), (154, .newarray .int, 2)]
set_option maxRecDepth 100000 in
theorem t_Mo_init1 : ∀ q ∈ T_Mo_init1, decode prog_11_method_1_code q.1 = .ok q.2 := by decide +kernel
theorem d_Mo_init_76 : decode prog_11_method_1_code 76 = .ok (.putfield 38, 3) := q_tb t_Mo_init1 0 rfl
theorem d_Mo_init_79 : decode prog_11_method_1_code 79 = .ok (.aload_n 0, 1) := q_tb t_Mo_init1 1 rfl
theorem d_Mo_init_80 : decode prog_11_method_1_code 80 = .ok (.bipush 13, 2) := q_tb t_Mo_init1 2 rfl
theorem d_Mo_init_82 : decode prog_11_method_1_code 82 = .ok (.newarray .int, 2) := q_tb t_Mo_init1 3 rfl
theorem d_Mo_init_84 : decode prog_11_method_1_code 84 = .ok (.putfield 41, 3) := q_tb t_Mo_init1 4 rfl
theorem d_Mo_init_87 : decode prog_11_method_1_code 87 = .ok (.aload_n 0, 1) := q_tb t_Mo_init1 5 rfl
theorem d_Mo_init_88 : decode prog_11_method_1_code 88 = .ok (.bipush 13, 2) := q_tb t_Mo_init1 6 rfl
theorem d_Mo_init_90 : decode prog_11_method_1_code 90 = .ok (.newarray .int, 2) := q_tb t_Mo_init1 7 rfl
theorem d_Mo_init_92 : decode prog_11_method_1_code 92 = .ok (.putfield 44, 3) := q_tb t_Mo_init1 8 rfl
theorem d_Mo_init_95 : decode prog_11_method_1_code 95 = .ok (.aload_n 0, 1) := q_tb t_Mo_init1 9 rfl
theorem d_Mo_init_96 : decode prog_11_method_1_code 96 = .ok (.bipush 13, 2) := q_tb t_Mo_init1 10 rfl
theorem d_Mo_init_98 : decode prog_11_method_1_code 98 = .ok (.newarray .int, 2) := q_tb t_Mo_init1 11 rfl
theorem d_Mo_init_100 : decode prog_11_method_1_code 100 = .ok (.putfield 47, 3) := q_tb t_Mo_init1 12 rfl
theorem d_Mo_init_103 : decode prog_11_method_1_code 103 = .ok (.aload_n 0, 1) := q_tb t_Mo_init1 13 rfl
theorem d_Mo_init_104 : decode prog_11_method_1_code 104 = .ok (.bipush 13, 2) := q_tb t_Mo_init1 14 rfl
theorem d_Mo_init_106 : decode prog_11_method_1_code 106 = .ok (.newarray .int, 2) := q_tb t_Mo_init1 15 rfl
theorem d_Mo_init_108 : decode prog_11_method_1_code 108 = .ok (.putfield 50, 3) := q_tb t_Mo_init1 16 rfl
theorem d_Mo_init_111 : decode prog_11_method_1_code 111 = .ok (.aload_n 0, 1) := q_tb t_Mo_init1 17 rfl
theorem d_Mo_init_112 : decode prog_11_method_1_code 112 = .ok (.bipush 14, 2) := q_tb t_Mo_init1 18 rfl
theorem d_Mo_init_114 : decode prog_11_method_1_code 114 = .ok (.newarray .boolean, 2) := q_tb t_Mo_init1 19 rfl
theorem d_Mo_init_116 : decode prog_11_method_1_code 116 = .ok (.putfield 53, 3) := q_tb t_Mo_init1 20 rfl
theorem d_Mo_init_119 : decode prog_11_method_1_code 119 = .ok (.aload_n 0, 1) := q_tb t_Mo_init1 21 rfl
theorem d_Mo_init_120 : decode prog_11_method_1_code 120 = .ok (.bipush 14, 2) := q_tb t_Mo_init1 22 rfl
theorem d_Mo_init_122 : decode prog_11_method_1_code 122 = .ok (.newarray .int, 2) := q_tb t_Mo_init1 23 rfl
theorem d_Mo_init_124 : decode prog_11_method_1_code 124 = .ok (.putfield 57, 3) := q_tb t_Mo_init1 24 rfl
theorem d_Mo_init_127 : decode prog_11_method_1_code 127 = .ok (.aload_n 0, 1) := q_tb t_Mo_init1 25 rfl
theorem d_Mo_init_128 : decode prog_11_method_1_code 128 = .ok (.bipush 14, 2) := q_tb t_Mo_init1 26 rfl
theorem d_Mo_init_130 : decode prog_11_method_1_code 130 = .ok (.newarray .int, 2) := q_tb t_Mo_init1 27 rfl
theorem d_Mo_init_132 : decode prog_11_method_1_code 132 = .ok (.putfield 60, 3) := q_tb t_Mo_init1 28 rfl
theorem d_Mo_init_135 : decode prog_11_method_1_code 135 = .ok (.aload_n 0, 1) := q_tb t_Mo_init1 29 rfl
theorem d_Mo_init_136 : decode prog_11_method_1_code 136 = .ok (.bipush 14, 2) := q_tb t_Mo_init1 30 rfl
theorem d_Mo_init_138 : decode prog_11_method_1_code 138 = .ok (.newarray .boolean, 2) := q_tb t_Mo_init1 31 rfl
theorem d_Mo_init_140 : decode prog_11_method_1_code 140 = .ok (.putfield 63, 3) := q_tb t_Mo_init1 32 rfl
theorem d_Mo_init_143 : decode prog_11_method_1_code 143 = .ok (.aload_n 0, 1) := q_tb t_Mo_init1 33 rfl
theorem d_Mo_init_144 : decode prog_11_method_1_code 144 = .ok (.bipush 14, 2) := q_tb t_Mo_init1 34 rfl
theorem d_Mo_init_146 : decode prog_11_method_1_code 146 = .ok (.newarray .int, 2) := q_tb t_Mo_init1 35 rfl
theorem d_Mo_init_148 : decode prog_11_method_1_code 148 = .ok (.putfield 66, 3) := q_tb t_Mo_init1 36 rfl
theorem d_Mo_init_151 : decode prog_11_method_1_code 151 = .ok (.aload_n 0, 1) := q_tb t_Mo_init1 37 rfl
theorem d_Mo_init_152 : decode prog_11_method_1_code 152 = .ok (.bipush 14, 2) := q_tb t_Mo_init1 38 rfl
theorem d_Mo_init_154 : decode prog_11_method_1_code 154 = .ok (.newarray .int, 2) := q_tb t_Mo_init1 39 rfl
def T_Mo_init2 : List (Nat × Instr × Nat) := [(156, .putfield 69, 3), (159, .aload_n 0, 1), (160, .bipush 11, 2), (162, .newarray .int, 2), (164, .putfield 72, 3), (167, .aload_n 0, 1), (168, .bipush 11, 2), (170, .newarray .int, 2), (172, .putfield 75, 3), (175, .aload_n 0, 1), (176, .bipush 11, 2), (178, .newarray .int, 2), (180, .putfield 78, 3), (183, .aload_n 0, 1), (184, .sipush 30001, 3), (187, .newarray .boolean, 2), (189, .putfield 81, 3), (192, .aload_n 0, 1), (193, .sipush 30001, 3), (196, .newarray .int, 2), (198, .putfield 84, 3), (201, .aload_n 0, 1), (202, .sipush 30001, 3), (205, .newarray .int, 2), (207, .putfield 87, 3), (210, .return_, 1)]
set_option maxRecDepth 100000 in
theorem t_Mo_init2 : ∀ q ∈ T_Mo_init2, decode prog_11_method_1_code q.1 = .ok q.2 := by decide +kernel
theorem d_Mo_init_156 : decode prog_11_method_1_code 156 = .ok (.putfield 69, 3) := q_tb t_Mo_init2 0 rfl
theorem d_Mo_init_159 : decode prog_11_method_1_code 159 = .ok (.aload_n 0, 1) := q_tb t_Mo_init2 1 rfl
theorem d_Mo_init_160 : decode prog_11_method_1_code 160 = .ok (.bipush 11, 2) := q_tb t_Mo_init2 2 rfl
theorem d_Mo_init_162 : decode prog_11_method_1_code 162 = .ok (.newarray .int, 2) := q_tb t_Mo_init2 3 rfl
theorem d_Mo_init_164 : decode prog_11_method_1_code 164 = .ok (.putfield 72, 3) := q_tb t_Mo_init2 4 rfl
theorem d_Mo_init_167 : decode prog_11_method_1_code 167 = .ok (.aload_n 0, 1) := q_tb t_Mo_init2 5 rfl
theorem d_Mo_init_168 : decode prog_11_method_1_code 168 = .ok (.bipush 11, 2) := q_tb t_Mo_init2 6 rfl
theorem d_Mo_init_170 : decode prog_11_method_1_code 170 = .ok (.newarray .int, 2) := q_tb t_Mo_init2 7 rfl
theorem d_Mo_init_172 : decode prog_11_method_1_code 172 = .ok (.putfield 75, 3) := q_tb t_Mo_init2 8 rfl
theorem d_Mo_init_175 : decode prog_11_method_1_code 175 = .ok (.aload_n 0, 1) := q_tb t_Mo_init2 9 rfl
theorem d_Mo_init_176 : decode prog_11_method_1_code 176 = .ok (.bipush 11, 2) := q_tb t_Mo_init2 10 rfl
theorem d_Mo_init_178 : decode prog_11_method_1_code 178 = .ok (.newarray .int, 2) := q_tb t_Mo_init2 11 rfl
theorem d_Mo_init_180 : decode prog_11_method_1_code 180 = .ok (.putfield 78, 3) := q_tb t_Mo_init2 12 rfl
theorem d_Mo_init_183 : decode prog_11_method_1_code 183 = .ok (.aload_n 0, 1) := q_tb t_Mo_init2 13 rfl
theorem d_Mo_init_184 : decode prog_11_method_1_code 184 = .ok (.sipush 30001, 3) := q_tb t_Mo_init2 14 rfl
theorem d_Mo_init_187 : decode prog_11_method_1_code 187 = .ok (.newarray .boolean, 2) := q_tb t_Mo_init2 15 rfl
theorem d_Mo_init_189 : decode prog_11_method_1_code 189 = .ok (.putfield 81, 3) := q_tb t_Mo_init2 16 rfl
theorem d_Mo_init_192 : decode prog_11_method_1_code 192 = .ok (.aload_n 0, 1) := q_tb t_Mo_init2 17 rfl
theorem d_Mo_init_193 : decode prog_11_method_1_code 193 = .ok (.sipush 30001, 3) := q_tb t_Mo_init2 18 rfl
theorem d_Mo_init_196 : decode prog_11_method_1_code 196 = .ok (.newarray .int, 2) := q_tb t_Mo_init2 19 rfl
theorem d_Mo_init_198 : decode prog_11_method_1_code 198 = .ok (.putfield 84, 3) := q_tb t_Mo_init2 20 rfl
theorem d_Mo_init_201 : decode prog_11_method_1_code 201 = .ok (.aload_n 0, 1) := q_tb t_Mo_init2 21 rfl
theorem d_Mo_init_202 : decode prog_11_method_1_code 202 = .ok (.sipush 30001, 3) := q_tb t_Mo_init2 22 rfl
theorem d_Mo_init_205 : decode prog_11_method_1_code 205 = .ok (.newarray .int, 2) := q_tb t_Mo_init2 23 rfl
theorem d_Mo_init_207 : decode prog_11_method_1_code 207 = .ok (.putfield 87, 3) := q_tb t_Mo_init2 24 rfl
theorem d_Mo_init_210 : decode prog_11_method_1_code 210 = .ok (.return_, 1) := q_tb t_Mo_init2 25 rfl
def T_Mo_thrown : List (Nat × Instr × Nat) := [(0, .aload_n 0, 1), (1, .getfield 90, 3), (4, .ireturn, 1)]
set_option maxRecDepth 100000 in
theorem t_Mo_thrown : ∀ q ∈ T_Mo_thrown, decode prog_11_method_2_code q.1 = .ok q.2 := by decide +kernel
theorem d_Mo_thrown_0 : decode prog_11_method_2_code 0 = .ok (.aload_n 0, 1) := q_tb t_Mo_thrown 0 rfl
theorem d_Mo_thrown_1 : decode prog_11_method_2_code 1 = .ok (.getfield 90, 3) := q_tb t_Mo_thrown 1 rfl
theorem d_Mo_thrown_4 : decode prog_11_method_2_code 4 = .ok (.ireturn, 1) := q_tb t_Mo_thrown 2 rfl
def T_Mo_feed0 : List (Nat × Instr × Nat) := [(0, .aload_n 0, 1), (1, .iload_n 1, 1), (2, .iconst 1, 1), (3, .if_icmp .lt 9, 3), (6, .iload_n 1, 1), (7, .bipush 8, 2), (9, .if_icmp .le 7, 3), (12, .iconst 1, 1), (13, .goto 4, 3), (16, .iconst 0, 1), (17, .putfield 90, 3), (20, .aload_n 0, 1), (21, .getfield 90, 3), (24, .ifCond .le 5, 3), (27, .iconst 0, 1), (28, .ireturn, 1), (29, .aload_n 0, 1), (30, .getfield 93, 3), (33, .iload_n 1, 1), (34, .iadd, 1), (35, .bipush 100, 2), (37, .if_icmp .le 5, 3), (40, .iconst (-1), 1), (41, .ireturn, 1), (42, .iconst 0, 1), (43, .istore 4, 2), (45, .iload 4, 2), (47, .iload_n 1, 1), (48, .if_icmp .ge 40, 3), (51, .aload_n 0, 1), (52, .getfield 7, 3), (55, .aload_n 0, 1), (56, .getfield 93, 3), (59, .lload_n 2, 1), (60, .bipush 8, 2), (62, .iload 4, 2), (64, .imul, 1), (65, .lshr, 1), (66, .ldc2_w 96, 3), (69, .land, 1)]
set_option maxRecDepth 100000 in
theorem t_Mo_feed0 : ∀ q ∈ T_Mo_feed0, decode prog_11_method_3_code q.1 = .ok q.2 := by decide +kernel
theorem d_Mo_feed_0 : decode prog_11_method_3_code 0 = .ok (.aload_n 0, 1) := q_tb t_Mo_feed0 0 rfl
theorem d_Mo_feed_1 : decode prog_11_method_3_code 1 = .ok (.iload_n 1, 1) := q_tb t_Mo_feed0 1 rfl
theorem d_Mo_feed_2 : decode prog_11_method_3_code 2 = .ok (.iconst 1, 1) := q_tb t_Mo_feed0 2 rfl
theorem d_Mo_feed_3 : decode prog_11_method_3_code 3 = .ok (.if_icmp .lt 9, 3) := q_tb t_Mo_feed0 3 rfl
theorem d_Mo_feed_6 : decode prog_11_method_3_code 6 = .ok (.iload_n 1, 1) := q_tb t_Mo_feed0 4 rfl
theorem d_Mo_feed_7 : decode prog_11_method_3_code 7 = .ok (.bipush 8, 2) := q_tb t_Mo_feed0 5 rfl
theorem d_Mo_feed_9 : decode prog_11_method_3_code 9 = .ok (.if_icmp .le 7, 3) := q_tb t_Mo_feed0 6 rfl
theorem d_Mo_feed_12 : decode prog_11_method_3_code 12 = .ok (.iconst 1, 1) := q_tb t_Mo_feed0 7 rfl
theorem d_Mo_feed_13 : decode prog_11_method_3_code 13 = .ok (.goto 4, 3) := q_tb t_Mo_feed0 8 rfl
theorem d_Mo_feed_16 : decode prog_11_method_3_code 16 = .ok (.iconst 0, 1) := q_tb t_Mo_feed0 9 rfl
theorem d_Mo_feed_17 : decode prog_11_method_3_code 17 = .ok (.putfield 90, 3) := q_tb t_Mo_feed0 10 rfl
theorem d_Mo_feed_20 : decode prog_11_method_3_code 20 = .ok (.aload_n 0, 1) := q_tb t_Mo_feed0 11 rfl
theorem d_Mo_feed_21 : decode prog_11_method_3_code 21 = .ok (.getfield 90, 3) := q_tb t_Mo_feed0 12 rfl
theorem d_Mo_feed_24 : decode prog_11_method_3_code 24 = .ok (.ifCond .le 5, 3) := q_tb t_Mo_feed0 13 rfl
theorem d_Mo_feed_27 : decode prog_11_method_3_code 27 = .ok (.iconst 0, 1) := q_tb t_Mo_feed0 14 rfl
theorem d_Mo_feed_28 : decode prog_11_method_3_code 28 = .ok (.ireturn, 1) := q_tb t_Mo_feed0 15 rfl
theorem d_Mo_feed_29 : decode prog_11_method_3_code 29 = .ok (.aload_n 0, 1) := q_tb t_Mo_feed0 16 rfl
theorem d_Mo_feed_30 : decode prog_11_method_3_code 30 = .ok (.getfield 93, 3) := q_tb t_Mo_feed0 17 rfl
theorem d_Mo_feed_33 : decode prog_11_method_3_code 33 = .ok (.iload_n 1, 1) := q_tb t_Mo_feed0 18 rfl
theorem d_Mo_feed_34 : decode prog_11_method_3_code 34 = .ok (.iadd, 1) := q_tb t_Mo_feed0 19 rfl
theorem d_Mo_feed_35 : decode prog_11_method_3_code 35 = .ok (.bipush 100, 2) := q_tb t_Mo_feed0 20 rfl
theorem d_Mo_feed_37 : decode prog_11_method_3_code 37 = .ok (.if_icmp .le 5, 3) := q_tb t_Mo_feed0 21 rfl
theorem d_Mo_feed_40 : decode prog_11_method_3_code 40 = .ok (.iconst (-1), 1) := q_tb t_Mo_feed0 22 rfl
theorem d_Mo_feed_41 : decode prog_11_method_3_code 41 = .ok (.ireturn, 1) := q_tb t_Mo_feed0 23 rfl
theorem d_Mo_feed_42 : decode prog_11_method_3_code 42 = .ok (.iconst 0, 1) := q_tb t_Mo_feed0 24 rfl
theorem d_Mo_feed_43 : decode prog_11_method_3_code 43 = .ok (.istore 4, 2) := q_tb t_Mo_feed0 25 rfl
theorem d_Mo_feed_45 : decode prog_11_method_3_code 45 = .ok (.iload 4, 2) := q_tb t_Mo_feed0 26 rfl
theorem d_Mo_feed_47 : decode prog_11_method_3_code 47 = .ok (.iload_n 1, 1) := q_tb t_Mo_feed0 27 rfl
theorem d_Mo_feed_48 : decode prog_11_method_3_code 48 = .ok (.if_icmp .ge 40, 3) := q_tb t_Mo_feed0 28 rfl
theorem d_Mo_feed_51 : decode prog_11_method_3_code 51 = .ok (.aload_n 0, 1) := q_tb t_Mo_feed0 29 rfl
theorem d_Mo_feed_52 : decode prog_11_method_3_code 52 = .ok (.getfield 7, 3) := q_tb t_Mo_feed0 30 rfl
theorem d_Mo_feed_55 : decode prog_11_method_3_code 55 = .ok (.aload_n 0, 1) := q_tb t_Mo_feed0 31 rfl
theorem d_Mo_feed_56 : decode prog_11_method_3_code 56 = .ok (.getfield 93, 3) := q_tb t_Mo_feed0 32 rfl
theorem d_Mo_feed_59 : decode prog_11_method_3_code 59 = .ok (.lload_n 2, 1) := q_tb t_Mo_feed0 33 rfl
theorem d_Mo_feed_60 : decode prog_11_method_3_code 60 = .ok (.bipush 8, 2) := q_tb t_Mo_feed0 34 rfl
theorem d_Mo_feed_62 : decode prog_11_method_3_code 62 = .ok (.iload 4, 2) := q_tb t_Mo_feed0 35 rfl
theorem d_Mo_feed_64 : decode prog_11_method_3_code 64 = .ok (.imul, 1) := q_tb t_Mo_feed0 36 rfl
theorem d_Mo_feed_65 : decode prog_11_method_3_code 65 = .ok (.lshr, 1) := q_tb t_Mo_feed0 37 rfl
theorem d_Mo_feed_66 : decode prog_11_method_3_code 66 = .ok (.ldc2_w 96, 3) := q_tb t_Mo_feed0 38 rfl
theorem d_Mo_feed_69 : decode prog_11_method_3_code 69 = .ok (.land, 1) := q_tb t_Mo_feed0 39 rfl
def T_Mo_feed1 : List (Nat × Instr × Nat) := [(70, .l2i, 1), (71, .iastore, 1), (72, .aload_n 0, 1), (73, .dup, 1), (74, .getfield 93, 3), (77, .iconst 1, 1), (78, .iadd, 1), (79, .putfield 93, 3), (82, .iinc 4 1, 3), (85, .goto (-40), 3), (88, .aload_n 0, 1), (89, .getfield 93, 3), (92, .ireturn, 1)]
set_option maxRecDepth 100000 in
theorem t_Mo_feed1 : ∀ q ∈ T_Mo_feed1, decode prog_11_method_3_code q.1 = .ok q.2 := by decide +kernel
theorem d_Mo_feed_70 : decode prog_11_method_3_code 70 = .ok (.l2i, 1) := q_tb t_Mo_feed1 0 rfl
theorem d_Mo_feed_71 : decode prog_11_method_3_code 71 = .ok (.iastore, 1) := q_tb t_Mo_feed1 1 rfl
theorem d_Mo_feed_72 : decode prog_11_method_3_code 72 = .ok (.aload_n 0, 1) := q_tb t_Mo_feed1 2 rfl
theorem d_Mo_feed_73 : decode prog_11_method_3_code 73 = .ok (.dup, 1) := q_tb t_Mo_feed1 3 rfl
theorem d_Mo_feed_74 : decode prog_11_method_3_code 74 = .ok (.getfield 93, 3) := q_tb t_Mo_feed1 4 rfl
theorem d_Mo_feed_77 : decode prog_11_method_3_code 77 = .ok (.iconst 1, 1) := q_tb t_Mo_feed1 5 rfl
theorem d_Mo_feed_78 : decode prog_11_method_3_code 78 = .ok (.iadd, 1) := q_tb t_Mo_feed1 6 rfl
theorem d_Mo_feed_79 : decode prog_11_method_3_code 79 = .ok (.putfield 93, 3) := q_tb t_Mo_feed1 7 rfl
theorem d_Mo_feed_82 : decode prog_11_method_3_code 82 = .ok (.iinc 4 1, 3) := q_tb t_Mo_feed1 8 rfl
theorem d_Mo_feed_85 : decode prog_11_method_3_code 85 = .ok (.goto (-40), 3) := q_tb t_Mo_feed1 9 rfl
theorem d_Mo_feed_88 : decode prog_11_method_3_code 88 = .ok (.aload_n 0, 1) := q_tb t_Mo_feed1 10 rfl
theorem d_Mo_feed_89 : decode prog_11_method_3_code 89 = .ok (.getfield 93, 3) := q_tb t_Mo_feed1 11 rfl
theorem d_Mo_feed_92 : decode prog_11_method_3_code 92 = .ok (.ireturn, 1) := q_tb t_Mo_feed1 12 rfl
def T_Mo_wipe : List (Nat × Instr × Nat) := [(0, .aload_n 0, 1), (1, .iconst 0, 1), (2, .putfield 90, 3), (5, .aload_n 0, 1), (6, .getfield 93, 3), (9, .istore_n 1, 1), (10, .aload_n 0, 1), (11, .iconst 0, 1), (12, .putfield 93, 3), (15, .iload_n 1, 1), (16, .ireturn, 1)]
set_option maxRecDepth 100000 in
theorem t_Mo_wipe : ∀ q ∈ T_Mo_wipe, decode prog_11_method_4_code q.1 = .ok q.2 := by decide +kernel
theorem d_Mo_wipe_0 : decode prog_11_method_4_code 0 = .ok (.aload_n 0, 1) := q_tb t_Mo_wipe 0 rfl
theorem d_Mo_wipe_1 : decode prog_11_method_4_code 1 = .ok (.iconst 0, 1) := q_tb t_Mo_wipe 1 rfl
theorem d_Mo_wipe_2 : decode prog_11_method_4_code 2 = .ok (.putfield 90, 3) := q_tb t_Mo_wipe 2 rfl
theorem d_Mo_wipe_5 : decode prog_11_method_4_code 5 = .ok (.aload_n 0, 1) := q_tb t_Mo_wipe 3 rfl
theorem d_Mo_wipe_6 : decode prog_11_method_4_code 6 = .ok (.getfield 93, 3) := q_tb t_Mo_wipe 4 rfl
theorem d_Mo_wipe_9 : decode prog_11_method_4_code 9 = .ok (.istore_n 1, 1) := q_tb t_Mo_wipe 5 rfl
theorem d_Mo_wipe_10 : decode prog_11_method_4_code 10 = .ok (.aload_n 0, 1) := q_tb t_Mo_wipe 6 rfl
theorem d_Mo_wipe_11 : decode prog_11_method_4_code 11 = .ok (.iconst 0, 1) := q_tb t_Mo_wipe 7 rfl
theorem d_Mo_wipe_12 : decode prog_11_method_4_code 12 = .ok (.putfield 93, 3) := q_tb t_Mo_wipe 8 rfl
theorem d_Mo_wipe_15 : decode prog_11_method_4_code 15 = .ok (.iload_n 1, 1) := q_tb t_Mo_wipe 9 rfl
theorem d_Mo_wipe_16 : decode prog_11_method_4_code 16 = .ok (.ireturn, 1) := q_tb t_Mo_wipe 10 rfl
def T_Mo_variable0 : List (Nat × Instr × Nat) := [(0, .aload_n 0, 1), (1, .iload_n 1, 1), (2, .iconst 2, 1), (3, .if_icmp .lt 17, 3), (6, .iload_n 1, 1), (7, .iconst 5, 1), (8, .if_icmp .gt 12, 3), (11, .iload_n 2, 1), (12, .ifCond .lt 8, 3), (15, .iload_n 2, 1), (16, .iload_n 1, 1), (17, .if_icmp .lt 7, 3), (20, .iconst 1, 1), (21, .goto 4, 3), (24, .iconst 0, 1), (25, .putfield 90, 3), (28, .aload_n 0, 1), (29, .getfield 90, 3), (32, .ifCond .le 5, 3), (35, .iconst 0, 1), (36, .ireturn, 1), (37, .aload_n 0, 1), (38, .getfield 105, 3), (41, .iconst 5, 1), (42, .if_icmp .ne 5, 3), (45, .iconst (-1), 1), (46, .ireturn, 1), (47, .aload_n 0, 1), (48, .getfield 17, 3), (51, .aload_n 0, 1), (52, .getfield 105, 3), (55, .iload_n 1, 1), (56, .iastore, 1), (57, .aload_n 0, 1), (58, .getfield 20, 3), (61, .aload_n 0, 1), (62, .getfield 105, 3), (65, .iload_n 2, 1), (66, .iastore, 1), (67, .aload_n 0, 1)]
set_option maxRecDepth 100000 in
theorem t_Mo_variable0 : ∀ q ∈ T_Mo_variable0, decode prog_11_method_6_code q.1 = .ok q.2 := by decide +kernel
theorem d_Mo_variable_0 : decode prog_11_method_6_code 0 = .ok (.aload_n 0, 1) := q_tb t_Mo_variable0 0 rfl
theorem d_Mo_variable_1 : decode prog_11_method_6_code 1 = .ok (.iload_n 1, 1) := q_tb t_Mo_variable0 1 rfl
theorem d_Mo_variable_2 : decode prog_11_method_6_code 2 = .ok (.iconst 2, 1) := q_tb t_Mo_variable0 2 rfl
theorem d_Mo_variable_3 : decode prog_11_method_6_code 3 = .ok (.if_icmp .lt 17, 3) := q_tb t_Mo_variable0 3 rfl
theorem d_Mo_variable_6 : decode prog_11_method_6_code 6 = .ok (.iload_n 1, 1) := q_tb t_Mo_variable0 4 rfl
theorem d_Mo_variable_7 : decode prog_11_method_6_code 7 = .ok (.iconst 5, 1) := q_tb t_Mo_variable0 5 rfl
theorem d_Mo_variable_8 : decode prog_11_method_6_code 8 = .ok (.if_icmp .gt 12, 3) := q_tb t_Mo_variable0 6 rfl
theorem d_Mo_variable_11 : decode prog_11_method_6_code 11 = .ok (.iload_n 2, 1) := q_tb t_Mo_variable0 7 rfl
theorem d_Mo_variable_12 : decode prog_11_method_6_code 12 = .ok (.ifCond .lt 8, 3) := q_tb t_Mo_variable0 8 rfl
theorem d_Mo_variable_15 : decode prog_11_method_6_code 15 = .ok (.iload_n 2, 1) := q_tb t_Mo_variable0 9 rfl
theorem d_Mo_variable_16 : decode prog_11_method_6_code 16 = .ok (.iload_n 1, 1) := q_tb t_Mo_variable0 10 rfl
theorem d_Mo_variable_17 : decode prog_11_method_6_code 17 = .ok (.if_icmp .lt 7, 3) := q_tb t_Mo_variable0 11 rfl
theorem d_Mo_variable_20 : decode prog_11_method_6_code 20 = .ok (.iconst 1, 1) := q_tb t_Mo_variable0 12 rfl
theorem d_Mo_variable_21 : decode prog_11_method_6_code 21 = .ok (.goto 4, 3) := q_tb t_Mo_variable0 13 rfl
theorem d_Mo_variable_24 : decode prog_11_method_6_code 24 = .ok (.iconst 0, 1) := q_tb t_Mo_variable0 14 rfl
theorem d_Mo_variable_25 : decode prog_11_method_6_code 25 = .ok (.putfield 90, 3) := q_tb t_Mo_variable0 15 rfl
theorem d_Mo_variable_28 : decode prog_11_method_6_code 28 = .ok (.aload_n 0, 1) := q_tb t_Mo_variable0 16 rfl
theorem d_Mo_variable_29 : decode prog_11_method_6_code 29 = .ok (.getfield 90, 3) := q_tb t_Mo_variable0 17 rfl
theorem d_Mo_variable_32 : decode prog_11_method_6_code 32 = .ok (.ifCond .le 5, 3) := q_tb t_Mo_variable0 18 rfl
theorem d_Mo_variable_35 : decode prog_11_method_6_code 35 = .ok (.iconst 0, 1) := q_tb t_Mo_variable0 19 rfl
theorem d_Mo_variable_36 : decode prog_11_method_6_code 36 = .ok (.ireturn, 1) := q_tb t_Mo_variable0 20 rfl
theorem d_Mo_variable_37 : decode prog_11_method_6_code 37 = .ok (.aload_n 0, 1) := q_tb t_Mo_variable0 21 rfl
theorem d_Mo_variable_38 : decode prog_11_method_6_code 38 = .ok (.getfield 105, 3) := q_tb t_Mo_variable0 22 rfl
theorem d_Mo_variable_41 : decode prog_11_method_6_code 41 = .ok (.iconst 5, 1) := q_tb t_Mo_variable0 23 rfl
theorem d_Mo_variable_42 : decode prog_11_method_6_code 42 = .ok (.if_icmp .ne 5, 3) := q_tb t_Mo_variable0 24 rfl
theorem d_Mo_variable_45 : decode prog_11_method_6_code 45 = .ok (.iconst (-1), 1) := q_tb t_Mo_variable0 25 rfl
theorem d_Mo_variable_46 : decode prog_11_method_6_code 46 = .ok (.ireturn, 1) := q_tb t_Mo_variable0 26 rfl
theorem d_Mo_variable_47 : decode prog_11_method_6_code 47 = .ok (.aload_n 0, 1) := q_tb t_Mo_variable0 27 rfl
theorem d_Mo_variable_48 : decode prog_11_method_6_code 48 = .ok (.getfield 17, 3) := q_tb t_Mo_variable0 28 rfl
theorem d_Mo_variable_51 : decode prog_11_method_6_code 51 = .ok (.aload_n 0, 1) := q_tb t_Mo_variable0 29 rfl
theorem d_Mo_variable_52 : decode prog_11_method_6_code 52 = .ok (.getfield 105, 3) := q_tb t_Mo_variable0 30 rfl
theorem d_Mo_variable_55 : decode prog_11_method_6_code 55 = .ok (.iload_n 1, 1) := q_tb t_Mo_variable0 31 rfl
theorem d_Mo_variable_56 : decode prog_11_method_6_code 56 = .ok (.iastore, 1) := q_tb t_Mo_variable0 32 rfl
theorem d_Mo_variable_57 : decode prog_11_method_6_code 57 = .ok (.aload_n 0, 1) := q_tb t_Mo_variable0 33 rfl
theorem d_Mo_variable_58 : decode prog_11_method_6_code 58 = .ok (.getfield 20, 3) := q_tb t_Mo_variable0 34 rfl
theorem d_Mo_variable_61 : decode prog_11_method_6_code 61 = .ok (.aload_n 0, 1) := q_tb t_Mo_variable0 35 rfl
theorem d_Mo_variable_62 : decode prog_11_method_6_code 62 = .ok (.getfield 105, 3) := q_tb t_Mo_variable0 36 rfl
theorem d_Mo_variable_65 : decode prog_11_method_6_code 65 = .ok (.iload_n 2, 1) := q_tb t_Mo_variable0 37 rfl
theorem d_Mo_variable_66 : decode prog_11_method_6_code 66 = .ok (.iastore, 1) := q_tb t_Mo_variable0 38 rfl
theorem d_Mo_variable_67 : decode prog_11_method_6_code 67 = .ok (.aload_n 0, 1) := q_tb t_Mo_variable0 39 rfl
def T_Mo_variable1 : List (Nat × Instr × Nat) := [(68, .dup, 1), (69, .getfield 105, 3), (72, .iconst 1, 1), (73, .iadd, 1), (74, .putfield 105, 3), (77, .aload_n 0, 1), (78, .invokevirtual 108, 3), (81, .aload_n 0, 1), (82, .getfield 105, 3), (85, .iconst 1, 1), (86, .isub, 1), (87, .ireturn, 1)]
set_option maxRecDepth 100000 in
theorem t_Mo_variable1 : ∀ q ∈ T_Mo_variable1, decode prog_11_method_6_code q.1 = .ok q.2 := by decide +kernel
theorem d_Mo_variable_68 : decode prog_11_method_6_code 68 = .ok (.dup, 1) := q_tb t_Mo_variable1 0 rfl
theorem d_Mo_variable_69 : decode prog_11_method_6_code 69 = .ok (.getfield 105, 3) := q_tb t_Mo_variable1 1 rfl
theorem d_Mo_variable_72 : decode prog_11_method_6_code 72 = .ok (.iconst 1, 1) := q_tb t_Mo_variable1 2 rfl
theorem d_Mo_variable_73 : decode prog_11_method_6_code 73 = .ok (.iadd, 1) := q_tb t_Mo_variable1 3 rfl
theorem d_Mo_variable_74 : decode prog_11_method_6_code 74 = .ok (.putfield 105, 3) := q_tb t_Mo_variable1 4 rfl
theorem d_Mo_variable_77 : decode prog_11_method_6_code 77 = .ok (.aload_n 0, 1) := q_tb t_Mo_variable1 5 rfl
theorem d_Mo_variable_78 : decode prog_11_method_6_code 78 = .ok (.invokevirtual 108, 3) := q_tb t_Mo_variable1 6 rfl
theorem d_Mo_variable_81 : decode prog_11_method_6_code 81 = .ok (.aload_n 0, 1) := q_tb t_Mo_variable1 7 rfl
theorem d_Mo_variable_82 : decode prog_11_method_6_code 82 = .ok (.getfield 105, 3) := q_tb t_Mo_variable1 8 rfl
theorem d_Mo_variable_85 : decode prog_11_method_6_code 85 = .ok (.iconst 1, 1) := q_tb t_Mo_variable1 9 rfl
theorem d_Mo_variable_86 : decode prog_11_method_6_code 86 = .ok (.isub, 1) := q_tb t_Mo_variable1 10 rfl
theorem d_Mo_variable_87 : decode prog_11_method_6_code 87 = .ok (.ireturn, 1) := q_tb t_Mo_variable1 11 rfl
def T_Mo_begin0 : List (Nat × Instr × Nat) := [(0, .aload_n 0, 1), (1, .iconst 0, 1), (2, .putfield 98, 3), (5, .aload_n 0, 1), (6, .iconst 0, 1), (7, .putfield 102, 3), (10, .iconst 0, 1), (11, .istore_n 1, 1), (12, .iload_n 1, 1), (13, .bipush 6, 2), (15, .if_icmp .ge 16, 3), (18, .aload_n 0, 1), (19, .getfield 72, 3), (22, .iload_n 1, 1), (23, .iconst 0, 1), (24, .iastore, 1), (25, .iinc 1 1, 3), (28, .goto (-16), 3), (31, .iconst 0, 1), (32, .istore_n 1, 1), (33, .iload_n 1, 1), (34, .iconst 5, 1), (35, .if_icmp .ge 36, 3), (38, .aload_n 0, 1), (39, .getfield 72, 3), (42, .bipush 6, 2), (44, .iload_n 1, 1), (45, .iadd, 1), (46, .iload_n 1, 1), (47, .aload_n 0, 1), (48, .getfield 105, 3), (51, .if_icmp .ge 12, 3), (54, .aload_n 0, 1), (55, .getfield 20, 3), (58, .iload_n 1, 1), (59, .iaload, 1), (60, .goto 4, 3), (63, .iconst 0, 1), (64, .iastore, 1), (65, .iinc 1 1, 3)]
set_option maxRecDepth 100000 in
theorem t_Mo_begin0 : ∀ q ∈ T_Mo_begin0, decode prog_11_method_5_code q.1 = .ok q.2 := by decide +kernel
theorem d_Mo_begin_0 : decode prog_11_method_5_code 0 = .ok (.aload_n 0, 1) := q_tb t_Mo_begin0 0 rfl
theorem d_Mo_begin_1 : decode prog_11_method_5_code 1 = .ok (.iconst 0, 1) := q_tb t_Mo_begin0 1 rfl
theorem d_Mo_begin_2 : decode prog_11_method_5_code 2 = .ok (.putfield 98, 3) := q_tb t_Mo_begin0 2 rfl
theorem d_Mo_begin_5 : decode prog_11_method_5_code 5 = .ok (.aload_n 0, 1) := q_tb t_Mo_begin0 3 rfl
theorem d_Mo_begin_6 : decode prog_11_method_5_code 6 = .ok (.iconst 0, 1) := q_tb t_Mo_begin0 4 rfl
theorem d_Mo_begin_7 : decode prog_11_method_5_code 7 = .ok (.putfield 102, 3) := q_tb t_Mo_begin0 5 rfl
theorem d_Mo_begin_10 : decode prog_11_method_5_code 10 = .ok (.iconst 0, 1) := q_tb t_Mo_begin0 6 rfl
theorem d_Mo_begin_11 : decode prog_11_method_5_code 11 = .ok (.istore_n 1, 1) := q_tb t_Mo_begin0 7 rfl
theorem d_Mo_begin_12 : decode prog_11_method_5_code 12 = .ok (.iload_n 1, 1) := q_tb t_Mo_begin0 8 rfl
theorem d_Mo_begin_13 : decode prog_11_method_5_code 13 = .ok (.bipush 6, 2) := q_tb t_Mo_begin0 9 rfl
theorem d_Mo_begin_15 : decode prog_11_method_5_code 15 = .ok (.if_icmp .ge 16, 3) := q_tb t_Mo_begin0 10 rfl
theorem d_Mo_begin_18 : decode prog_11_method_5_code 18 = .ok (.aload_n 0, 1) := q_tb t_Mo_begin0 11 rfl
theorem d_Mo_begin_19 : decode prog_11_method_5_code 19 = .ok (.getfield 72, 3) := q_tb t_Mo_begin0 12 rfl
theorem d_Mo_begin_22 : decode prog_11_method_5_code 22 = .ok (.iload_n 1, 1) := q_tb t_Mo_begin0 13 rfl
theorem d_Mo_begin_23 : decode prog_11_method_5_code 23 = .ok (.iconst 0, 1) := q_tb t_Mo_begin0 14 rfl
theorem d_Mo_begin_24 : decode prog_11_method_5_code 24 = .ok (.iastore, 1) := q_tb t_Mo_begin0 15 rfl
theorem d_Mo_begin_25 : decode prog_11_method_5_code 25 = .ok (.iinc 1 1, 3) := q_tb t_Mo_begin0 16 rfl
theorem d_Mo_begin_28 : decode prog_11_method_5_code 28 = .ok (.goto (-16), 3) := q_tb t_Mo_begin0 17 rfl
theorem d_Mo_begin_31 : decode prog_11_method_5_code 31 = .ok (.iconst 0, 1) := q_tb t_Mo_begin0 18 rfl
theorem d_Mo_begin_32 : decode prog_11_method_5_code 32 = .ok (.istore_n 1, 1) := q_tb t_Mo_begin0 19 rfl
theorem d_Mo_begin_33 : decode prog_11_method_5_code 33 = .ok (.iload_n 1, 1) := q_tb t_Mo_begin0 20 rfl
theorem d_Mo_begin_34 : decode prog_11_method_5_code 34 = .ok (.iconst 5, 1) := q_tb t_Mo_begin0 21 rfl
theorem d_Mo_begin_35 : decode prog_11_method_5_code 35 = .ok (.if_icmp .ge 36, 3) := q_tb t_Mo_begin0 22 rfl
theorem d_Mo_begin_38 : decode prog_11_method_5_code 38 = .ok (.aload_n 0, 1) := q_tb t_Mo_begin0 23 rfl
theorem d_Mo_begin_39 : decode prog_11_method_5_code 39 = .ok (.getfield 72, 3) := q_tb t_Mo_begin0 24 rfl
theorem d_Mo_begin_42 : decode prog_11_method_5_code 42 = .ok (.bipush 6, 2) := q_tb t_Mo_begin0 25 rfl
theorem d_Mo_begin_44 : decode prog_11_method_5_code 44 = .ok (.iload_n 1, 1) := q_tb t_Mo_begin0 26 rfl
theorem d_Mo_begin_45 : decode prog_11_method_5_code 45 = .ok (.iadd, 1) := q_tb t_Mo_begin0 27 rfl
theorem d_Mo_begin_46 : decode prog_11_method_5_code 46 = .ok (.iload_n 1, 1) := q_tb t_Mo_begin0 28 rfl
theorem d_Mo_begin_47 : decode prog_11_method_5_code 47 = .ok (.aload_n 0, 1) := q_tb t_Mo_begin0 29 rfl
theorem d_Mo_begin_48 : decode prog_11_method_5_code 48 = .ok (.getfield 105, 3) := q_tb t_Mo_begin0 30 rfl
theorem d_Mo_begin_51 : decode prog_11_method_5_code 51 = .ok (.if_icmp .ge 12, 3) := q_tb t_Mo_begin0 31 rfl
theorem d_Mo_begin_54 : decode prog_11_method_5_code 54 = .ok (.aload_n 0, 1) := q_tb t_Mo_begin0 32 rfl
theorem d_Mo_begin_55 : decode prog_11_method_5_code 55 = .ok (.getfield 20, 3) := q_tb t_Mo_begin0 33 rfl
theorem d_Mo_begin_58 : decode prog_11_method_5_code 58 = .ok (.iload_n 1, 1) := q_tb t_Mo_begin0 34 rfl
theorem d_Mo_begin_59 : decode prog_11_method_5_code 59 = .ok (.iaload, 1) := q_tb t_Mo_begin0 35 rfl
theorem d_Mo_begin_60 : decode prog_11_method_5_code 60 = .ok (.goto 4, 3) := q_tb t_Mo_begin0 36 rfl
theorem d_Mo_begin_63 : decode prog_11_method_5_code 63 = .ok (.iconst 0, 1) := q_tb t_Mo_begin0 37 rfl
theorem d_Mo_begin_64 : decode prog_11_method_5_code 64 = .ok (.iastore, 1) := q_tb t_Mo_begin0 38 rfl
theorem d_Mo_begin_65 : decode prog_11_method_5_code 65 = .ok (.iinc 1 1, 3) := q_tb t_Mo_begin0 39 rfl
def T_Mo_begin1 : List (Nat × Instr × Nat) := [(68, .goto (-35), 3), (71, .return_, 1)]
set_option maxRecDepth 100000 in
theorem t_Mo_begin1 : ∀ q ∈ T_Mo_begin1, decode prog_11_method_5_code q.1 = .ok q.2 := by decide +kernel
theorem d_Mo_begin_68 : decode prog_11_method_5_code 68 = .ok (.goto (-35), 3) := q_tb t_Mo_begin1 0 rfl
theorem d_Mo_begin_71 : decode prog_11_method_5_code 71 = .ok (.return_, 1) := q_tb t_Mo_begin1 1 rfl
def T_Mo_clear : List (Nat × Instr × Nat) := [(0, .aload_n 0, 1), (1, .iconst 0, 1), (2, .putfield 90, 3), (5, .aload_n 0, 1), (6, .getfield 111, 3), (9, .istore_n 1, 1), (10, .aload_n 0, 1), (11, .iconst 0, 1), (12, .putfield 111, 3), (15, .aload_n 0, 1), (16, .iconst 0, 1), (17, .putfield 105, 3), (20, .aload_n 0, 1), (21, .invokevirtual 108, 3), (24, .iload_n 1, 1), (25, .ireturn, 1)]
set_option maxRecDepth 100000 in
theorem t_Mo_clear : ∀ q ∈ T_Mo_clear, decode prog_11_method_7_code q.1 = .ok q.2 := by decide +kernel
theorem d_Mo_clear_0 : decode prog_11_method_7_code 0 = .ok (.aload_n 0, 1) := q_tb t_Mo_clear 0 rfl
theorem d_Mo_clear_1 : decode prog_11_method_7_code 1 = .ok (.iconst 0, 1) := q_tb t_Mo_clear 1 rfl
theorem d_Mo_clear_2 : decode prog_11_method_7_code 2 = .ok (.putfield 90, 3) := q_tb t_Mo_clear 2 rfl
theorem d_Mo_clear_5 : decode prog_11_method_7_code 5 = .ok (.aload_n 0, 1) := q_tb t_Mo_clear 3 rfl
theorem d_Mo_clear_6 : decode prog_11_method_7_code 6 = .ok (.getfield 111, 3) := q_tb t_Mo_clear 4 rfl
theorem d_Mo_clear_9 : decode prog_11_method_7_code 9 = .ok (.istore_n 1, 1) := q_tb t_Mo_clear 5 rfl
theorem d_Mo_clear_10 : decode prog_11_method_7_code 10 = .ok (.aload_n 0, 1) := q_tb t_Mo_clear 6 rfl
theorem d_Mo_clear_11 : decode prog_11_method_7_code 11 = .ok (.iconst 0, 1) := q_tb t_Mo_clear 7 rfl
theorem d_Mo_clear_12 : decode prog_11_method_7_code 12 = .ok (.putfield 111, 3) := q_tb t_Mo_clear 8 rfl
theorem d_Mo_clear_15 : decode prog_11_method_7_code 15 = .ok (.aload_n 0, 1) := q_tb t_Mo_clear 9 rfl
theorem d_Mo_clear_16 : decode prog_11_method_7_code 16 = .ok (.iconst 0, 1) := q_tb t_Mo_clear 10 rfl
theorem d_Mo_clear_17 : decode prog_11_method_7_code 17 = .ok (.putfield 105, 3) := q_tb t_Mo_clear 11 rfl
theorem d_Mo_clear_20 : decode prog_11_method_7_code 20 = .ok (.aload_n 0, 1) := q_tb t_Mo_clear 12 rfl
theorem d_Mo_clear_21 : decode prog_11_method_7_code 21 = .ok (.invokevirtual 108, 3) := q_tb t_Mo_clear 13 rfl
theorem d_Mo_clear_24 : decode prog_11_method_7_code 24 = .ok (.iload_n 1, 1) := q_tb t_Mo_clear 14 rfl
theorem d_Mo_clear_25 : decode prog_11_method_7_code 25 = .ok (.ireturn, 1) := q_tb t_Mo_clear 15 rfl
def T_Mo_process0 : List (Nat × Instr × Nat) := [(0, .aload_n 0, 1), (1, .iconst 0, 1), (2, .putfield 90, 3), (5, .aload_n 0, 1), (6, .getfield 111, 3), (9, .bipush 6, 2), (11, .if_icmp .ne 5, 3), (14, .iconst (-1), 1), (15, .ireturn, 1), (16, .aload_n 0, 1), (17, .iconst 0, 1), (18, .putfield 114, 3), (21, .aload_n 0, 1), (22, .iconst (-1), 1), (23, .putfield 13, 3), (26, .aload_n 0, 1), (27, .iconst 0, 1), (28, .putfield 123, 3), (31, .aload_n 0, 1), (32, .iconst 0, 1), (33, .putfield 143, 3), (36, .aload_n 0, 1), (37, .iconst 0, 1), (38, .putfield 117, 3), (41, .aload_n 0, 1), (42, .getfield 41, 3), (45, .iconst 0, 1), (46, .iconst 0, 1), (47, .iastore, 1), (48, .aload_n 0, 1), (49, .invokevirtual 156, 3), (52, .aload_n 0, 1), (53, .getfield 114, 3), (56, .ifCond .ne 21, 3), (59, .aload_n 0, 1), (60, .getfield 123, 3), (63, .aload_n 0, 1), (64, .getfield 93, 3), (67, .if_icmp .ge 10, 3), (70, .aload_n 0, 1)]
set_option maxRecDepth 100000 in
theorem t_Mo_process0 : ∀ q ∈ T_Mo_process0, decode prog_11_method_18_code q.1 = .ok q.2 := by decide +kernel
theorem d_Mo_process_0 : decode prog_11_method_18_code 0 = .ok (.aload_n 0, 1) := q_tb t_Mo_process0 0 rfl
theorem d_Mo_process_1 : decode prog_11_method_18_code 1 = .ok (.iconst 0, 1) := q_tb t_Mo_process0 1 rfl
theorem d_Mo_process_2 : decode prog_11_method_18_code 2 = .ok (.putfield 90, 3) := q_tb t_Mo_process0 2 rfl
theorem d_Mo_process_5 : decode prog_11_method_18_code 5 = .ok (.aload_n 0, 1) := q_tb t_Mo_process0 3 rfl
theorem d_Mo_process_6 : decode prog_11_method_18_code 6 = .ok (.getfield 111, 3) := q_tb t_Mo_process0 4 rfl
theorem d_Mo_process_9 : decode prog_11_method_18_code 9 = .ok (.bipush 6, 2) := q_tb t_Mo_process0 5 rfl
theorem d_Mo_process_11 : decode prog_11_method_18_code 11 = .ok (.if_icmp .ne 5, 3) := q_tb t_Mo_process0 6 rfl
theorem d_Mo_process_14 : decode prog_11_method_18_code 14 = .ok (.iconst (-1), 1) := q_tb t_Mo_process0 7 rfl
theorem d_Mo_process_15 : decode prog_11_method_18_code 15 = .ok (.ireturn, 1) := q_tb t_Mo_process0 8 rfl
theorem d_Mo_process_16 : decode prog_11_method_18_code 16 = .ok (.aload_n 0, 1) := q_tb t_Mo_process0 9 rfl
theorem d_Mo_process_17 : decode prog_11_method_18_code 17 = .ok (.iconst 0, 1) := q_tb t_Mo_process0 10 rfl
theorem d_Mo_process_18 : decode prog_11_method_18_code 18 = .ok (.putfield 114, 3) := q_tb t_Mo_process0 11 rfl
theorem d_Mo_process_21 : decode prog_11_method_18_code 21 = .ok (.aload_n 0, 1) := q_tb t_Mo_process0 12 rfl
theorem d_Mo_process_22 : decode prog_11_method_18_code 22 = .ok (.iconst (-1), 1) := q_tb t_Mo_process0 13 rfl
theorem d_Mo_process_23 : decode prog_11_method_18_code 23 = .ok (.putfield 13, 3) := q_tb t_Mo_process0 14 rfl
theorem d_Mo_process_26 : decode prog_11_method_18_code 26 = .ok (.aload_n 0, 1) := q_tb t_Mo_process0 15 rfl
theorem d_Mo_process_27 : decode prog_11_method_18_code 27 = .ok (.iconst 0, 1) := q_tb t_Mo_process0 16 rfl
theorem d_Mo_process_28 : decode prog_11_method_18_code 28 = .ok (.putfield 123, 3) := q_tb t_Mo_process0 17 rfl
theorem d_Mo_process_31 : decode prog_11_method_18_code 31 = .ok (.aload_n 0, 1) := q_tb t_Mo_process0 18 rfl
theorem d_Mo_process_32 : decode prog_11_method_18_code 32 = .ok (.iconst 0, 1) := q_tb t_Mo_process0 19 rfl
theorem d_Mo_process_33 : decode prog_11_method_18_code 33 = .ok (.putfield 143, 3) := q_tb t_Mo_process0 20 rfl
theorem d_Mo_process_36 : decode prog_11_method_18_code 36 = .ok (.aload_n 0, 1) := q_tb t_Mo_process0 21 rfl
theorem d_Mo_process_37 : decode prog_11_method_18_code 37 = .ok (.iconst 0, 1) := q_tb t_Mo_process0 22 rfl
theorem d_Mo_process_38 : decode prog_11_method_18_code 38 = .ok (.putfield 117, 3) := q_tb t_Mo_process0 23 rfl
theorem d_Mo_process_41 : decode prog_11_method_18_code 41 = .ok (.aload_n 0, 1) := q_tb t_Mo_process0 24 rfl
theorem d_Mo_process_42 : decode prog_11_method_18_code 42 = .ok (.getfield 41, 3) := q_tb t_Mo_process0 25 rfl
theorem d_Mo_process_45 : decode prog_11_method_18_code 45 = .ok (.iconst 0, 1) := q_tb t_Mo_process0 26 rfl
theorem d_Mo_process_46 : decode prog_11_method_18_code 46 = .ok (.iconst 0, 1) := q_tb t_Mo_process0 27 rfl
theorem d_Mo_process_47 : decode prog_11_method_18_code 47 = .ok (.iastore, 1) := q_tb t_Mo_process0 28 rfl
theorem d_Mo_process_48 : decode prog_11_method_18_code 48 = .ok (.aload_n 0, 1) := q_tb t_Mo_process0 29 rfl
theorem d_Mo_process_49 : decode prog_11_method_18_code 49 = .ok (.invokevirtual 156, 3) := q_tb t_Mo_process0 30 rfl
theorem d_Mo_process_52 : decode prog_11_method_18_code 52 = .ok (.aload_n 0, 1) := q_tb t_Mo_process0 31 rfl
theorem d_Mo_process_53 : decode prog_11_method_18_code 53 = .ok (.getfield 114, 3) := q_tb t_Mo_process0 32 rfl
theorem d_Mo_process_56 : decode prog_11_method_18_code 56 = .ok (.ifCond .ne 21, 3) := q_tb t_Mo_process0 33 rfl
theorem d_Mo_process_59 : decode prog_11_method_18_code 59 = .ok (.aload_n 0, 1) := q_tb t_Mo_process0 34 rfl
theorem d_Mo_process_60 : decode prog_11_method_18_code 60 = .ok (.getfield 123, 3) := q_tb t_Mo_process0 35 rfl
theorem d_Mo_process_63 : decode prog_11_method_18_code 63 = .ok (.aload_n 0, 1) := q_tb t_Mo_process0 36 rfl
theorem d_Mo_process_64 : decode prog_11_method_18_code 64 = .ok (.getfield 93, 3) := q_tb t_Mo_process0 37 rfl
theorem d_Mo_process_67 : decode prog_11_method_18_code 67 = .ok (.if_icmp .ge 10, 3) := q_tb t_Mo_process0 38 rfl
theorem d_Mo_process_70 : decode prog_11_method_18_code 70 = .ok (.aload_n 0, 1) := q_tb t_Mo_process0 39 rfl
def T_Mo_process1 : List (Nat × Instr × Nat) := [(71, .invokevirtual 165, 3), (74, .goto (-22), 3), (77, .aload_n 0, 1), (78, .getfield 117, 3), (81, .ifCond .le 12, 3), (84, .aload_n 0, 1), (85, .iconst 1, 1), (86, .aload_n 0, 1), (87, .getfield 93, 3), (90, .invokevirtual 149, 3), (93, .aload_n 0, 1), (94, .getfield 114, 3), (97, .ifCond .le 5, 3), (100, .iconst (-1), 1), (101, .ireturn, 1), (102, .aload_n 0, 1), (103, .invokevirtual 159, 3), (106, .aload_n 0, 1), (107, .getfield 41, 3), (110, .iconst 0, 1), (111, .aload_n 0, 1), (112, .getfield 57, 3), (115, .iconst 0, 1), (116, .iaload, 1), (117, .iastore, 1), (118, .aload_n 0, 1), (119, .getfield 111, 3), (122, .istore_n 1, 1), (123, .aload_n 0, 1), (124, .getfield 23, 3), (127, .iload_n 1, 1), (128, .aload_n 0, 1), (129, .getfield 143, 3), (132, .iconst 1, 1), (133, .iadd, 1), (134, .iastore, 1), (135, .aload_n 0, 1), (136, .getfield 26, 3), (139, .iload_n 1, 1), (140, .aload_n 0, 1)]
set_option maxRecDepth 100000 in
theorem t_Mo_process1 : ∀ q ∈ T_Mo_process1, decode prog_11_method_18_code q.1 = .ok q.2 := by decide +kernel
theorem d_Mo_process_71 : decode prog_11_method_18_code 71 = .ok (.invokevirtual 165, 3) := q_tb t_Mo_process1 0 rfl
theorem d_Mo_process_74 : decode prog_11_method_18_code 74 = .ok (.goto (-22), 3) := q_tb t_Mo_process1 1 rfl
theorem d_Mo_process_77 : decode prog_11_method_18_code 77 = .ok (.aload_n 0, 1) := q_tb t_Mo_process1 2 rfl
theorem d_Mo_process_78 : decode prog_11_method_18_code 78 = .ok (.getfield 117, 3) := q_tb t_Mo_process1 3 rfl
theorem d_Mo_process_81 : decode prog_11_method_18_code 81 = .ok (.ifCond .le 12, 3) := q_tb t_Mo_process1 4 rfl
theorem d_Mo_process_84 : decode prog_11_method_18_code 84 = .ok (.aload_n 0, 1) := q_tb t_Mo_process1 5 rfl
theorem d_Mo_process_85 : decode prog_11_method_18_code 85 = .ok (.iconst 1, 1) := q_tb t_Mo_process1 6 rfl
theorem d_Mo_process_86 : decode prog_11_method_18_code 86 = .ok (.aload_n 0, 1) := q_tb t_Mo_process1 7 rfl
theorem d_Mo_process_87 : decode prog_11_method_18_code 87 = .ok (.getfield 93, 3) := q_tb t_Mo_process1 8 rfl
theorem d_Mo_process_90 : decode prog_11_method_18_code 90 = .ok (.invokevirtual 149, 3) := q_tb t_Mo_process1 9 rfl
theorem d_Mo_process_93 : decode prog_11_method_18_code 93 = .ok (.aload_n 0, 1) := q_tb t_Mo_process1 10 rfl
theorem d_Mo_process_94 : decode prog_11_method_18_code 94 = .ok (.getfield 114, 3) := q_tb t_Mo_process1 11 rfl
theorem d_Mo_process_97 : decode prog_11_method_18_code 97 = .ok (.ifCond .le 5, 3) := q_tb t_Mo_process1 12 rfl
theorem d_Mo_process_100 : decode prog_11_method_18_code 100 = .ok (.iconst (-1), 1) := q_tb t_Mo_process1 13 rfl
theorem d_Mo_process_101 : decode prog_11_method_18_code 101 = .ok (.ireturn, 1) := q_tb t_Mo_process1 14 rfl
theorem d_Mo_process_102 : decode prog_11_method_18_code 102 = .ok (.aload_n 0, 1) := q_tb t_Mo_process1 15 rfl
theorem d_Mo_process_103 : decode prog_11_method_18_code 103 = .ok (.invokevirtual 159, 3) := q_tb t_Mo_process1 16 rfl
theorem d_Mo_process_106 : decode prog_11_method_18_code 106 = .ok (.aload_n 0, 1) := q_tb t_Mo_process1 17 rfl
theorem d_Mo_process_107 : decode prog_11_method_18_code 107 = .ok (.getfield 41, 3) := q_tb t_Mo_process1 18 rfl
theorem d_Mo_process_110 : decode prog_11_method_18_code 110 = .ok (.iconst 0, 1) := q_tb t_Mo_process1 19 rfl
theorem d_Mo_process_111 : decode prog_11_method_18_code 111 = .ok (.aload_n 0, 1) := q_tb t_Mo_process1 20 rfl
theorem d_Mo_process_112 : decode prog_11_method_18_code 112 = .ok (.getfield 57, 3) := q_tb t_Mo_process1 21 rfl
theorem d_Mo_process_115 : decode prog_11_method_18_code 115 = .ok (.iconst 0, 1) := q_tb t_Mo_process1 22 rfl
theorem d_Mo_process_116 : decode prog_11_method_18_code 116 = .ok (.iaload, 1) := q_tb t_Mo_process1 23 rfl
theorem d_Mo_process_117 : decode prog_11_method_18_code 117 = .ok (.iastore, 1) := q_tb t_Mo_process1 24 rfl
theorem d_Mo_process_118 : decode prog_11_method_18_code 118 = .ok (.aload_n 0, 1) := q_tb t_Mo_process1 25 rfl
theorem d_Mo_process_119 : decode prog_11_method_18_code 119 = .ok (.getfield 111, 3) := q_tb t_Mo_process1 26 rfl
theorem d_Mo_process_122 : decode prog_11_method_18_code 122 = .ok (.istore_n 1, 1) := q_tb t_Mo_process1 27 rfl
theorem d_Mo_process_123 : decode prog_11_method_18_code 123 = .ok (.aload_n 0, 1) := q_tb t_Mo_process1 28 rfl
theorem d_Mo_process_124 : decode prog_11_method_18_code 124 = .ok (.getfield 23, 3) := q_tb t_Mo_process1 29 rfl
theorem d_Mo_process_127 : decode prog_11_method_18_code 127 = .ok (.iload_n 1, 1) := q_tb t_Mo_process1 30 rfl
theorem d_Mo_process_128 : decode prog_11_method_18_code 128 = .ok (.aload_n 0, 1) := q_tb t_Mo_process1 31 rfl
theorem d_Mo_process_129 : decode prog_11_method_18_code 129 = .ok (.getfield 143, 3) := q_tb t_Mo_process1 32 rfl
theorem d_Mo_process_132 : decode prog_11_method_18_code 132 = .ok (.iconst 1, 1) := q_tb t_Mo_process1 33 rfl
theorem d_Mo_process_133 : decode prog_11_method_18_code 133 = .ok (.iadd, 1) := q_tb t_Mo_process1 34 rfl
theorem d_Mo_process_134 : decode prog_11_method_18_code 134 = .ok (.iastore, 1) := q_tb t_Mo_process1 35 rfl
theorem d_Mo_process_135 : decode prog_11_method_18_code 135 = .ok (.aload_n 0, 1) := q_tb t_Mo_process1 36 rfl
theorem d_Mo_process_136 : decode prog_11_method_18_code 136 = .ok (.getfield 26, 3) := q_tb t_Mo_process1 37 rfl
theorem d_Mo_process_139 : decode prog_11_method_18_code 139 = .ok (.iload_n 1, 1) := q_tb t_Mo_process1 38 rfl
theorem d_Mo_process_140 : decode prog_11_method_18_code 140 = .ok (.aload_n 0, 1) := q_tb t_Mo_process1 39 rfl
def T_Mo_process2 : List (Nat × Instr × Nat) := [(141, .getfield 53, 3), (144, .iconst 0, 1), (145, .baload, 1), (146, .ifCond .eq 14, 3), (149, .aload_n 0, 1), (150, .getfield 60, 3), (153, .iconst 0, 1), (154, .iaload, 1), (155, .iconst 1, 1), (156, .ior, 1), (157, .goto 9, 3), (160, .aload_n 0, 1), (161, .getfield 60, 3), (164, .iconst 0, 1), (165, .iaload, 1), (166, .iastore, 1), (167, .iconst 0, 1), (168, .istore_n 2, 1), (169, .iload_n 2, 1), (170, .bipush 13, 2), (172, .if_icmp .ge 89, 3), (175, .aload_n 0, 1), (176, .getfield 29, 3), (179, .bipush 13, 2), (181, .iload_n 1, 1), (182, .imul, 1), (183, .iload_n 2, 1), (184, .iadd, 1), (185, .iload_n 2, 1), (186, .aload_n 0, 1), (187, .getfield 143, 3), (190, .if_icmp .gt 12, 3), (193, .aload_n 0, 1), (194, .getfield 41, 3), (197, .iload_n 2, 1), (198, .iaload, 1), (199, .goto 4, 3), (202, .iconst 0, 1), (203, .iastore, 1), (204, .aload_n 0, 1)]
set_option maxRecDepth 100000 in
theorem t_Mo_process2 : ∀ q ∈ T_Mo_process2, decode prog_11_method_18_code q.1 = .ok q.2 := by decide +kernel
theorem d_Mo_process_141 : decode prog_11_method_18_code 141 = .ok (.getfield 53, 3) := q_tb t_Mo_process2 0 rfl
theorem d_Mo_process_144 : decode prog_11_method_18_code 144 = .ok (.iconst 0, 1) := q_tb t_Mo_process2 1 rfl
theorem d_Mo_process_145 : decode prog_11_method_18_code 145 = .ok (.baload, 1) := q_tb t_Mo_process2 2 rfl
theorem d_Mo_process_146 : decode prog_11_method_18_code 146 = .ok (.ifCond .eq 14, 3) := q_tb t_Mo_process2 3 rfl
theorem d_Mo_process_149 : decode prog_11_method_18_code 149 = .ok (.aload_n 0, 1) := q_tb t_Mo_process2 4 rfl
theorem d_Mo_process_150 : decode prog_11_method_18_code 150 = .ok (.getfield 60, 3) := q_tb t_Mo_process2 5 rfl
theorem d_Mo_process_153 : decode prog_11_method_18_code 153 = .ok (.iconst 0, 1) := q_tb t_Mo_process2 6 rfl
theorem d_Mo_process_154 : decode prog_11_method_18_code 154 = .ok (.iaload, 1) := q_tb t_Mo_process2 7 rfl
theorem d_Mo_process_155 : decode prog_11_method_18_code 155 = .ok (.iconst 1, 1) := q_tb t_Mo_process2 8 rfl
theorem d_Mo_process_156 : decode prog_11_method_18_code 156 = .ok (.ior, 1) := q_tb t_Mo_process2 9 rfl
theorem d_Mo_process_157 : decode prog_11_method_18_code 157 = .ok (.goto 9, 3) := q_tb t_Mo_process2 10 rfl
theorem d_Mo_process_160 : decode prog_11_method_18_code 160 = .ok (.aload_n 0, 1) := q_tb t_Mo_process2 11 rfl
theorem d_Mo_process_161 : decode prog_11_method_18_code 161 = .ok (.getfield 60, 3) := q_tb t_Mo_process2 12 rfl
theorem d_Mo_process_164 : decode prog_11_method_18_code 164 = .ok (.iconst 0, 1) := q_tb t_Mo_process2 13 rfl
theorem d_Mo_process_165 : decode prog_11_method_18_code 165 = .ok (.iaload, 1) := q_tb t_Mo_process2 14 rfl
theorem d_Mo_process_166 : decode prog_11_method_18_code 166 = .ok (.iastore, 1) := q_tb t_Mo_process2 15 rfl
theorem d_Mo_process_167 : decode prog_11_method_18_code 167 = .ok (.iconst 0, 1) := q_tb t_Mo_process2 16 rfl
theorem d_Mo_process_168 : decode prog_11_method_18_code 168 = .ok (.istore_n 2, 1) := q_tb t_Mo_process2 17 rfl
theorem d_Mo_process_169 : decode prog_11_method_18_code 169 = .ok (.iload_n 2, 1) := q_tb t_Mo_process2 18 rfl
theorem d_Mo_process_170 : decode prog_11_method_18_code 170 = .ok (.bipush 13, 2) := q_tb t_Mo_process2 19 rfl
theorem d_Mo_process_172 : decode prog_11_method_18_code 172 = .ok (.if_icmp .ge 89, 3) := q_tb t_Mo_process2 20 rfl
theorem d_Mo_process_175 : decode prog_11_method_18_code 175 = .ok (.aload_n 0, 1) := q_tb t_Mo_process2 21 rfl
theorem d_Mo_process_176 : decode prog_11_method_18_code 176 = .ok (.getfield 29, 3) := q_tb t_Mo_process2 22 rfl
theorem d_Mo_process_179 : decode prog_11_method_18_code 179 = .ok (.bipush 13, 2) := q_tb t_Mo_process2 23 rfl
theorem d_Mo_process_181 : decode prog_11_method_18_code 181 = .ok (.iload_n 1, 1) := q_tb t_Mo_process2 24 rfl
theorem d_Mo_process_182 : decode prog_11_method_18_code 182 = .ok (.imul, 1) := q_tb t_Mo_process2 25 rfl
theorem d_Mo_process_183 : decode prog_11_method_18_code 183 = .ok (.iload_n 2, 1) := q_tb t_Mo_process2 26 rfl
theorem d_Mo_process_184 : decode prog_11_method_18_code 184 = .ok (.iadd, 1) := q_tb t_Mo_process2 27 rfl
theorem d_Mo_process_185 : decode prog_11_method_18_code 185 = .ok (.iload_n 2, 1) := q_tb t_Mo_process2 28 rfl
theorem d_Mo_process_186 : decode prog_11_method_18_code 186 = .ok (.aload_n 0, 1) := q_tb t_Mo_process2 29 rfl
theorem d_Mo_process_187 : decode prog_11_method_18_code 187 = .ok (.getfield 143, 3) := q_tb t_Mo_process2 30 rfl
theorem d_Mo_process_190 : decode prog_11_method_18_code 190 = .ok (.if_icmp .gt 12, 3) := q_tb t_Mo_process2 31 rfl
theorem d_Mo_process_193 : decode prog_11_method_18_code 193 = .ok (.aload_n 0, 1) := q_tb t_Mo_process2 32 rfl
theorem d_Mo_process_194 : decode prog_11_method_18_code 194 = .ok (.getfield 41, 3) := q_tb t_Mo_process2 33 rfl
theorem d_Mo_process_197 : decode prog_11_method_18_code 197 = .ok (.iload_n 2, 1) := q_tb t_Mo_process2 34 rfl
theorem d_Mo_process_198 : decode prog_11_method_18_code 198 = .ok (.iaload, 1) := q_tb t_Mo_process2 35 rfl
theorem d_Mo_process_199 : decode prog_11_method_18_code 199 = .ok (.goto 4, 3) := q_tb t_Mo_process2 36 rfl
theorem d_Mo_process_202 : decode prog_11_method_18_code 202 = .ok (.iconst 0, 1) := q_tb t_Mo_process2 37 rfl
theorem d_Mo_process_203 : decode prog_11_method_18_code 203 = .ok (.iastore, 1) := q_tb t_Mo_process2 38 rfl
theorem d_Mo_process_204 : decode prog_11_method_18_code 204 = .ok (.aload_n 0, 1) := q_tb t_Mo_process2 39 rfl
def T_Mo_process3 : List (Nat × Instr × Nat) := [(205, .getfield 32, 3), (208, .bipush 13, 2), (210, .iload_n 1, 1), (211, .imul, 1), (212, .iload_n 2, 1), (213, .iadd, 1), (214, .aload_n 0, 1), (215, .getfield 44, 3), (218, .iload_n 2, 1), (219, .iaload, 1), (220, .iastore, 1), (221, .aload_n 0, 1), (222, .getfield 35, 3), (225, .bipush 13, 2), (227, .iload_n 1, 1), (228, .imul, 1), (229, .iload_n 2, 1), (230, .iadd, 1), (231, .aload_n 0, 1), (232, .getfield 47, 3), (235, .iload_n 2, 1), (236, .iaload, 1), (237, .iastore, 1), (238, .aload_n 0, 1), (239, .getfield 38, 3), (242, .bipush 13, 2), (244, .iload_n 1, 1), (245, .imul, 1), (246, .iload_n 2, 1), (247, .iadd, 1), (248, .aload_n 0, 1), (249, .getfield 50, 3), (252, .iload_n 2, 1), (253, .iaload, 1), (254, .iastore, 1), (255, .iinc 2 1, 3), (258, .goto (-89), 3), (261, .aload_n 0, 1), (262, .dup, 1), (263, .getfield 111, 3)]
set_option maxRecDepth 100000 in
theorem t_Mo_process3 : ∀ q ∈ T_Mo_process3, decode prog_11_method_18_code q.1 = .ok q.2 := by decide +kernel
theorem d_Mo_process_205 : decode prog_11_method_18_code 205 = .ok (.getfield 32, 3) := q_tb t_Mo_process3 0 rfl
theorem d_Mo_process_208 : decode prog_11_method_18_code 208 = .ok (.bipush 13, 2) := q_tb t_Mo_process3 1 rfl
theorem d_Mo_process_210 : decode prog_11_method_18_code 210 = .ok (.iload_n 1, 1) := q_tb t_Mo_process3 2 rfl
theorem d_Mo_process_211 : decode prog_11_method_18_code 211 = .ok (.imul, 1) := q_tb t_Mo_process3 3 rfl
theorem d_Mo_process_212 : decode prog_11_method_18_code 212 = .ok (.iload_n 2, 1) := q_tb t_Mo_process3 4 rfl
theorem d_Mo_process_213 : decode prog_11_method_18_code 213 = .ok (.iadd, 1) := q_tb t_Mo_process3 5 rfl
theorem d_Mo_process_214 : decode prog_11_method_18_code 214 = .ok (.aload_n 0, 1) := q_tb t_Mo_process3 6 rfl
theorem d_Mo_process_215 : decode prog_11_method_18_code 215 = .ok (.getfield 44, 3) := q_tb t_Mo_process3 7 rfl
theorem d_Mo_process_218 : decode prog_11_method_18_code 218 = .ok (.iload_n 2, 1) := q_tb t_Mo_process3 8 rfl
theorem d_Mo_process_219 : decode prog_11_method_18_code 219 = .ok (.iaload, 1) := q_tb t_Mo_process3 9 rfl
theorem d_Mo_process_220 : decode prog_11_method_18_code 220 = .ok (.iastore, 1) := q_tb t_Mo_process3 10 rfl
theorem d_Mo_process_221 : decode prog_11_method_18_code 221 = .ok (.aload_n 0, 1) := q_tb t_Mo_process3 11 rfl
theorem d_Mo_process_222 : decode prog_11_method_18_code 222 = .ok (.getfield 35, 3) := q_tb t_Mo_process3 12 rfl
theorem d_Mo_process_225 : decode prog_11_method_18_code 225 = .ok (.bipush 13, 2) := q_tb t_Mo_process3 13 rfl
theorem d_Mo_process_227 : decode prog_11_method_18_code 227 = .ok (.iload_n 1, 1) := q_tb t_Mo_process3 14 rfl
theorem d_Mo_process_228 : decode prog_11_method_18_code 228 = .ok (.imul, 1) := q_tb t_Mo_process3 15 rfl
theorem d_Mo_process_229 : decode prog_11_method_18_code 229 = .ok (.iload_n 2, 1) := q_tb t_Mo_process3 16 rfl
theorem d_Mo_process_230 : decode prog_11_method_18_code 230 = .ok (.iadd, 1) := q_tb t_Mo_process3 17 rfl
theorem d_Mo_process_231 : decode prog_11_method_18_code 231 = .ok (.aload_n 0, 1) := q_tb t_Mo_process3 18 rfl
theorem d_Mo_process_232 : decode prog_11_method_18_code 232 = .ok (.getfield 47, 3) := q_tb t_Mo_process3 19 rfl
theorem d_Mo_process_235 : decode prog_11_method_18_code 235 = .ok (.iload_n 2, 1) := q_tb t_Mo_process3 20 rfl
theorem d_Mo_process_236 : decode prog_11_method_18_code 236 = .ok (.iaload, 1) := q_tb t_Mo_process3 21 rfl
theorem d_Mo_process_237 : decode prog_11_method_18_code 237 = .ok (.iastore, 1) := q_tb t_Mo_process3 22 rfl
theorem d_Mo_process_238 : decode prog_11_method_18_code 238 = .ok (.aload_n 0, 1) := q_tb t_Mo_process3 23 rfl
theorem d_Mo_process_239 : decode prog_11_method_18_code 239 = .ok (.getfield 38, 3) := q_tb t_Mo_process3 24 rfl
theorem d_Mo_process_242 : decode prog_11_method_18_code 242 = .ok (.bipush 13, 2) := q_tb t_Mo_process3 25 rfl
theorem d_Mo_process_244 : decode prog_11_method_18_code 244 = .ok (.iload_n 1, 1) := q_tb t_Mo_process3 26 rfl
theorem d_Mo_process_245 : decode prog_11_method_18_code 245 = .ok (.imul, 1) := q_tb t_Mo_process3 27 rfl
theorem d_Mo_process_246 : decode prog_11_method_18_code 246 = .ok (.iload_n 2, 1) := q_tb t_Mo_process3 28 rfl
theorem d_Mo_process_247 : decode prog_11_method_18_code 247 = .ok (.iadd, 1) := q_tb t_Mo_process3 29 rfl
theorem d_Mo_process_248 : decode prog_11_method_18_code 248 = .ok (.aload_n 0, 1) := q_tb t_Mo_process3 30 rfl
theorem d_Mo_process_249 : decode prog_11_method_18_code 249 = .ok (.getfield 50, 3) := q_tb t_Mo_process3 31 rfl
theorem d_Mo_process_252 : decode prog_11_method_18_code 252 = .ok (.iload_n 2, 1) := q_tb t_Mo_process3 32 rfl
theorem d_Mo_process_253 : decode prog_11_method_18_code 253 = .ok (.iaload, 1) := q_tb t_Mo_process3 33 rfl
theorem d_Mo_process_254 : decode prog_11_method_18_code 254 = .ok (.iastore, 1) := q_tb t_Mo_process3 34 rfl
theorem d_Mo_process_255 : decode prog_11_method_18_code 255 = .ok (.iinc 2 1, 3) := q_tb t_Mo_process3 35 rfl
theorem d_Mo_process_258 : decode prog_11_method_18_code 258 = .ok (.goto (-89), 3) := q_tb t_Mo_process3 36 rfl
theorem d_Mo_process_261 : decode prog_11_method_18_code 261 = .ok (.aload_n 0, 1) := q_tb t_Mo_process3 37 rfl
theorem d_Mo_process_262 : decode prog_11_method_18_code 262 = .ok (.dup, 1) := q_tb t_Mo_process3 38 rfl
theorem d_Mo_process_263 : decode prog_11_method_18_code 263 = .ok (.getfield 111, 3) := q_tb t_Mo_process3 39 rfl
def T_Mo_process4 : List (Nat × Instr × Nat) := [(266, .iconst 1, 1), (267, .iadd, 1), (268, .putfield 111, 3), (271, .aload_n 0, 1), (272, .invokevirtual 108, 3), (275, .iload_n 1, 1), (276, .ireturn, 1)]
set_option maxRecDepth 100000 in
theorem t_Mo_process4 : ∀ q ∈ T_Mo_process4, decode prog_11_method_18_code q.1 = .ok q.2 := by decide +kernel
theorem d_Mo_process_266 : decode prog_11_method_18_code 266 = .ok (.iconst 1, 1) := q_tb t_Mo_process4 0 rfl
theorem d_Mo_process_267 : decode prog_11_method_18_code 267 = .ok (.iadd, 1) := q_tb t_Mo_process4 1 rfl
theorem d_Mo_process_268 : decode prog_11_method_18_code 268 = .ok (.putfield 111, 3) := q_tb t_Mo_process4 2 rfl
theorem d_Mo_process_271 : decode prog_11_method_18_code 271 = .ok (.aload_n 0, 1) := q_tb t_Mo_process4 3 rfl
theorem d_Mo_process_272 : decode prog_11_method_18_code 272 = .ok (.invokevirtual 108, 3) := q_tb t_Mo_process4 4 rfl
theorem d_Mo_process_275 : decode prog_11_method_18_code 275 = .ok (.iload_n 1, 1) := q_tb t_Mo_process4 5 rfl
theorem d_Mo_process_276 : decode prog_11_method_18_code 276 = .ok (.ireturn, 1) := q_tb t_Mo_process4 6 rfl
def T_Mo_beginChoices : List (Nat × Instr × Nat) := [(0, .aload_n 0, 1), (1, .getfield 53, 3), (4, .aload_n 0, 1), (5, .getfield 117, 3), (8, .iconst 0, 1), (9, .bastore, 1), (10, .aload_n 0, 1), (11, .getfield 57, 3), (14, .aload_n 0, 1), (15, .getfield 117, 3), (18, .iconst 0, 1), (19, .iastore, 1), (20, .aload_n 0, 1), (21, .getfield 60, 3), (24, .aload_n 0, 1), (25, .getfield 117, 3), (28, .iconst 0, 1), (29, .iastore, 1), (30, .aload_n 0, 1), (31, .invokevirtual 120, 3), (34, .return_, 1)]
set_option maxRecDepth 100000 in
theorem t_Mo_beginChoices : ∀ q ∈ T_Mo_beginChoices, decode prog_11_method_11_code q.1 = .ok q.2 := by decide +kernel
theorem d_Mo_beginChoices_0 : decode prog_11_method_11_code 0 = .ok (.aload_n 0, 1) := q_tb t_Mo_beginChoices 0 rfl
theorem d_Mo_beginChoices_1 : decode prog_11_method_11_code 1 = .ok (.getfield 53, 3) := q_tb t_Mo_beginChoices 1 rfl
theorem d_Mo_beginChoices_4 : decode prog_11_method_11_code 4 = .ok (.aload_n 0, 1) := q_tb t_Mo_beginChoices 2 rfl
theorem d_Mo_beginChoices_5 : decode prog_11_method_11_code 5 = .ok (.getfield 117, 3) := q_tb t_Mo_beginChoices 3 rfl
theorem d_Mo_beginChoices_8 : decode prog_11_method_11_code 8 = .ok (.iconst 0, 1) := q_tb t_Mo_beginChoices 4 rfl
theorem d_Mo_beginChoices_9 : decode prog_11_method_11_code 9 = .ok (.bastore, 1) := q_tb t_Mo_beginChoices 5 rfl
theorem d_Mo_beginChoices_10 : decode prog_11_method_11_code 10 = .ok (.aload_n 0, 1) := q_tb t_Mo_beginChoices 6 rfl
theorem d_Mo_beginChoices_11 : decode prog_11_method_11_code 11 = .ok (.getfield 57, 3) := q_tb t_Mo_beginChoices 7 rfl
theorem d_Mo_beginChoices_14 : decode prog_11_method_11_code 14 = .ok (.aload_n 0, 1) := q_tb t_Mo_beginChoices 8 rfl
theorem d_Mo_beginChoices_15 : decode prog_11_method_11_code 15 = .ok (.getfield 117, 3) := q_tb t_Mo_beginChoices 9 rfl
theorem d_Mo_beginChoices_18 : decode prog_11_method_11_code 18 = .ok (.iconst 0, 1) := q_tb t_Mo_beginChoices 10 rfl
theorem d_Mo_beginChoices_19 : decode prog_11_method_11_code 19 = .ok (.iastore, 1) := q_tb t_Mo_beginChoices 11 rfl
theorem d_Mo_beginChoices_20 : decode prog_11_method_11_code 20 = .ok (.aload_n 0, 1) := q_tb t_Mo_beginChoices 12 rfl
theorem d_Mo_beginChoices_21 : decode prog_11_method_11_code 21 = .ok (.getfield 60, 3) := q_tb t_Mo_beginChoices 13 rfl
theorem d_Mo_beginChoices_24 : decode prog_11_method_11_code 24 = .ok (.aload_n 0, 1) := q_tb t_Mo_beginChoices 14 rfl
theorem d_Mo_beginChoices_25 : decode prog_11_method_11_code 25 = .ok (.getfield 117, 3) := q_tb t_Mo_beginChoices 15 rfl
theorem d_Mo_beginChoices_28 : decode prog_11_method_11_code 28 = .ok (.iconst 0, 1) := q_tb t_Mo_beginChoices 16 rfl
theorem d_Mo_beginChoices_29 : decode prog_11_method_11_code 29 = .ok (.iastore, 1) := q_tb t_Mo_beginChoices 17 rfl
theorem d_Mo_beginChoices_30 : decode prog_11_method_11_code 30 = .ok (.aload_n 0, 1) := q_tb t_Mo_beginChoices 18 rfl
theorem d_Mo_beginChoices_31 : decode prog_11_method_11_code 31 = .ok (.invokevirtual 120, 3) := q_tb t_Mo_beginChoices 19 rfl
theorem d_Mo_beginChoices_34 : decode prog_11_method_11_code 34 = .ok (.return_, 1) := q_tb t_Mo_beginChoices 20 rfl
def T_Mo_beginRow : List (Nat × Instr × Nat) := [(0, .aload_n 0, 1), (1, .getfield 63, 3), (4, .aload_n 0, 1), (5, .getfield 117, 3), (8, .iconst 1, 1), (9, .bastore, 1), (10, .aload_n 0, 1), (11, .getfield 66, 3), (14, .aload_n 0, 1), (15, .getfield 117, 3), (18, .iconst 0, 1), (19, .iastore, 1), (20, .aload_n 0, 1), (21, .getfield 69, 3), (24, .aload_n 0, 1), (25, .getfield 117, 3), (28, .iconst 0, 1), (29, .iastore, 1), (30, .return_, 1)]
set_option maxRecDepth 100000 in
theorem t_Mo_beginRow : ∀ q ∈ T_Mo_beginRow, decode prog_11_method_10_code q.1 = .ok q.2 := by decide +kernel
theorem d_Mo_beginRow_0 : decode prog_11_method_10_code 0 = .ok (.aload_n 0, 1) := q_tb t_Mo_beginRow 0 rfl
theorem d_Mo_beginRow_1 : decode prog_11_method_10_code 1 = .ok (.getfield 63, 3) := q_tb t_Mo_beginRow 1 rfl
theorem d_Mo_beginRow_4 : decode prog_11_method_10_code 4 = .ok (.aload_n 0, 1) := q_tb t_Mo_beginRow 2 rfl
theorem d_Mo_beginRow_5 : decode prog_11_method_10_code 5 = .ok (.getfield 117, 3) := q_tb t_Mo_beginRow 3 rfl
theorem d_Mo_beginRow_8 : decode prog_11_method_10_code 8 = .ok (.iconst 1, 1) := q_tb t_Mo_beginRow 4 rfl
theorem d_Mo_beginRow_9 : decode prog_11_method_10_code 9 = .ok (.bastore, 1) := q_tb t_Mo_beginRow 5 rfl
theorem d_Mo_beginRow_10 : decode prog_11_method_10_code 10 = .ok (.aload_n 0, 1) := q_tb t_Mo_beginRow 6 rfl
theorem d_Mo_beginRow_11 : decode prog_11_method_10_code 11 = .ok (.getfield 66, 3) := q_tb t_Mo_beginRow 7 rfl
theorem d_Mo_beginRow_14 : decode prog_11_method_10_code 14 = .ok (.aload_n 0, 1) := q_tb t_Mo_beginRow 8 rfl
theorem d_Mo_beginRow_15 : decode prog_11_method_10_code 15 = .ok (.getfield 117, 3) := q_tb t_Mo_beginRow 9 rfl
theorem d_Mo_beginRow_18 : decode prog_11_method_10_code 18 = .ok (.iconst 0, 1) := q_tb t_Mo_beginRow 10 rfl
theorem d_Mo_beginRow_19 : decode prog_11_method_10_code 19 = .ok (.iastore, 1) := q_tb t_Mo_beginRow 11 rfl
theorem d_Mo_beginRow_20 : decode prog_11_method_10_code 20 = .ok (.aload_n 0, 1) := q_tb t_Mo_beginRow 12 rfl
theorem d_Mo_beginRow_21 : decode prog_11_method_10_code 21 = .ok (.getfield 69, 3) := q_tb t_Mo_beginRow 13 rfl
theorem d_Mo_beginRow_24 : decode prog_11_method_10_code 24 = .ok (.aload_n 0, 1) := q_tb t_Mo_beginRow 14 rfl
theorem d_Mo_beginRow_25 : decode prog_11_method_10_code 25 = .ok (.getfield 117, 3) := q_tb t_Mo_beginRow 15 rfl
theorem d_Mo_beginRow_28 : decode prog_11_method_10_code 28 = .ok (.iconst 0, 1) := q_tb t_Mo_beginRow 16 rfl
theorem d_Mo_beginRow_29 : decode prog_11_method_10_code 29 = .ok (.iastore, 1) := q_tb t_Mo_beginRow 17 rfl
theorem d_Mo_beginRow_30 : decode prog_11_method_10_code 30 = .ok (.return_, 1) := q_tb t_Mo_beginRow 18 rfl
def T_Mo_step0 : List (Nat × Instr × Nat) := [(0, .aload_n 0, 1), (1, .aload_n 0, 1), (2, .getfield 123, 3), (5, .invokevirtual 126, 3), (8, .istore_n 1, 1), (9, .iload_n 1, 1), (10, .bipush 40, 2), (12, .if_icmp .ne 49, 3), (15, .aload_n 0, 1), (16, .getfield 117, 3), (19, .bipush 12, 2), (21, .if_icmp .ne 13, 3), (24, .aload_n 0, 1), (25, .iconst 3, 1), (26, .aload_n 0, 1), (27, .getfield 123, 3), (30, .invokevirtual 149, 3), (33, .return_, 1), (34, .aload_n 0, 1), (35, .dup, 1), (36, .getfield 117, 3), (39, .iconst 1, 1), (40, .iadd, 1), (41, .putfield 117, 3), (44, .aload_n 0, 1), (45, .invokevirtual 156, 3), (48, .aload_n 0, 1), (49, .dup, 1), (50, .getfield 123, 3), (53, .iconst 1, 1), (54, .iadd, 1), (55, .putfield 123, 3), (58, .goto 161, 3), (61, .iload_n 1, 1), (62, .bipush 41, 2), (64, .if_icmp .ne 80, 3), (67, .aload_n 0, 1), (68, .getfield 117, 3), (71, .ifCond .le 73, 3), (74, .aload_n 0, 1)]
set_option maxRecDepth 100000 in
theorem t_Mo_step0 : ∀ q ∈ T_Mo_step0, decode prog_11_method_17_code q.1 = .ok q.2 := by decide +kernel
theorem d_Mo_step_0 : decode prog_11_method_17_code 0 = .ok (.aload_n 0, 1) := q_tb t_Mo_step0 0 rfl
theorem d_Mo_step_1 : decode prog_11_method_17_code 1 = .ok (.aload_n 0, 1) := q_tb t_Mo_step0 1 rfl
theorem d_Mo_step_2 : decode prog_11_method_17_code 2 = .ok (.getfield 123, 3) := q_tb t_Mo_step0 2 rfl
theorem d_Mo_step_5 : decode prog_11_method_17_code 5 = .ok (.invokevirtual 126, 3) := q_tb t_Mo_step0 3 rfl
theorem d_Mo_step_8 : decode prog_11_method_17_code 8 = .ok (.istore_n 1, 1) := q_tb t_Mo_step0 4 rfl
theorem d_Mo_step_9 : decode prog_11_method_17_code 9 = .ok (.iload_n 1, 1) := q_tb t_Mo_step0 5 rfl
theorem d_Mo_step_10 : decode prog_11_method_17_code 10 = .ok (.bipush 40, 2) := q_tb t_Mo_step0 6 rfl
theorem d_Mo_step_12 : decode prog_11_method_17_code 12 = .ok (.if_icmp .ne 49, 3) := q_tb t_Mo_step0 7 rfl
theorem d_Mo_step_15 : decode prog_11_method_17_code 15 = .ok (.aload_n 0, 1) := q_tb t_Mo_step0 8 rfl
theorem d_Mo_step_16 : decode prog_11_method_17_code 16 = .ok (.getfield 117, 3) := q_tb t_Mo_step0 9 rfl
theorem d_Mo_step_19 : decode prog_11_method_17_code 19 = .ok (.bipush 12, 2) := q_tb t_Mo_step0 10 rfl
theorem d_Mo_step_21 : decode prog_11_method_17_code 21 = .ok (.if_icmp .ne 13, 3) := q_tb t_Mo_step0 11 rfl
theorem d_Mo_step_24 : decode prog_11_method_17_code 24 = .ok (.aload_n 0, 1) := q_tb t_Mo_step0 12 rfl
theorem d_Mo_step_25 : decode prog_11_method_17_code 25 = .ok (.iconst 3, 1) := q_tb t_Mo_step0 13 rfl
theorem d_Mo_step_26 : decode prog_11_method_17_code 26 = .ok (.aload_n 0, 1) := q_tb t_Mo_step0 14 rfl
theorem d_Mo_step_27 : decode prog_11_method_17_code 27 = .ok (.getfield 123, 3) := q_tb t_Mo_step0 15 rfl
theorem d_Mo_step_30 : decode prog_11_method_17_code 30 = .ok (.invokevirtual 149, 3) := q_tb t_Mo_step0 16 rfl
theorem d_Mo_step_33 : decode prog_11_method_17_code 33 = .ok (.return_, 1) := q_tb t_Mo_step0 17 rfl
theorem d_Mo_step_34 : decode prog_11_method_17_code 34 = .ok (.aload_n 0, 1) := q_tb t_Mo_step0 18 rfl
theorem d_Mo_step_35 : decode prog_11_method_17_code 35 = .ok (.dup, 1) := q_tb t_Mo_step0 19 rfl
theorem d_Mo_step_36 : decode prog_11_method_17_code 36 = .ok (.getfield 117, 3) := q_tb t_Mo_step0 20 rfl
theorem d_Mo_step_39 : decode prog_11_method_17_code 39 = .ok (.iconst 1, 1) := q_tb t_Mo_step0 21 rfl
theorem d_Mo_step_40 : decode prog_11_method_17_code 40 = .ok (.iadd, 1) := q_tb t_Mo_step0 22 rfl
theorem d_Mo_step_41 : decode prog_11_method_17_code 41 = .ok (.putfield 117, 3) := q_tb t_Mo_step0 23 rfl
theorem d_Mo_step_44 : decode prog_11_method_17_code 44 = .ok (.aload_n 0, 1) := q_tb t_Mo_step0 24 rfl
theorem d_Mo_step_45 : decode prog_11_method_17_code 45 = .ok (.invokevirtual 156, 3) := q_tb t_Mo_step0 25 rfl
theorem d_Mo_step_48 : decode prog_11_method_17_code 48 = .ok (.aload_n 0, 1) := q_tb t_Mo_step0 26 rfl
theorem d_Mo_step_49 : decode prog_11_method_17_code 49 = .ok (.dup, 1) := q_tb t_Mo_step0 27 rfl
theorem d_Mo_step_50 : decode prog_11_method_17_code 50 = .ok (.getfield 123, 3) := q_tb t_Mo_step0 28 rfl
theorem d_Mo_step_53 : decode prog_11_method_17_code 53 = .ok (.iconst 1, 1) := q_tb t_Mo_step0 29 rfl
theorem d_Mo_step_54 : decode prog_11_method_17_code 54 = .ok (.iadd, 1) := q_tb t_Mo_step0 30 rfl
theorem d_Mo_step_55 : decode prog_11_method_17_code 55 = .ok (.putfield 123, 3) := q_tb t_Mo_step0 31 rfl
theorem d_Mo_step_58 : decode prog_11_method_17_code 58 = .ok (.goto 161, 3) := q_tb t_Mo_step0 32 rfl
theorem d_Mo_step_61 : decode prog_11_method_17_code 61 = .ok (.iload_n 1, 1) := q_tb t_Mo_step0 33 rfl
theorem d_Mo_step_62 : decode prog_11_method_17_code 62 = .ok (.bipush 41, 2) := q_tb t_Mo_step0 34 rfl
theorem d_Mo_step_64 : decode prog_11_method_17_code 64 = .ok (.if_icmp .ne 80, 3) := q_tb t_Mo_step0 35 rfl
theorem d_Mo_step_67 : decode prog_11_method_17_code 67 = .ok (.aload_n 0, 1) := q_tb t_Mo_step0 36 rfl
theorem d_Mo_step_68 : decode prog_11_method_17_code 68 = .ok (.getfield 117, 3) := q_tb t_Mo_step0 37 rfl
theorem d_Mo_step_71 : decode prog_11_method_17_code 71 = .ok (.ifCond .le 73, 3) := q_tb t_Mo_step0 38 rfl
theorem d_Mo_step_74 : decode prog_11_method_17_code 74 = .ok (.aload_n 0, 1) := q_tb t_Mo_step0 39 rfl
def T_Mo_step1 : List (Nat × Instr × Nat) := [(75, .invokevirtual 159, 3), (78, .aload_n 0, 1), (79, .aload_n 0, 1), (80, .getfield 53, 3), (83, .aload_n 0, 1), (84, .getfield 117, 3), (87, .baload, 1), (88, .putfield 130, 3), (91, .aload_n 0, 1), (92, .aload_n 0, 1), (93, .getfield 57, 3), (96, .aload_n 0, 1), (97, .getfield 117, 3), (100, .iaload, 1), (101, .putfield 136, 3), (104, .aload_n 0, 1), (105, .aload_n 0, 1), (106, .getfield 60, 3), (109, .aload_n 0, 1), (110, .getfield 117, 3), (113, .iaload, 1), (114, .putfield 133, 3), (117, .aload_n 0, 1), (118, .dup, 1), (119, .getfield 117, 3), (122, .iconst 1, 1), (123, .isub, 1), (124, .putfield 117, 3), (127, .aload_n 0, 1), (128, .dup, 1), (129, .getfield 123, 3), (132, .iconst 1, 1), (133, .iadd, 1), (134, .putfield 123, 3), (137, .aload_n 0, 1), (138, .invokevirtual 146, 3), (141, .goto 78, 3), (144, .iload_n 1, 1), (145, .bipush 124, 2), (147, .if_icmp .ne 24, 3)]
set_option maxRecDepth 100000 in
theorem t_Mo_step1 : ∀ q ∈ T_Mo_step1, decode prog_11_method_17_code q.1 = .ok q.2 := by decide +kernel
theorem d_Mo_step_75 : decode prog_11_method_17_code 75 = .ok (.invokevirtual 159, 3) := q_tb t_Mo_step1 0 rfl
theorem d_Mo_step_78 : decode prog_11_method_17_code 78 = .ok (.aload_n 0, 1) := q_tb t_Mo_step1 1 rfl
theorem d_Mo_step_79 : decode prog_11_method_17_code 79 = .ok (.aload_n 0, 1) := q_tb t_Mo_step1 2 rfl
theorem d_Mo_step_80 : decode prog_11_method_17_code 80 = .ok (.getfield 53, 3) := q_tb t_Mo_step1 3 rfl
theorem d_Mo_step_83 : decode prog_11_method_17_code 83 = .ok (.aload_n 0, 1) := q_tb t_Mo_step1 4 rfl
theorem d_Mo_step_84 : decode prog_11_method_17_code 84 = .ok (.getfield 117, 3) := q_tb t_Mo_step1 5 rfl
theorem d_Mo_step_87 : decode prog_11_method_17_code 87 = .ok (.baload, 1) := q_tb t_Mo_step1 6 rfl
theorem d_Mo_step_88 : decode prog_11_method_17_code 88 = .ok (.putfield 130, 3) := q_tb t_Mo_step1 7 rfl
theorem d_Mo_step_91 : decode prog_11_method_17_code 91 = .ok (.aload_n 0, 1) := q_tb t_Mo_step1 8 rfl
theorem d_Mo_step_92 : decode prog_11_method_17_code 92 = .ok (.aload_n 0, 1) := q_tb t_Mo_step1 9 rfl
theorem d_Mo_step_93 : decode prog_11_method_17_code 93 = .ok (.getfield 57, 3) := q_tb t_Mo_step1 10 rfl
theorem d_Mo_step_96 : decode prog_11_method_17_code 96 = .ok (.aload_n 0, 1) := q_tb t_Mo_step1 11 rfl
theorem d_Mo_step_97 : decode prog_11_method_17_code 97 = .ok (.getfield 117, 3) := q_tb t_Mo_step1 12 rfl
theorem d_Mo_step_100 : decode prog_11_method_17_code 100 = .ok (.iaload, 1) := q_tb t_Mo_step1 13 rfl
theorem d_Mo_step_101 : decode prog_11_method_17_code 101 = .ok (.putfield 136, 3) := q_tb t_Mo_step1 14 rfl
theorem d_Mo_step_104 : decode prog_11_method_17_code 104 = .ok (.aload_n 0, 1) := q_tb t_Mo_step1 15 rfl
theorem d_Mo_step_105 : decode prog_11_method_17_code 105 = .ok (.aload_n 0, 1) := q_tb t_Mo_step1 16 rfl
theorem d_Mo_step_106 : decode prog_11_method_17_code 106 = .ok (.getfield 60, 3) := q_tb t_Mo_step1 17 rfl
theorem d_Mo_step_109 : decode prog_11_method_17_code 109 = .ok (.aload_n 0, 1) := q_tb t_Mo_step1 18 rfl
theorem d_Mo_step_110 : decode prog_11_method_17_code 110 = .ok (.getfield 117, 3) := q_tb t_Mo_step1 19 rfl
theorem d_Mo_step_113 : decode prog_11_method_17_code 113 = .ok (.iaload, 1) := q_tb t_Mo_step1 20 rfl
theorem d_Mo_step_114 : decode prog_11_method_17_code 114 = .ok (.putfield 133, 3) := q_tb t_Mo_step1 21 rfl
theorem d_Mo_step_117 : decode prog_11_method_17_code 117 = .ok (.aload_n 0, 1) := q_tb t_Mo_step1 22 rfl
theorem d_Mo_step_118 : decode prog_11_method_17_code 118 = .ok (.dup, 1) := q_tb t_Mo_step1 23 rfl
theorem d_Mo_step_119 : decode prog_11_method_17_code 119 = .ok (.getfield 117, 3) := q_tb t_Mo_step1 24 rfl
theorem d_Mo_step_122 : decode prog_11_method_17_code 122 = .ok (.iconst 1, 1) := q_tb t_Mo_step1 25 rfl
theorem d_Mo_step_123 : decode prog_11_method_17_code 123 = .ok (.isub, 1) := q_tb t_Mo_step1 26 rfl
theorem d_Mo_step_124 : decode prog_11_method_17_code 124 = .ok (.putfield 117, 3) := q_tb t_Mo_step1 27 rfl
theorem d_Mo_step_127 : decode prog_11_method_17_code 127 = .ok (.aload_n 0, 1) := q_tb t_Mo_step1 28 rfl
theorem d_Mo_step_128 : decode prog_11_method_17_code 128 = .ok (.dup, 1) := q_tb t_Mo_step1 29 rfl
theorem d_Mo_step_129 : decode prog_11_method_17_code 129 = .ok (.getfield 123, 3) := q_tb t_Mo_step1 30 rfl
theorem d_Mo_step_132 : decode prog_11_method_17_code 132 = .ok (.iconst 1, 1) := q_tb t_Mo_step1 31 rfl
theorem d_Mo_step_133 : decode prog_11_method_17_code 133 = .ok (.iadd, 1) := q_tb t_Mo_step1 32 rfl
theorem d_Mo_step_134 : decode prog_11_method_17_code 134 = .ok (.putfield 123, 3) := q_tb t_Mo_step1 33 rfl
theorem d_Mo_step_137 : decode prog_11_method_17_code 137 = .ok (.aload_n 0, 1) := q_tb t_Mo_step1 34 rfl
theorem d_Mo_step_138 : decode prog_11_method_17_code 138 = .ok (.invokevirtual 146, 3) := q_tb t_Mo_step1 35 rfl
theorem d_Mo_step_141 : decode prog_11_method_17_code 141 = .ok (.goto 78, 3) := q_tb t_Mo_step1 36 rfl
theorem d_Mo_step_144 : decode prog_11_method_17_code 144 = .ok (.iload_n 1, 1) := q_tb t_Mo_step1 37 rfl
theorem d_Mo_step_145 : decode prog_11_method_17_code 145 = .ok (.bipush 124, 2) := q_tb t_Mo_step1 38 rfl
theorem d_Mo_step_147 : decode prog_11_method_17_code 147 = .ok (.if_icmp .ne 24, 3) := q_tb t_Mo_step1 39 rfl
def T_Mo_step2 : List (Nat × Instr × Nat) := [(150, .aload_n 0, 1), (151, .invokevirtual 159, 3), (154, .aload_n 0, 1), (155, .invokevirtual 120, 3), (158, .aload_n 0, 1), (159, .dup, 1), (160, .getfield 123, 3), (163, .iconst 1, 1), (164, .iadd, 1), (165, .putfield 123, 3), (168, .goto 51, 3), (171, .aload_n 0, 1), (172, .getfield 143, 3), (175, .bipush 12, 2), (177, .if_icmp .ne 38, 3), (180, .iload_n 1, 1), (181, .bipush 46, 2), (183, .if_icmp .eq 20, 3), (186, .iload_n 1, 1), (187, .bipush 97, 2), (189, .if_icmp .lt 26, 3), (192, .iload_n 1, 1), (193, .bipush 97, 2), (195, .aload_n 0, 1), (196, .getfield 105, 3), (199, .iadd, 1), (200, .if_icmp .ge 15, 3), (203, .aload_n 0, 1), (204, .iconst 2, 1), (205, .aload_n 0, 1), (206, .getfield 123, 3), (209, .invokevirtual 149, 3), (212, .goto 7, 3), (215, .aload_n 0, 1), (216, .invokevirtual 162, 3), (219, .return_, 1)]
set_option maxRecDepth 100000 in
theorem t_Mo_step2 : ∀ q ∈ T_Mo_step2, decode prog_11_method_17_code q.1 = .ok q.2 := by decide +kernel
theorem d_Mo_step_150 : decode prog_11_method_17_code 150 = .ok (.aload_n 0, 1) := q_tb t_Mo_step2 0 rfl
theorem d_Mo_step_151 : decode prog_11_method_17_code 151 = .ok (.invokevirtual 159, 3) := q_tb t_Mo_step2 1 rfl
theorem d_Mo_step_154 : decode prog_11_method_17_code 154 = .ok (.aload_n 0, 1) := q_tb t_Mo_step2 2 rfl
theorem d_Mo_step_155 : decode prog_11_method_17_code 155 = .ok (.invokevirtual 120, 3) := q_tb t_Mo_step2 3 rfl
theorem d_Mo_step_158 : decode prog_11_method_17_code 158 = .ok (.aload_n 0, 1) := q_tb t_Mo_step2 4 rfl
theorem d_Mo_step_159 : decode prog_11_method_17_code 159 = .ok (.dup, 1) := q_tb t_Mo_step2 5 rfl
theorem d_Mo_step_160 : decode prog_11_method_17_code 160 = .ok (.getfield 123, 3) := q_tb t_Mo_step2 6 rfl
theorem d_Mo_step_163 : decode prog_11_method_17_code 163 = .ok (.iconst 1, 1) := q_tb t_Mo_step2 7 rfl
theorem d_Mo_step_164 : decode prog_11_method_17_code 164 = .ok (.iadd, 1) := q_tb t_Mo_step2 8 rfl
theorem d_Mo_step_165 : decode prog_11_method_17_code 165 = .ok (.putfield 123, 3) := q_tb t_Mo_step2 9 rfl
theorem d_Mo_step_168 : decode prog_11_method_17_code 168 = .ok (.goto 51, 3) := q_tb t_Mo_step2 10 rfl
theorem d_Mo_step_171 : decode prog_11_method_17_code 171 = .ok (.aload_n 0, 1) := q_tb t_Mo_step2 11 rfl
theorem d_Mo_step_172 : decode prog_11_method_17_code 172 = .ok (.getfield 143, 3) := q_tb t_Mo_step2 12 rfl
theorem d_Mo_step_175 : decode prog_11_method_17_code 175 = .ok (.bipush 12, 2) := q_tb t_Mo_step2 13 rfl
theorem d_Mo_step_177 : decode prog_11_method_17_code 177 = .ok (.if_icmp .ne 38, 3) := q_tb t_Mo_step2 14 rfl
theorem d_Mo_step_180 : decode prog_11_method_17_code 180 = .ok (.iload_n 1, 1) := q_tb t_Mo_step2 15 rfl
theorem d_Mo_step_181 : decode prog_11_method_17_code 181 = .ok (.bipush 46, 2) := q_tb t_Mo_step2 16 rfl
theorem d_Mo_step_183 : decode prog_11_method_17_code 183 = .ok (.if_icmp .eq 20, 3) := q_tb t_Mo_step2 17 rfl
theorem d_Mo_step_186 : decode prog_11_method_17_code 186 = .ok (.iload_n 1, 1) := q_tb t_Mo_step2 18 rfl
theorem d_Mo_step_187 : decode prog_11_method_17_code 187 = .ok (.bipush 97, 2) := q_tb t_Mo_step2 19 rfl
theorem d_Mo_step_189 : decode prog_11_method_17_code 189 = .ok (.if_icmp .lt 26, 3) := q_tb t_Mo_step2 20 rfl
theorem d_Mo_step_192 : decode prog_11_method_17_code 192 = .ok (.iload_n 1, 1) := q_tb t_Mo_step2 21 rfl
theorem d_Mo_step_193 : decode prog_11_method_17_code 193 = .ok (.bipush 97, 2) := q_tb t_Mo_step2 22 rfl
theorem d_Mo_step_195 : decode prog_11_method_17_code 195 = .ok (.aload_n 0, 1) := q_tb t_Mo_step2 23 rfl
theorem d_Mo_step_196 : decode prog_11_method_17_code 196 = .ok (.getfield 105, 3) := q_tb t_Mo_step2 24 rfl
theorem d_Mo_step_199 : decode prog_11_method_17_code 199 = .ok (.iadd, 1) := q_tb t_Mo_step2 25 rfl
theorem d_Mo_step_200 : decode prog_11_method_17_code 200 = .ok (.if_icmp .ge 15, 3) := q_tb t_Mo_step2 26 rfl
theorem d_Mo_step_203 : decode prog_11_method_17_code 203 = .ok (.aload_n 0, 1) := q_tb t_Mo_step2 27 rfl
theorem d_Mo_step_204 : decode prog_11_method_17_code 204 = .ok (.iconst 2, 1) := q_tb t_Mo_step2 28 rfl
theorem d_Mo_step_205 : decode prog_11_method_17_code 205 = .ok (.aload_n 0, 1) := q_tb t_Mo_step2 29 rfl
theorem d_Mo_step_206 : decode prog_11_method_17_code 206 = .ok (.getfield 123, 3) := q_tb t_Mo_step2 30 rfl
theorem d_Mo_step_209 : decode prog_11_method_17_code 209 = .ok (.invokevirtual 149, 3) := q_tb t_Mo_step2 31 rfl
theorem d_Mo_step_212 : decode prog_11_method_17_code 212 = .ok (.goto 7, 3) := q_tb t_Mo_step2 32 rfl
theorem d_Mo_step_215 : decode prog_11_method_17_code 215 = .ok (.aload_n 0, 1) := q_tb t_Mo_step2 33 rfl
theorem d_Mo_step_216 : decode prog_11_method_17_code 216 = .ok (.invokevirtual 162, 3) := q_tb t_Mo_step2 34 rfl
theorem d_Mo_step_219 : decode prog_11_method_17_code 219 = .ok (.return_, 1) := q_tb t_Mo_step2 35 rfl
def T_Mo_byteAt : List (Nat × Instr × Nat) := [(0, .iload_n 1, 1), (1, .aload_n 0, 1), (2, .getfield 93, 3), (5, .if_icmp .ge 12, 3), (8, .aload_n 0, 1), (9, .getfield 7, 3), (12, .iload_n 1, 1), (13, .iaload, 1), (14, .goto 4, 3), (17, .iconst (-1), 1), (18, .ireturn, 1)]
set_option maxRecDepth 100000 in
theorem t_Mo_byteAt : ∀ q ∈ T_Mo_byteAt, decode prog_11_method_9_code q.1 = .ok q.2 := by decide +kernel
theorem d_Mo_byteAt_0 : decode prog_11_method_9_code 0 = .ok (.iload_n 1, 1) := q_tb t_Mo_byteAt 0 rfl
theorem d_Mo_byteAt_1 : decode prog_11_method_9_code 1 = .ok (.aload_n 0, 1) := q_tb t_Mo_byteAt 1 rfl
theorem d_Mo_byteAt_2 : decode prog_11_method_9_code 2 = .ok (.getfield 93, 3) := q_tb t_Mo_byteAt 2 rfl
theorem d_Mo_byteAt_5 : decode prog_11_method_9_code 5 = .ok (.if_icmp .ge 12, 3) := q_tb t_Mo_byteAt 3 rfl
theorem d_Mo_byteAt_8 : decode prog_11_method_9_code 8 = .ok (.aload_n 0, 1) := q_tb t_Mo_byteAt 4 rfl
theorem d_Mo_byteAt_9 : decode prog_11_method_9_code 9 = .ok (.getfield 7, 3) := q_tb t_Mo_byteAt 5 rfl
theorem d_Mo_byteAt_12 : decode prog_11_method_9_code 12 = .ok (.iload_n 1, 1) := q_tb t_Mo_byteAt 6 rfl
theorem d_Mo_byteAt_13 : decode prog_11_method_9_code 13 = .ok (.iaload, 1) := q_tb t_Mo_byteAt 7 rfl
theorem d_Mo_byteAt_14 : decode prog_11_method_9_code 14 = .ok (.goto 4, 3) := q_tb t_Mo_byteAt 8 rfl
theorem d_Mo_byteAt_17 : decode prog_11_method_9_code 17 = .ok (.iconst (-1), 1) := q_tb t_Mo_byteAt 9 rfl
theorem d_Mo_byteAt_18 : decode prog_11_method_9_code 18 = .ok (.ireturn, 1) := q_tb t_Mo_byteAt 10 rfl
def T_Mo_fail : List (Nat × Instr × Nat) := [(0, .aload_n 0, 1), (1, .getfield 114, 3), (4, .ifCond .ne 13, 3), (7, .aload_n 0, 1), (8, .iload_n 1, 1), (9, .putfield 114, 3), (12, .aload_n 0, 1), (13, .iload_n 2, 1), (14, .putfield 13, 3), (17, .return_, 1)]
set_option maxRecDepth 100000 in
theorem t_Mo_fail : ∀ q ∈ T_Mo_fail, decode prog_11_method_8_code q.1 = .ok q.2 := by decide +kernel
theorem d_Mo_fail_0 : decode prog_11_method_8_code 0 = .ok (.aload_n 0, 1) := q_tb t_Mo_fail 0 rfl
theorem d_Mo_fail_1 : decode prog_11_method_8_code 1 = .ok (.getfield 114, 3) := q_tb t_Mo_fail 1 rfl
theorem d_Mo_fail_4 : decode prog_11_method_8_code 4 = .ok (.ifCond .ne 13, 3) := q_tb t_Mo_fail 2 rfl
theorem d_Mo_fail_7 : decode prog_11_method_8_code 7 = .ok (.aload_n 0, 1) := q_tb t_Mo_fail 3 rfl
theorem d_Mo_fail_8 : decode prog_11_method_8_code 8 = .ok (.iload_n 1, 1) := q_tb t_Mo_fail 4 rfl
theorem d_Mo_fail_9 : decode prog_11_method_8_code 9 = .ok (.putfield 114, 3) := q_tb t_Mo_fail 5 rfl
theorem d_Mo_fail_12 : decode prog_11_method_8_code 12 = .ok (.aload_n 0, 1) := q_tb t_Mo_fail 6 rfl
theorem d_Mo_fail_13 : decode prog_11_method_8_code 13 = .ok (.iload_n 2, 1) := q_tb t_Mo_fail 7 rfl
theorem d_Mo_fail_14 : decode prog_11_method_8_code 14 = .ok (.putfield 13, 3) := q_tb t_Mo_fail 8 rfl
theorem d_Mo_fail_17 : decode prog_11_method_8_code 17 = .ok (.return_, 1) := q_tb t_Mo_fail 9 rfl
def T_Mo_endRow0 : List (Nat × Instr × Nat) := [(0, .aload_n 0, 1), (1, .getfield 53, 3), (4, .aload_n 0, 1), (5, .getfield 117, 3), (8, .aload_n 0, 1), (9, .getfield 53, 3), (12, .aload_n 0, 1), (13, .getfield 117, 3), (16, .baload, 1), (17, .ifCond .ne 15, 3), (20, .aload_n 0, 1), (21, .getfield 63, 3), (24, .aload_n 0, 1), (25, .getfield 117, 3), (28, .baload, 1), (29, .ifCond .eq 7, 3), (32, .iconst 1, 1), (33, .goto 4, 3), (36, .iconst 0, 1), (37, .bastore, 1), (38, .aload_n 0, 1), (39, .getfield 57, 3), (42, .aload_n 0, 1), (43, .getfield 117, 3), (46, .aload_n 0, 1), (47, .getfield 57, 3), (50, .aload_n 0, 1), (51, .getfield 117, 3), (54, .iaload, 1), (55, .aload_n 0, 1), (56, .getfield 66, 3), (59, .aload_n 0, 1), (60, .getfield 117, 3), (63, .iaload, 1), (64, .ior, 1), (65, .iastore, 1), (66, .aload_n 0, 1), (67, .getfield 60, 3), (70, .aload_n 0, 1), (71, .getfield 117, 3)]
set_option maxRecDepth 100000 in
theorem t_Mo_endRow0 : ∀ q ∈ T_Mo_endRow0, decode prog_11_method_12_code q.1 = .ok q.2 := by decide +kernel
theorem d_Mo_endRow_0 : decode prog_11_method_12_code 0 = .ok (.aload_n 0, 1) := q_tb t_Mo_endRow0 0 rfl
theorem d_Mo_endRow_1 : decode prog_11_method_12_code 1 = .ok (.getfield 53, 3) := q_tb t_Mo_endRow0 1 rfl
theorem d_Mo_endRow_4 : decode prog_11_method_12_code 4 = .ok (.aload_n 0, 1) := q_tb t_Mo_endRow0 2 rfl
theorem d_Mo_endRow_5 : decode prog_11_method_12_code 5 = .ok (.getfield 117, 3) := q_tb t_Mo_endRow0 3 rfl
theorem d_Mo_endRow_8 : decode prog_11_method_12_code 8 = .ok (.aload_n 0, 1) := q_tb t_Mo_endRow0 4 rfl
theorem d_Mo_endRow_9 : decode prog_11_method_12_code 9 = .ok (.getfield 53, 3) := q_tb t_Mo_endRow0 5 rfl
theorem d_Mo_endRow_12 : decode prog_11_method_12_code 12 = .ok (.aload_n 0, 1) := q_tb t_Mo_endRow0 6 rfl
theorem d_Mo_endRow_13 : decode prog_11_method_12_code 13 = .ok (.getfield 117, 3) := q_tb t_Mo_endRow0 7 rfl
theorem d_Mo_endRow_16 : decode prog_11_method_12_code 16 = .ok (.baload, 1) := q_tb t_Mo_endRow0 8 rfl
theorem d_Mo_endRow_17 : decode prog_11_method_12_code 17 = .ok (.ifCond .ne 15, 3) := q_tb t_Mo_endRow0 9 rfl
theorem d_Mo_endRow_20 : decode prog_11_method_12_code 20 = .ok (.aload_n 0, 1) := q_tb t_Mo_endRow0 10 rfl
theorem d_Mo_endRow_21 : decode prog_11_method_12_code 21 = .ok (.getfield 63, 3) := q_tb t_Mo_endRow0 11 rfl
theorem d_Mo_endRow_24 : decode prog_11_method_12_code 24 = .ok (.aload_n 0, 1) := q_tb t_Mo_endRow0 12 rfl
theorem d_Mo_endRow_25 : decode prog_11_method_12_code 25 = .ok (.getfield 117, 3) := q_tb t_Mo_endRow0 13 rfl
theorem d_Mo_endRow_28 : decode prog_11_method_12_code 28 = .ok (.baload, 1) := q_tb t_Mo_endRow0 14 rfl
theorem d_Mo_endRow_29 : decode prog_11_method_12_code 29 = .ok (.ifCond .eq 7, 3) := q_tb t_Mo_endRow0 15 rfl
theorem d_Mo_endRow_32 : decode prog_11_method_12_code 32 = .ok (.iconst 1, 1) := q_tb t_Mo_endRow0 16 rfl
theorem d_Mo_endRow_33 : decode prog_11_method_12_code 33 = .ok (.goto 4, 3) := q_tb t_Mo_endRow0 17 rfl
theorem d_Mo_endRow_36 : decode prog_11_method_12_code 36 = .ok (.iconst 0, 1) := q_tb t_Mo_endRow0 18 rfl
theorem d_Mo_endRow_37 : decode prog_11_method_12_code 37 = .ok (.bastore, 1) := q_tb t_Mo_endRow0 19 rfl
theorem d_Mo_endRow_38 : decode prog_11_method_12_code 38 = .ok (.aload_n 0, 1) := q_tb t_Mo_endRow0 20 rfl
theorem d_Mo_endRow_39 : decode prog_11_method_12_code 39 = .ok (.getfield 57, 3) := q_tb t_Mo_endRow0 21 rfl
theorem d_Mo_endRow_42 : decode prog_11_method_12_code 42 = .ok (.aload_n 0, 1) := q_tb t_Mo_endRow0 22 rfl
theorem d_Mo_endRow_43 : decode prog_11_method_12_code 43 = .ok (.getfield 117, 3) := q_tb t_Mo_endRow0 23 rfl
theorem d_Mo_endRow_46 : decode prog_11_method_12_code 46 = .ok (.aload_n 0, 1) := q_tb t_Mo_endRow0 24 rfl
theorem d_Mo_endRow_47 : decode prog_11_method_12_code 47 = .ok (.getfield 57, 3) := q_tb t_Mo_endRow0 25 rfl
theorem d_Mo_endRow_50 : decode prog_11_method_12_code 50 = .ok (.aload_n 0, 1) := q_tb t_Mo_endRow0 26 rfl
theorem d_Mo_endRow_51 : decode prog_11_method_12_code 51 = .ok (.getfield 117, 3) := q_tb t_Mo_endRow0 27 rfl
theorem d_Mo_endRow_54 : decode prog_11_method_12_code 54 = .ok (.iaload, 1) := q_tb t_Mo_endRow0 28 rfl
theorem d_Mo_endRow_55 : decode prog_11_method_12_code 55 = .ok (.aload_n 0, 1) := q_tb t_Mo_endRow0 29 rfl
theorem d_Mo_endRow_56 : decode prog_11_method_12_code 56 = .ok (.getfield 66, 3) := q_tb t_Mo_endRow0 30 rfl
theorem d_Mo_endRow_59 : decode prog_11_method_12_code 59 = .ok (.aload_n 0, 1) := q_tb t_Mo_endRow0 31 rfl
theorem d_Mo_endRow_60 : decode prog_11_method_12_code 60 = .ok (.getfield 117, 3) := q_tb t_Mo_endRow0 32 rfl
theorem d_Mo_endRow_63 : decode prog_11_method_12_code 63 = .ok (.iaload, 1) := q_tb t_Mo_endRow0 33 rfl
theorem d_Mo_endRow_64 : decode prog_11_method_12_code 64 = .ok (.ior, 1) := q_tb t_Mo_endRow0 34 rfl
theorem d_Mo_endRow_65 : decode prog_11_method_12_code 65 = .ok (.iastore, 1) := q_tb t_Mo_endRow0 35 rfl
theorem d_Mo_endRow_66 : decode prog_11_method_12_code 66 = .ok (.aload_n 0, 1) := q_tb t_Mo_endRow0 36 rfl
theorem d_Mo_endRow_67 : decode prog_11_method_12_code 67 = .ok (.getfield 60, 3) := q_tb t_Mo_endRow0 37 rfl
theorem d_Mo_endRow_70 : decode prog_11_method_12_code 70 = .ok (.aload_n 0, 1) := q_tb t_Mo_endRow0 38 rfl
theorem d_Mo_endRow_71 : decode prog_11_method_12_code 71 = .ok (.getfield 117, 3) := q_tb t_Mo_endRow0 39 rfl
def T_Mo_endRow1 : List (Nat × Instr × Nat) := [(74, .aload_n 0, 1), (75, .getfield 60, 3), (78, .aload_n 0, 1), (79, .getfield 117, 3), (82, .iaload, 1), (83, .aload_n 0, 1), (84, .getfield 69, 3), (87, .aload_n 0, 1), (88, .getfield 117, 3), (91, .iaload, 1), (92, .ior, 1), (93, .iastore, 1), (94, .return_, 1)]
set_option maxRecDepth 100000 in
theorem t_Mo_endRow1 : ∀ q ∈ T_Mo_endRow1, decode prog_11_method_12_code q.1 = .ok q.2 := by decide +kernel
theorem d_Mo_endRow_74 : decode prog_11_method_12_code 74 = .ok (.aload_n 0, 1) := q_tb t_Mo_endRow1 0 rfl
theorem d_Mo_endRow_75 : decode prog_11_method_12_code 75 = .ok (.getfield 60, 3) := q_tb t_Mo_endRow1 1 rfl
theorem d_Mo_endRow_78 : decode prog_11_method_12_code 78 = .ok (.aload_n 0, 1) := q_tb t_Mo_endRow1 2 rfl
theorem d_Mo_endRow_79 : decode prog_11_method_12_code 79 = .ok (.getfield 117, 3) := q_tb t_Mo_endRow1 3 rfl
theorem d_Mo_endRow_82 : decode prog_11_method_12_code 82 = .ok (.iaload, 1) := q_tb t_Mo_endRow1 4 rfl
theorem d_Mo_endRow_83 : decode prog_11_method_12_code 83 = .ok (.aload_n 0, 1) := q_tb t_Mo_endRow1 5 rfl
theorem d_Mo_endRow_84 : decode prog_11_method_12_code 84 = .ok (.getfield 69, 3) := q_tb t_Mo_endRow1 6 rfl
theorem d_Mo_endRow_87 : decode prog_11_method_12_code 87 = .ok (.aload_n 0, 1) := q_tb t_Mo_endRow1 7 rfl
theorem d_Mo_endRow_88 : decode prog_11_method_12_code 88 = .ok (.getfield 117, 3) := q_tb t_Mo_endRow1 8 rfl
theorem d_Mo_endRow_91 : decode prog_11_method_12_code 91 = .ok (.iaload, 1) := q_tb t_Mo_endRow1 9 rfl
theorem d_Mo_endRow_92 : decode prog_11_method_12_code 92 = .ok (.ior, 1) := q_tb t_Mo_endRow1 10 rfl
theorem d_Mo_endRow_93 : decode prog_11_method_12_code 93 = .ok (.iastore, 1) := q_tb t_Mo_endRow1 11 rfl
theorem d_Mo_endRow_94 : decode prog_11_method_12_code 94 = .ok (.return_, 1) := q_tb t_Mo_endRow1 12 rfl
def T_Mo_take0 : List (Nat × Instr × Nat) := [(0, .aload_n 0, 1), (1, .aload_n 0, 1), (2, .getfield 123, 3), (5, .invokevirtual 126, 3), (8, .bipush 42, 2), (10, .if_icmp .ne 33, 3), (13, .aload_n 0, 1), (14, .iconst 1, 1), (15, .putfield 130, 3), (18, .aload_n 0, 1), (19, .aload_n 0, 1), (20, .getfield 133, 3), (23, .aload_n 0, 1), (24, .getfield 136, 3), (27, .invokevirtual 139, 3), (30, .aload_n 0, 1), (31, .dup, 1), (32, .getfield 123, 3), (35, .iconst 1, 1), (36, .iadd, 1), (37, .putfield 123, 3), (40, .goto (-40), 3), (43, .aload_n 0, 1), (44, .aload_n 0, 1), (45, .getfield 69, 3), (48, .aload_n 0, 1), (49, .getfield 117, 3), (52, .iaload, 1), (53, .aload_n 0, 1), (54, .getfield 136, 3), (57, .invokevirtual 139, 3), (60, .aload_n 0, 1), (61, .getfield 66, 3), (64, .aload_n 0, 1), (65, .getfield 117, 3), (68, .aload_n 0, 1), (69, .getfield 63, 3), (72, .aload_n 0, 1), (73, .getfield 117, 3), (76, .baload, 1)]
set_option maxRecDepth 100000 in
theorem t_Mo_take0 : ∀ q ∈ T_Mo_take0, decode prog_11_method_14_code q.1 = .ok q.2 := by decide +kernel
theorem d_Mo_take_0 : decode prog_11_method_14_code 0 = .ok (.aload_n 0, 1) := q_tb t_Mo_take0 0 rfl
theorem d_Mo_take_1 : decode prog_11_method_14_code 1 = .ok (.aload_n 0, 1) := q_tb t_Mo_take0 1 rfl
theorem d_Mo_take_2 : decode prog_11_method_14_code 2 = .ok (.getfield 123, 3) := q_tb t_Mo_take0 2 rfl
theorem d_Mo_take_5 : decode prog_11_method_14_code 5 = .ok (.invokevirtual 126, 3) := q_tb t_Mo_take0 3 rfl
theorem d_Mo_take_8 : decode prog_11_method_14_code 8 = .ok (.bipush 42, 2) := q_tb t_Mo_take0 4 rfl
theorem d_Mo_take_10 : decode prog_11_method_14_code 10 = .ok (.if_icmp .ne 33, 3) := q_tb t_Mo_take0 5 rfl
theorem d_Mo_take_13 : decode prog_11_method_14_code 13 = .ok (.aload_n 0, 1) := q_tb t_Mo_take0 6 rfl
theorem d_Mo_take_14 : decode prog_11_method_14_code 14 = .ok (.iconst 1, 1) := q_tb t_Mo_take0 7 rfl
theorem d_Mo_take_15 : decode prog_11_method_14_code 15 = .ok (.putfield 130, 3) := q_tb t_Mo_take0 8 rfl
theorem d_Mo_take_18 : decode prog_11_method_14_code 18 = .ok (.aload_n 0, 1) := q_tb t_Mo_take0 9 rfl
theorem d_Mo_take_19 : decode prog_11_method_14_code 19 = .ok (.aload_n 0, 1) := q_tb t_Mo_take0 10 rfl
theorem d_Mo_take_20 : decode prog_11_method_14_code 20 = .ok (.getfield 133, 3) := q_tb t_Mo_take0 11 rfl
theorem d_Mo_take_23 : decode prog_11_method_14_code 23 = .ok (.aload_n 0, 1) := q_tb t_Mo_take0 12 rfl
theorem d_Mo_take_24 : decode prog_11_method_14_code 24 = .ok (.getfield 136, 3) := q_tb t_Mo_take0 13 rfl
theorem d_Mo_take_27 : decode prog_11_method_14_code 27 = .ok (.invokevirtual 139, 3) := q_tb t_Mo_take0 14 rfl
theorem d_Mo_take_30 : decode prog_11_method_14_code 30 = .ok (.aload_n 0, 1) := q_tb t_Mo_take0 15 rfl
theorem d_Mo_take_31 : decode prog_11_method_14_code 31 = .ok (.dup, 1) := q_tb t_Mo_take0 16 rfl
theorem d_Mo_take_32 : decode prog_11_method_14_code 32 = .ok (.getfield 123, 3) := q_tb t_Mo_take0 17 rfl
theorem d_Mo_take_35 : decode prog_11_method_14_code 35 = .ok (.iconst 1, 1) := q_tb t_Mo_take0 18 rfl
theorem d_Mo_take_36 : decode prog_11_method_14_code 36 = .ok (.iadd, 1) := q_tb t_Mo_take0 19 rfl
theorem d_Mo_take_37 : decode prog_11_method_14_code 37 = .ok (.putfield 123, 3) := q_tb t_Mo_take0 20 rfl
theorem d_Mo_take_40 : decode prog_11_method_14_code 40 = .ok (.goto (-40), 3) := q_tb t_Mo_take0 21 rfl
theorem d_Mo_take_43 : decode prog_11_method_14_code 43 = .ok (.aload_n 0, 1) := q_tb t_Mo_take0 22 rfl
theorem d_Mo_take_44 : decode prog_11_method_14_code 44 = .ok (.aload_n 0, 1) := q_tb t_Mo_take0 23 rfl
theorem d_Mo_take_45 : decode prog_11_method_14_code 45 = .ok (.getfield 69, 3) := q_tb t_Mo_take0 24 rfl
theorem d_Mo_take_48 : decode prog_11_method_14_code 48 = .ok (.aload_n 0, 1) := q_tb t_Mo_take0 25 rfl
theorem d_Mo_take_49 : decode prog_11_method_14_code 49 = .ok (.getfield 117, 3) := q_tb t_Mo_take0 26 rfl
theorem d_Mo_take_52 : decode prog_11_method_14_code 52 = .ok (.iaload, 1) := q_tb t_Mo_take0 27 rfl
theorem d_Mo_take_53 : decode prog_11_method_14_code 53 = .ok (.aload_n 0, 1) := q_tb t_Mo_take0 28 rfl
theorem d_Mo_take_54 : decode prog_11_method_14_code 54 = .ok (.getfield 136, 3) := q_tb t_Mo_take0 29 rfl
theorem d_Mo_take_57 : decode prog_11_method_14_code 57 = .ok (.invokevirtual 139, 3) := q_tb t_Mo_take0 30 rfl
theorem d_Mo_take_60 : decode prog_11_method_14_code 60 = .ok (.aload_n 0, 1) := q_tb t_Mo_take0 31 rfl
theorem d_Mo_take_61 : decode prog_11_method_14_code 61 = .ok (.getfield 66, 3) := q_tb t_Mo_take0 32 rfl
theorem d_Mo_take_64 : decode prog_11_method_14_code 64 = .ok (.aload_n 0, 1) := q_tb t_Mo_take0 33 rfl
theorem d_Mo_take_65 : decode prog_11_method_14_code 65 = .ok (.getfield 117, 3) := q_tb t_Mo_take0 34 rfl
theorem d_Mo_take_68 : decode prog_11_method_14_code 68 = .ok (.aload_n 0, 1) := q_tb t_Mo_take0 35 rfl
theorem d_Mo_take_69 : decode prog_11_method_14_code 69 = .ok (.getfield 63, 3) := q_tb t_Mo_take0 36 rfl
theorem d_Mo_take_72 : decode prog_11_method_14_code 72 = .ok (.aload_n 0, 1) := q_tb t_Mo_take0 37 rfl
theorem d_Mo_take_73 : decode prog_11_method_14_code 73 = .ok (.getfield 117, 3) := q_tb t_Mo_take0 38 rfl
theorem d_Mo_take_76 : decode prog_11_method_14_code 76 = .ok (.baload, 1) := q_tb t_Mo_take0 39 rfl
def T_Mo_take1 : List (Nat × Instr × Nat) := [(77, .ifCond .eq 20, 3), (80, .aload_n 0, 1), (81, .getfield 66, 3), (84, .aload_n 0, 1), (85, .getfield 117, 3), (88, .iaload, 1), (89, .aload_n 0, 1), (90, .getfield 136, 3), (93, .ior, 1), (94, .goto 12, 3), (97, .aload_n 0, 1), (98, .getfield 66, 3), (101, .aload_n 0, 1), (102, .getfield 117, 3), (105, .iaload, 1), (106, .iastore, 1), (107, .aload_n 0, 1), (108, .getfield 69, 3), (111, .aload_n 0, 1), (112, .getfield 117, 3), (115, .aload_n 0, 1), (116, .getfield 130, 3), (119, .ifCond .eq 20, 3), (122, .aload_n 0, 1), (123, .getfield 69, 3), (126, .aload_n 0, 1), (127, .getfield 117, 3), (130, .iaload, 1), (131, .aload_n 0, 1), (132, .getfield 133, 3), (135, .ior, 1), (136, .goto 7, 3), (139, .aload_n 0, 1), (140, .getfield 133, 3), (143, .iastore, 1), (144, .aload_n 0, 1), (145, .getfield 63, 3), (148, .aload_n 0, 1), (149, .getfield 117, 3), (152, .aload_n 0, 1)]
set_option maxRecDepth 100000 in
theorem t_Mo_take1 : ∀ q ∈ T_Mo_take1, decode prog_11_method_14_code q.1 = .ok q.2 := by decide +kernel
theorem d_Mo_take_77 : decode prog_11_method_14_code 77 = .ok (.ifCond .eq 20, 3) := q_tb t_Mo_take1 0 rfl
theorem d_Mo_take_80 : decode prog_11_method_14_code 80 = .ok (.aload_n 0, 1) := q_tb t_Mo_take1 1 rfl
theorem d_Mo_take_81 : decode prog_11_method_14_code 81 = .ok (.getfield 66, 3) := q_tb t_Mo_take1 2 rfl
theorem d_Mo_take_84 : decode prog_11_method_14_code 84 = .ok (.aload_n 0, 1) := q_tb t_Mo_take1 3 rfl
theorem d_Mo_take_85 : decode prog_11_method_14_code 85 = .ok (.getfield 117, 3) := q_tb t_Mo_take1 4 rfl
theorem d_Mo_take_88 : decode prog_11_method_14_code 88 = .ok (.iaload, 1) := q_tb t_Mo_take1 5 rfl
theorem d_Mo_take_89 : decode prog_11_method_14_code 89 = .ok (.aload_n 0, 1) := q_tb t_Mo_take1 6 rfl
theorem d_Mo_take_90 : decode prog_11_method_14_code 90 = .ok (.getfield 136, 3) := q_tb t_Mo_take1 7 rfl
theorem d_Mo_take_93 : decode prog_11_method_14_code 93 = .ok (.ior, 1) := q_tb t_Mo_take1 8 rfl
theorem d_Mo_take_94 : decode prog_11_method_14_code 94 = .ok (.goto 12, 3) := q_tb t_Mo_take1 9 rfl
theorem d_Mo_take_97 : decode prog_11_method_14_code 97 = .ok (.aload_n 0, 1) := q_tb t_Mo_take1 10 rfl
theorem d_Mo_take_98 : decode prog_11_method_14_code 98 = .ok (.getfield 66, 3) := q_tb t_Mo_take1 11 rfl
theorem d_Mo_take_101 : decode prog_11_method_14_code 101 = .ok (.aload_n 0, 1) := q_tb t_Mo_take1 12 rfl
theorem d_Mo_take_102 : decode prog_11_method_14_code 102 = .ok (.getfield 117, 3) := q_tb t_Mo_take1 13 rfl
theorem d_Mo_take_105 : decode prog_11_method_14_code 105 = .ok (.iaload, 1) := q_tb t_Mo_take1 14 rfl
theorem d_Mo_take_106 : decode prog_11_method_14_code 106 = .ok (.iastore, 1) := q_tb t_Mo_take1 15 rfl
theorem d_Mo_take_107 : decode prog_11_method_14_code 107 = .ok (.aload_n 0, 1) := q_tb t_Mo_take1 16 rfl
theorem d_Mo_take_108 : decode prog_11_method_14_code 108 = .ok (.getfield 69, 3) := q_tb t_Mo_take1 17 rfl
theorem d_Mo_take_111 : decode prog_11_method_14_code 111 = .ok (.aload_n 0, 1) := q_tb t_Mo_take1 18 rfl
theorem d_Mo_take_112 : decode prog_11_method_14_code 112 = .ok (.getfield 117, 3) := q_tb t_Mo_take1 19 rfl
theorem d_Mo_take_115 : decode prog_11_method_14_code 115 = .ok (.aload_n 0, 1) := q_tb t_Mo_take1 20 rfl
theorem d_Mo_take_116 : decode prog_11_method_14_code 116 = .ok (.getfield 130, 3) := q_tb t_Mo_take1 21 rfl
theorem d_Mo_take_119 : decode prog_11_method_14_code 119 = .ok (.ifCond .eq 20, 3) := q_tb t_Mo_take1 22 rfl
theorem d_Mo_take_122 : decode prog_11_method_14_code 122 = .ok (.aload_n 0, 1) := q_tb t_Mo_take1 23 rfl
theorem d_Mo_take_123 : decode prog_11_method_14_code 123 = .ok (.getfield 69, 3) := q_tb t_Mo_take1 24 rfl
theorem d_Mo_take_126 : decode prog_11_method_14_code 126 = .ok (.aload_n 0, 1) := q_tb t_Mo_take1 25 rfl
theorem d_Mo_take_127 : decode prog_11_method_14_code 127 = .ok (.getfield 117, 3) := q_tb t_Mo_take1 26 rfl
theorem d_Mo_take_130 : decode prog_11_method_14_code 130 = .ok (.iaload, 1) := q_tb t_Mo_take1 27 rfl
theorem d_Mo_take_131 : decode prog_11_method_14_code 131 = .ok (.aload_n 0, 1) := q_tb t_Mo_take1 28 rfl
theorem d_Mo_take_132 : decode prog_11_method_14_code 132 = .ok (.getfield 133, 3) := q_tb t_Mo_take1 29 rfl
theorem d_Mo_take_135 : decode prog_11_method_14_code 135 = .ok (.ior, 1) := q_tb t_Mo_take1 30 rfl
theorem d_Mo_take_136 : decode prog_11_method_14_code 136 = .ok (.goto 7, 3) := q_tb t_Mo_take1 31 rfl
theorem d_Mo_take_139 : decode prog_11_method_14_code 139 = .ok (.aload_n 0, 1) := q_tb t_Mo_take1 32 rfl
theorem d_Mo_take_140 : decode prog_11_method_14_code 140 = .ok (.getfield 133, 3) := q_tb t_Mo_take1 33 rfl
theorem d_Mo_take_143 : decode prog_11_method_14_code 143 = .ok (.iastore, 1) := q_tb t_Mo_take1 34 rfl
theorem d_Mo_take_144 : decode prog_11_method_14_code 144 = .ok (.aload_n 0, 1) := q_tb t_Mo_take1 35 rfl
theorem d_Mo_take_145 : decode prog_11_method_14_code 145 = .ok (.getfield 63, 3) := q_tb t_Mo_take1 36 rfl
theorem d_Mo_take_148 : decode prog_11_method_14_code 148 = .ok (.aload_n 0, 1) := q_tb t_Mo_take1 37 rfl
theorem d_Mo_take_149 : decode prog_11_method_14_code 149 = .ok (.getfield 117, 3) := q_tb t_Mo_take1 38 rfl
theorem d_Mo_take_152 : decode prog_11_method_14_code 152 = .ok (.aload_n 0, 1) := q_tb t_Mo_take1 39 rfl
def T_Mo_take2 : List (Nat × Instr × Nat) := [(153, .getfield 63, 3), (156, .aload_n 0, 1), (157, .getfield 117, 3), (160, .baload, 1), (161, .ifCond .eq 14, 3), (164, .aload_n 0, 1), (165, .getfield 130, 3), (168, .ifCond .eq 7, 3), (171, .iconst 1, 1), (172, .goto 4, 3), (175, .iconst 0, 1), (176, .bastore, 1), (177, .return_, 1)]
set_option maxRecDepth 100000 in
theorem t_Mo_take2 : ∀ q ∈ T_Mo_take2, decode prog_11_method_14_code q.1 = .ok q.2 := by decide +kernel
theorem d_Mo_take_153 : decode prog_11_method_14_code 153 = .ok (.getfield 63, 3) := q_tb t_Mo_take2 0 rfl
theorem d_Mo_take_156 : decode prog_11_method_14_code 156 = .ok (.aload_n 0, 1) := q_tb t_Mo_take2 1 rfl
theorem d_Mo_take_157 : decode prog_11_method_14_code 157 = .ok (.getfield 117, 3) := q_tb t_Mo_take2 2 rfl
theorem d_Mo_take_160 : decode prog_11_method_14_code 160 = .ok (.baload, 1) := q_tb t_Mo_take2 3 rfl
theorem d_Mo_take_161 : decode prog_11_method_14_code 161 = .ok (.ifCond .eq 14, 3) := q_tb t_Mo_take2 4 rfl
theorem d_Mo_take_164 : decode prog_11_method_14_code 164 = .ok (.aload_n 0, 1) := q_tb t_Mo_take2 5 rfl
theorem d_Mo_take_165 : decode prog_11_method_14_code 165 = .ok (.getfield 130, 3) := q_tb t_Mo_take2 6 rfl
theorem d_Mo_take_168 : decode prog_11_method_14_code 168 = .ok (.ifCond .eq 7, 3) := q_tb t_Mo_take2 7 rfl
theorem d_Mo_take_171 : decode prog_11_method_14_code 171 = .ok (.iconst 1, 1) := q_tb t_Mo_take2 8 rfl
theorem d_Mo_take_172 : decode prog_11_method_14_code 172 = .ok (.goto 4, 3) := q_tb t_Mo_take2 9 rfl
theorem d_Mo_take_175 : decode prog_11_method_14_code 175 = .ok (.iconst 0, 1) := q_tb t_Mo_take2 10 rfl
theorem d_Mo_take_176 : decode prog_11_method_14_code 176 = .ok (.bastore, 1) := q_tb t_Mo_take2 11 rfl
theorem d_Mo_take_177 : decode prog_11_method_14_code 177 = .ok (.return_, 1) := q_tb t_Mo_take2 12 rfl
def T_Mo_lead : List (Nat × Instr × Nat) := [(0, .iconst 0, 1), (1, .istore_n 3, 1), (2, .iload_n 3, 1), (3, .bipush 13, 2), (5, .if_icmp .ge 41, 3), (8, .aload_n 0, 1), (9, .getfield 41, 3), (12, .iload_n 3, 1), (13, .iload_n 1, 1), (14, .iload_n 3, 1), (15, .ishr, 1), (16, .iconst 1, 1), (17, .iand, 1), (18, .iconst 1, 1), (19, .if_icmp .ne 14, 3), (22, .aload_n 0, 1), (23, .getfield 41, 3), (26, .iload_n 3, 1), (27, .iaload, 1), (28, .iload_n 2, 1), (29, .ior, 1), (30, .goto 9, 3), (33, .aload_n 0, 1), (34, .getfield 41, 3), (37, .iload_n 3, 1), (38, .iaload, 1), (39, .iastore, 1), (40, .iinc 3 1, 3), (43, .goto (-41), 3), (46, .return_, 1)]
set_option maxRecDepth 100000 in
theorem t_Mo_lead : ∀ q ∈ T_Mo_lead, decode prog_11_method_13_code q.1 = .ok q.2 := by decide +kernel
theorem d_Mo_lead_0 : decode prog_11_method_13_code 0 = .ok (.iconst 0, 1) := q_tb t_Mo_lead 0 rfl
theorem d_Mo_lead_1 : decode prog_11_method_13_code 1 = .ok (.istore_n 3, 1) := q_tb t_Mo_lead 1 rfl
theorem d_Mo_lead_2 : decode prog_11_method_13_code 2 = .ok (.iload_n 3, 1) := q_tb t_Mo_lead 2 rfl
theorem d_Mo_lead_3 : decode prog_11_method_13_code 3 = .ok (.bipush 13, 2) := q_tb t_Mo_lead 3 rfl
theorem d_Mo_lead_5 : decode prog_11_method_13_code 5 = .ok (.if_icmp .ge 41, 3) := q_tb t_Mo_lead 4 rfl
theorem d_Mo_lead_8 : decode prog_11_method_13_code 8 = .ok (.aload_n 0, 1) := q_tb t_Mo_lead 5 rfl
theorem d_Mo_lead_9 : decode prog_11_method_13_code 9 = .ok (.getfield 41, 3) := q_tb t_Mo_lead 6 rfl
theorem d_Mo_lead_12 : decode prog_11_method_13_code 12 = .ok (.iload_n 3, 1) := q_tb t_Mo_lead 7 rfl
theorem d_Mo_lead_13 : decode prog_11_method_13_code 13 = .ok (.iload_n 1, 1) := q_tb t_Mo_lead 8 rfl
theorem d_Mo_lead_14 : decode prog_11_method_13_code 14 = .ok (.iload_n 3, 1) := q_tb t_Mo_lead 9 rfl
theorem d_Mo_lead_15 : decode prog_11_method_13_code 15 = .ok (.ishr, 1) := q_tb t_Mo_lead 10 rfl
theorem d_Mo_lead_16 : decode prog_11_method_13_code 16 = .ok (.iconst 1, 1) := q_tb t_Mo_lead 11 rfl
theorem d_Mo_lead_17 : decode prog_11_method_13_code 17 = .ok (.iand, 1) := q_tb t_Mo_lead 12 rfl
theorem d_Mo_lead_18 : decode prog_11_method_13_code 18 = .ok (.iconst 1, 1) := q_tb t_Mo_lead 13 rfl
theorem d_Mo_lead_19 : decode prog_11_method_13_code 19 = .ok (.if_icmp .ne 14, 3) := q_tb t_Mo_lead 14 rfl
theorem d_Mo_lead_22 : decode prog_11_method_13_code 22 = .ok (.aload_n 0, 1) := q_tb t_Mo_lead 15 rfl
theorem d_Mo_lead_23 : decode prog_11_method_13_code 23 = .ok (.getfield 41, 3) := q_tb t_Mo_lead 16 rfl
theorem d_Mo_lead_26 : decode prog_11_method_13_code 26 = .ok (.iload_n 3, 1) := q_tb t_Mo_lead 17 rfl
theorem d_Mo_lead_27 : decode prog_11_method_13_code 27 = .ok (.iaload, 1) := q_tb t_Mo_lead 18 rfl
theorem d_Mo_lead_28 : decode prog_11_method_13_code 28 = .ok (.iload_n 2, 1) := q_tb t_Mo_lead 19 rfl
theorem d_Mo_lead_29 : decode prog_11_method_13_code 29 = .ok (.ior, 1) := q_tb t_Mo_lead 20 rfl
theorem d_Mo_lead_30 : decode prog_11_method_13_code 30 = .ok (.goto 9, 3) := q_tb t_Mo_lead 21 rfl
theorem d_Mo_lead_33 : decode prog_11_method_13_code 33 = .ok (.aload_n 0, 1) := q_tb t_Mo_lead 22 rfl
theorem d_Mo_lead_34 : decode prog_11_method_13_code 34 = .ok (.getfield 41, 3) := q_tb t_Mo_lead 23 rfl
theorem d_Mo_lead_37 : decode prog_11_method_13_code 37 = .ok (.iload_n 3, 1) := q_tb t_Mo_lead 24 rfl
theorem d_Mo_lead_38 : decode prog_11_method_13_code 38 = .ok (.iaload, 1) := q_tb t_Mo_lead 25 rfl
theorem d_Mo_lead_39 : decode prog_11_method_13_code 39 = .ok (.iastore, 1) := q_tb t_Mo_lead 26 rfl
theorem d_Mo_lead_40 : decode prog_11_method_13_code 40 = .ok (.iinc 3 1, 3) := q_tb t_Mo_lead 27 rfl
theorem d_Mo_lead_43 : decode prog_11_method_13_code 43 = .ok (.goto (-41), 3) := q_tb t_Mo_lead 28 rfl
theorem d_Mo_lead_46 : decode prog_11_method_13_code 46 = .ok (.return_, 1) := q_tb t_Mo_lead 29 rfl
def T_Mo_readAct0 : List (Nat × Instr × Nat) := [(0, .aload_n 0, 1), (1, .aload_n 0, 1), (2, .getfield 123, 3), (5, .invokevirtual 126, 3), (8, .istore_n 1, 1), (9, .iload_n 1, 1), (10, .bipush 46, 2), (12, .if_icmp .eq 30, 3), (15, .iload_n 1, 1), (16, .bipush 97, 2), (18, .if_icmp .lt 14, 3), (21, .iload_n 1, 1), (22, .bipush 97, 2), (24, .aload_n 0, 1), (25, .getfield 105, 3), (28, .iadd, 1), (29, .if_icmp .lt 13, 3), (32, .aload_n 0, 1), (33, .iconst 1, 1), (34, .aload_n 0, 1), (35, .getfield 123, 3), (38, .invokevirtual 149, 3), (41, .return_, 1), (42, .aload_n 0, 1), (43, .dup, 1), (44, .getfield 123, 3), (47, .iconst 1, 1), (48, .iadd, 1), (49, .putfield 123, 3), (52, .iload_n 1, 1), (53, .bipush 46, 2), (55, .if_icmp .ne 11, 3), (58, .aload_n 0, 1), (59, .iconst 0, 1), (60, .iconst 0, 1), (61, .iconst 0, 1), (62, .invokevirtual 152, 3), (65, .return_, 1), (66, .aload_n 0, 1), (67, .aload_n 0, 1)]
set_option maxRecDepth 100000 in
theorem t_Mo_readAct0 : ∀ q ∈ T_Mo_readAct0, decode prog_11_method_16_code q.1 = .ok q.2 := by decide +kernel
theorem d_Mo_readAct_0 : decode prog_11_method_16_code 0 = .ok (.aload_n 0, 1) := q_tb t_Mo_readAct0 0 rfl
theorem d_Mo_readAct_1 : decode prog_11_method_16_code 1 = .ok (.aload_n 0, 1) := q_tb t_Mo_readAct0 1 rfl
theorem d_Mo_readAct_2 : decode prog_11_method_16_code 2 = .ok (.getfield 123, 3) := q_tb t_Mo_readAct0 2 rfl
theorem d_Mo_readAct_5 : decode prog_11_method_16_code 5 = .ok (.invokevirtual 126, 3) := q_tb t_Mo_readAct0 3 rfl
theorem d_Mo_readAct_8 : decode prog_11_method_16_code 8 = .ok (.istore_n 1, 1) := q_tb t_Mo_readAct0 4 rfl
theorem d_Mo_readAct_9 : decode prog_11_method_16_code 9 = .ok (.iload_n 1, 1) := q_tb t_Mo_readAct0 5 rfl
theorem d_Mo_readAct_10 : decode prog_11_method_16_code 10 = .ok (.bipush 46, 2) := q_tb t_Mo_readAct0 6 rfl
theorem d_Mo_readAct_12 : decode prog_11_method_16_code 12 = .ok (.if_icmp .eq 30, 3) := q_tb t_Mo_readAct0 7 rfl
theorem d_Mo_readAct_15 : decode prog_11_method_16_code 15 = .ok (.iload_n 1, 1) := q_tb t_Mo_readAct0 8 rfl
theorem d_Mo_readAct_16 : decode prog_11_method_16_code 16 = .ok (.bipush 97, 2) := q_tb t_Mo_readAct0 9 rfl
theorem d_Mo_readAct_18 : decode prog_11_method_16_code 18 = .ok (.if_icmp .lt 14, 3) := q_tb t_Mo_readAct0 10 rfl
theorem d_Mo_readAct_21 : decode prog_11_method_16_code 21 = .ok (.iload_n 1, 1) := q_tb t_Mo_readAct0 11 rfl
theorem d_Mo_readAct_22 : decode prog_11_method_16_code 22 = .ok (.bipush 97, 2) := q_tb t_Mo_readAct0 12 rfl
theorem d_Mo_readAct_24 : decode prog_11_method_16_code 24 = .ok (.aload_n 0, 1) := q_tb t_Mo_readAct0 13 rfl
theorem d_Mo_readAct_25 : decode prog_11_method_16_code 25 = .ok (.getfield 105, 3) := q_tb t_Mo_readAct0 14 rfl
theorem d_Mo_readAct_28 : decode prog_11_method_16_code 28 = .ok (.iadd, 1) := q_tb t_Mo_readAct0 15 rfl
theorem d_Mo_readAct_29 : decode prog_11_method_16_code 29 = .ok (.if_icmp .lt 13, 3) := q_tb t_Mo_readAct0 16 rfl
theorem d_Mo_readAct_32 : decode prog_11_method_16_code 32 = .ok (.aload_n 0, 1) := q_tb t_Mo_readAct0 17 rfl
theorem d_Mo_readAct_33 : decode prog_11_method_16_code 33 = .ok (.iconst 1, 1) := q_tb t_Mo_readAct0 18 rfl
theorem d_Mo_readAct_34 : decode prog_11_method_16_code 34 = .ok (.aload_n 0, 1) := q_tb t_Mo_readAct0 19 rfl
theorem d_Mo_readAct_35 : decode prog_11_method_16_code 35 = .ok (.getfield 123, 3) := q_tb t_Mo_readAct0 20 rfl
theorem d_Mo_readAct_38 : decode prog_11_method_16_code 38 = .ok (.invokevirtual 149, 3) := q_tb t_Mo_readAct0 21 rfl
theorem d_Mo_readAct_41 : decode prog_11_method_16_code 41 = .ok (.return_, 1) := q_tb t_Mo_readAct0 22 rfl
theorem d_Mo_readAct_42 : decode prog_11_method_16_code 42 = .ok (.aload_n 0, 1) := q_tb t_Mo_readAct0 23 rfl
theorem d_Mo_readAct_43 : decode prog_11_method_16_code 43 = .ok (.dup, 1) := q_tb t_Mo_readAct0 24 rfl
theorem d_Mo_readAct_44 : decode prog_11_method_16_code 44 = .ok (.getfield 123, 3) := q_tb t_Mo_readAct0 25 rfl
theorem d_Mo_readAct_47 : decode prog_11_method_16_code 47 = .ok (.iconst 1, 1) := q_tb t_Mo_readAct0 26 rfl
theorem d_Mo_readAct_48 : decode prog_11_method_16_code 48 = .ok (.iadd, 1) := q_tb t_Mo_readAct0 27 rfl
theorem d_Mo_readAct_49 : decode prog_11_method_16_code 49 = .ok (.putfield 123, 3) := q_tb t_Mo_readAct0 28 rfl
theorem d_Mo_readAct_52 : decode prog_11_method_16_code 52 = .ok (.iload_n 1, 1) := q_tb t_Mo_readAct0 29 rfl
theorem d_Mo_readAct_53 : decode prog_11_method_16_code 53 = .ok (.bipush 46, 2) := q_tb t_Mo_readAct0 30 rfl
theorem d_Mo_readAct_55 : decode prog_11_method_16_code 55 = .ok (.if_icmp .ne 11, 3) := q_tb t_Mo_readAct0 31 rfl
theorem d_Mo_readAct_58 : decode prog_11_method_16_code 58 = .ok (.aload_n 0, 1) := q_tb t_Mo_readAct0 32 rfl
theorem d_Mo_readAct_59 : decode prog_11_method_16_code 59 = .ok (.iconst 0, 1) := q_tb t_Mo_readAct0 33 rfl
theorem d_Mo_readAct_60 : decode prog_11_method_16_code 60 = .ok (.iconst 0, 1) := q_tb t_Mo_readAct0 34 rfl
theorem d_Mo_readAct_61 : decode prog_11_method_16_code 61 = .ok (.iconst 0, 1) := q_tb t_Mo_readAct0 35 rfl
theorem d_Mo_readAct_62 : decode prog_11_method_16_code 62 = .ok (.invokevirtual 152, 3) := q_tb t_Mo_readAct0 36 rfl
theorem d_Mo_readAct_65 : decode prog_11_method_16_code 65 = .ok (.return_, 1) := q_tb t_Mo_readAct0 37 rfl
theorem d_Mo_readAct_66 : decode prog_11_method_16_code 66 = .ok (.aload_n 0, 1) := q_tb t_Mo_readAct0 38 rfl
theorem d_Mo_readAct_67 : decode prog_11_method_16_code 67 = .ok (.aload_n 0, 1) := q_tb t_Mo_readAct0 39 rfl
def T_Mo_readAct1 : List (Nat × Instr × Nat) := [(68, .getfield 123, 3), (71, .invokevirtual 126, 3), (74, .istore_n 2, 1), (75, .iload_n 2, 1), (76, .bipush 43, 2), (78, .if_icmp .ne 7, 3), (81, .iconst 1, 1), (82, .goto 44, 3), (85, .iload_n 2, 1), (86, .bipush 45, 2), (88, .if_icmp .ne 7, 3), (91, .iconst 2, 1), (92, .goto 34, 3), (95, .iload_n 2, 1), (96, .bipush 61, 2), (98, .if_icmp .ne 7, 3), (101, .iconst 3, 1), (102, .goto 24, 3), (105, .iload_n 2, 1), (106, .bipush 63, 2), (108, .if_icmp .ne 7, 3), (111, .iconst 4, 1), (112, .goto 14, 3), (115, .iload_n 2, 1), (116, .bipush 33, 2), (118, .if_icmp .ne 7, 3), (121, .iconst 5, 1), (122, .goto 4, 3), (125, .iconst 0, 1), (126, .istore_n 3, 1), (127, .iload_n 3, 1), (128, .ifCond .ne 13, 3), (131, .aload_n 0, 1), (132, .iconst 1, 1), (133, .aload_n 0, 1), (134, .getfield 123, 3), (137, .invokevirtual 149, 3), (140, .return_, 1), (141, .aload_n 0, 1), (142, .dup, 1)]
set_option maxRecDepth 100000 in
theorem t_Mo_readAct1 : ∀ q ∈ T_Mo_readAct1, decode prog_11_method_16_code q.1 = .ok q.2 := by decide +kernel
theorem d_Mo_readAct_68 : decode prog_11_method_16_code 68 = .ok (.getfield 123, 3) := q_tb t_Mo_readAct1 0 rfl
theorem d_Mo_readAct_71 : decode prog_11_method_16_code 71 = .ok (.invokevirtual 126, 3) := q_tb t_Mo_readAct1 1 rfl
theorem d_Mo_readAct_74 : decode prog_11_method_16_code 74 = .ok (.istore_n 2, 1) := q_tb t_Mo_readAct1 2 rfl
theorem d_Mo_readAct_75 : decode prog_11_method_16_code 75 = .ok (.iload_n 2, 1) := q_tb t_Mo_readAct1 3 rfl
theorem d_Mo_readAct_76 : decode prog_11_method_16_code 76 = .ok (.bipush 43, 2) := q_tb t_Mo_readAct1 4 rfl
theorem d_Mo_readAct_78 : decode prog_11_method_16_code 78 = .ok (.if_icmp .ne 7, 3) := q_tb t_Mo_readAct1 5 rfl
theorem d_Mo_readAct_81 : decode prog_11_method_16_code 81 = .ok (.iconst 1, 1) := q_tb t_Mo_readAct1 6 rfl
theorem d_Mo_readAct_82 : decode prog_11_method_16_code 82 = .ok (.goto 44, 3) := q_tb t_Mo_readAct1 7 rfl
theorem d_Mo_readAct_85 : decode prog_11_method_16_code 85 = .ok (.iload_n 2, 1) := q_tb t_Mo_readAct1 8 rfl
theorem d_Mo_readAct_86 : decode prog_11_method_16_code 86 = .ok (.bipush 45, 2) := q_tb t_Mo_readAct1 9 rfl
theorem d_Mo_readAct_88 : decode prog_11_method_16_code 88 = .ok (.if_icmp .ne 7, 3) := q_tb t_Mo_readAct1 10 rfl
theorem d_Mo_readAct_91 : decode prog_11_method_16_code 91 = .ok (.iconst 2, 1) := q_tb t_Mo_readAct1 11 rfl
theorem d_Mo_readAct_92 : decode prog_11_method_16_code 92 = .ok (.goto 34, 3) := q_tb t_Mo_readAct1 12 rfl
theorem d_Mo_readAct_95 : decode prog_11_method_16_code 95 = .ok (.iload_n 2, 1) := q_tb t_Mo_readAct1 13 rfl
theorem d_Mo_readAct_96 : decode prog_11_method_16_code 96 = .ok (.bipush 61, 2) := q_tb t_Mo_readAct1 14 rfl
theorem d_Mo_readAct_98 : decode prog_11_method_16_code 98 = .ok (.if_icmp .ne 7, 3) := q_tb t_Mo_readAct1 15 rfl
theorem d_Mo_readAct_101 : decode prog_11_method_16_code 101 = .ok (.iconst 3, 1) := q_tb t_Mo_readAct1 16 rfl
theorem d_Mo_readAct_102 : decode prog_11_method_16_code 102 = .ok (.goto 24, 3) := q_tb t_Mo_readAct1 17 rfl
theorem d_Mo_readAct_105 : decode prog_11_method_16_code 105 = .ok (.iload_n 2, 1) := q_tb t_Mo_readAct1 18 rfl
theorem d_Mo_readAct_106 : decode prog_11_method_16_code 106 = .ok (.bipush 63, 2) := q_tb t_Mo_readAct1 19 rfl
theorem d_Mo_readAct_108 : decode prog_11_method_16_code 108 = .ok (.if_icmp .ne 7, 3) := q_tb t_Mo_readAct1 20 rfl
theorem d_Mo_readAct_111 : decode prog_11_method_16_code 111 = .ok (.iconst 4, 1) := q_tb t_Mo_readAct1 21 rfl
theorem d_Mo_readAct_112 : decode prog_11_method_16_code 112 = .ok (.goto 14, 3) := q_tb t_Mo_readAct1 22 rfl
theorem d_Mo_readAct_115 : decode prog_11_method_16_code 115 = .ok (.iload_n 2, 1) := q_tb t_Mo_readAct1 23 rfl
theorem d_Mo_readAct_116 : decode prog_11_method_16_code 116 = .ok (.bipush 33, 2) := q_tb t_Mo_readAct1 24 rfl
theorem d_Mo_readAct_118 : decode prog_11_method_16_code 118 = .ok (.if_icmp .ne 7, 3) := q_tb t_Mo_readAct1 25 rfl
theorem d_Mo_readAct_121 : decode prog_11_method_16_code 121 = .ok (.iconst 5, 1) := q_tb t_Mo_readAct1 26 rfl
theorem d_Mo_readAct_122 : decode prog_11_method_16_code 122 = .ok (.goto 4, 3) := q_tb t_Mo_readAct1 27 rfl
theorem d_Mo_readAct_125 : decode prog_11_method_16_code 125 = .ok (.iconst 0, 1) := q_tb t_Mo_readAct1 28 rfl
theorem d_Mo_readAct_126 : decode prog_11_method_16_code 126 = .ok (.istore_n 3, 1) := q_tb t_Mo_readAct1 29 rfl
theorem d_Mo_readAct_127 : decode prog_11_method_16_code 127 = .ok (.iload_n 3, 1) := q_tb t_Mo_readAct1 30 rfl
theorem d_Mo_readAct_128 : decode prog_11_method_16_code 128 = .ok (.ifCond .ne 13, 3) := q_tb t_Mo_readAct1 31 rfl
theorem d_Mo_readAct_131 : decode prog_11_method_16_code 131 = .ok (.aload_n 0, 1) := q_tb t_Mo_readAct1 32 rfl
theorem d_Mo_readAct_132 : decode prog_11_method_16_code 132 = .ok (.iconst 1, 1) := q_tb t_Mo_readAct1 33 rfl
theorem d_Mo_readAct_133 : decode prog_11_method_16_code 133 = .ok (.aload_n 0, 1) := q_tb t_Mo_readAct1 34 rfl
theorem d_Mo_readAct_134 : decode prog_11_method_16_code 134 = .ok (.getfield 123, 3) := q_tb t_Mo_readAct1 35 rfl
theorem d_Mo_readAct_137 : decode prog_11_method_16_code 137 = .ok (.invokevirtual 149, 3) := q_tb t_Mo_readAct1 36 rfl
theorem d_Mo_readAct_140 : decode prog_11_method_16_code 140 = .ok (.return_, 1) := q_tb t_Mo_readAct1 37 rfl
theorem d_Mo_readAct_141 : decode prog_11_method_16_code 141 = .ok (.aload_n 0, 1) := q_tb t_Mo_readAct1 38 rfl
theorem d_Mo_readAct_142 : decode prog_11_method_16_code 142 = .ok (.dup, 1) := q_tb t_Mo_readAct1 39 rfl
def T_Mo_readAct2 : List (Nat × Instr × Nat) := [(143, .getfield 123, 3), (146, .iconst 1, 1), (147, .iadd, 1), (148, .putfield 123, 3), (151, .iload_n 3, 1), (152, .iconst 3, 1), (153, .if_icmp .ge 14, 3), (156, .aload_n 0, 1), (157, .iload_n 3, 1), (158, .iload_n 1, 1), (159, .bipush 97, 2), (161, .isub, 1), (162, .iconst 0, 1), (163, .invokevirtual 152, 3), (166, .return_, 1), (167, .aload_n 0, 1), (168, .aload_n 0, 1), (169, .getfield 123, 3), (172, .invokevirtual 126, 3), (175, .bipush 48, 2), (177, .isub, 1), (178, .istore 4, 2), (180, .iload 4, 2), (182, .ifCond .lt 17, 3), (185, .iload 4, 2), (187, .aload_n 0, 1), (188, .getfield 17, 3), (191, .iload_n 1, 1), (192, .bipush 97, 2), (194, .isub, 1), (195, .iaload, 1), (196, .if_icmp .lt 13, 3), (199, .aload_n 0, 1), (200, .iconst 1, 1), (201, .aload_n 0, 1), (202, .getfield 123, 3), (205, .invokevirtual 149, 3), (208, .return_, 1), (209, .aload_n 0, 1), (210, .dup, 1)]
set_option maxRecDepth 100000 in
theorem t_Mo_readAct2 : ∀ q ∈ T_Mo_readAct2, decode prog_11_method_16_code q.1 = .ok q.2 := by decide +kernel
theorem d_Mo_readAct_143 : decode prog_11_method_16_code 143 = .ok (.getfield 123, 3) := q_tb t_Mo_readAct2 0 rfl
theorem d_Mo_readAct_146 : decode prog_11_method_16_code 146 = .ok (.iconst 1, 1) := q_tb t_Mo_readAct2 1 rfl
theorem d_Mo_readAct_147 : decode prog_11_method_16_code 147 = .ok (.iadd, 1) := q_tb t_Mo_readAct2 2 rfl
theorem d_Mo_readAct_148 : decode prog_11_method_16_code 148 = .ok (.putfield 123, 3) := q_tb t_Mo_readAct2 3 rfl
theorem d_Mo_readAct_151 : decode prog_11_method_16_code 151 = .ok (.iload_n 3, 1) := q_tb t_Mo_readAct2 4 rfl
theorem d_Mo_readAct_152 : decode prog_11_method_16_code 152 = .ok (.iconst 3, 1) := q_tb t_Mo_readAct2 5 rfl
theorem d_Mo_readAct_153 : decode prog_11_method_16_code 153 = .ok (.if_icmp .ge 14, 3) := q_tb t_Mo_readAct2 6 rfl
theorem d_Mo_readAct_156 : decode prog_11_method_16_code 156 = .ok (.aload_n 0, 1) := q_tb t_Mo_readAct2 7 rfl
theorem d_Mo_readAct_157 : decode prog_11_method_16_code 157 = .ok (.iload_n 3, 1) := q_tb t_Mo_readAct2 8 rfl
theorem d_Mo_readAct_158 : decode prog_11_method_16_code 158 = .ok (.iload_n 1, 1) := q_tb t_Mo_readAct2 9 rfl
theorem d_Mo_readAct_159 : decode prog_11_method_16_code 159 = .ok (.bipush 97, 2) := q_tb t_Mo_readAct2 10 rfl
theorem d_Mo_readAct_161 : decode prog_11_method_16_code 161 = .ok (.isub, 1) := q_tb t_Mo_readAct2 11 rfl
theorem d_Mo_readAct_162 : decode prog_11_method_16_code 162 = .ok (.iconst 0, 1) := q_tb t_Mo_readAct2 12 rfl
theorem d_Mo_readAct_163 : decode prog_11_method_16_code 163 = .ok (.invokevirtual 152, 3) := q_tb t_Mo_readAct2 13 rfl
theorem d_Mo_readAct_166 : decode prog_11_method_16_code 166 = .ok (.return_, 1) := q_tb t_Mo_readAct2 14 rfl
theorem d_Mo_readAct_167 : decode prog_11_method_16_code 167 = .ok (.aload_n 0, 1) := q_tb t_Mo_readAct2 15 rfl
theorem d_Mo_readAct_168 : decode prog_11_method_16_code 168 = .ok (.aload_n 0, 1) := q_tb t_Mo_readAct2 16 rfl
theorem d_Mo_readAct_169 : decode prog_11_method_16_code 169 = .ok (.getfield 123, 3) := q_tb t_Mo_readAct2 17 rfl
theorem d_Mo_readAct_172 : decode prog_11_method_16_code 172 = .ok (.invokevirtual 126, 3) := q_tb t_Mo_readAct2 18 rfl
theorem d_Mo_readAct_175 : decode prog_11_method_16_code 175 = .ok (.bipush 48, 2) := q_tb t_Mo_readAct2 19 rfl
theorem d_Mo_readAct_177 : decode prog_11_method_16_code 177 = .ok (.isub, 1) := q_tb t_Mo_readAct2 20 rfl
theorem d_Mo_readAct_178 : decode prog_11_method_16_code 178 = .ok (.istore 4, 2) := q_tb t_Mo_readAct2 21 rfl
theorem d_Mo_readAct_180 : decode prog_11_method_16_code 180 = .ok (.iload 4, 2) := q_tb t_Mo_readAct2 22 rfl
theorem d_Mo_readAct_182 : decode prog_11_method_16_code 182 = .ok (.ifCond .lt 17, 3) := q_tb t_Mo_readAct2 23 rfl
theorem d_Mo_readAct_185 : decode prog_11_method_16_code 185 = .ok (.iload 4, 2) := q_tb t_Mo_readAct2 24 rfl
theorem d_Mo_readAct_187 : decode prog_11_method_16_code 187 = .ok (.aload_n 0, 1) := q_tb t_Mo_readAct2 25 rfl
theorem d_Mo_readAct_188 : decode prog_11_method_16_code 188 = .ok (.getfield 17, 3) := q_tb t_Mo_readAct2 26 rfl
theorem d_Mo_readAct_191 : decode prog_11_method_16_code 191 = .ok (.iload_n 1, 1) := q_tb t_Mo_readAct2 27 rfl
theorem d_Mo_readAct_192 : decode prog_11_method_16_code 192 = .ok (.bipush 97, 2) := q_tb t_Mo_readAct2 28 rfl
theorem d_Mo_readAct_194 : decode prog_11_method_16_code 194 = .ok (.isub, 1) := q_tb t_Mo_readAct2 29 rfl
theorem d_Mo_readAct_195 : decode prog_11_method_16_code 195 = .ok (.iaload, 1) := q_tb t_Mo_readAct2 30 rfl
theorem d_Mo_readAct_196 : decode prog_11_method_16_code 196 = .ok (.if_icmp .lt 13, 3) := q_tb t_Mo_readAct2 31 rfl
theorem d_Mo_readAct_199 : decode prog_11_method_16_code 199 = .ok (.aload_n 0, 1) := q_tb t_Mo_readAct2 32 rfl
theorem d_Mo_readAct_200 : decode prog_11_method_16_code 200 = .ok (.iconst 1, 1) := q_tb t_Mo_readAct2 33 rfl
theorem d_Mo_readAct_201 : decode prog_11_method_16_code 201 = .ok (.aload_n 0, 1) := q_tb t_Mo_readAct2 34 rfl
theorem d_Mo_readAct_202 : decode prog_11_method_16_code 202 = .ok (.getfield 123, 3) := q_tb t_Mo_readAct2 35 rfl
theorem d_Mo_readAct_205 : decode prog_11_method_16_code 205 = .ok (.invokevirtual 149, 3) := q_tb t_Mo_readAct2 36 rfl
theorem d_Mo_readAct_208 : decode prog_11_method_16_code 208 = .ok (.return_, 1) := q_tb t_Mo_readAct2 37 rfl
theorem d_Mo_readAct_209 : decode prog_11_method_16_code 209 = .ok (.aload_n 0, 1) := q_tb t_Mo_readAct2 38 rfl
theorem d_Mo_readAct_210 : decode prog_11_method_16_code 210 = .ok (.dup, 1) := q_tb t_Mo_readAct2 39 rfl
def T_Mo_readAct3 : List (Nat × Instr × Nat) := [(211, .getfield 123, 3), (214, .iconst 1, 1), (215, .iadd, 1), (216, .putfield 123, 3), (219, .aload_n 0, 1), (220, .iload_n 3, 1), (221, .iload_n 1, 1), (222, .bipush 97, 2), (224, .isub, 1), (225, .iload 4, 2), (227, .invokevirtual 152, 3), (230, .return_, 1)]
set_option maxRecDepth 100000 in
theorem t_Mo_readAct3 : ∀ q ∈ T_Mo_readAct3, decode prog_11_method_16_code q.1 = .ok q.2 := by decide +kernel
theorem d_Mo_readAct_211 : decode prog_11_method_16_code 211 = .ok (.getfield 123, 3) := q_tb t_Mo_readAct3 0 rfl
theorem d_Mo_readAct_214 : decode prog_11_method_16_code 214 = .ok (.iconst 1, 1) := q_tb t_Mo_readAct3 1 rfl
theorem d_Mo_readAct_215 : decode prog_11_method_16_code 215 = .ok (.iadd, 1) := q_tb t_Mo_readAct3 2 rfl
theorem d_Mo_readAct_216 : decode prog_11_method_16_code 216 = .ok (.putfield 123, 3) := q_tb t_Mo_readAct3 3 rfl
theorem d_Mo_readAct_219 : decode prog_11_method_16_code 219 = .ok (.aload_n 0, 1) := q_tb t_Mo_readAct3 4 rfl
theorem d_Mo_readAct_220 : decode prog_11_method_16_code 220 = .ok (.iload_n 3, 1) := q_tb t_Mo_readAct3 5 rfl
theorem d_Mo_readAct_221 : decode prog_11_method_16_code 221 = .ok (.iload_n 1, 1) := q_tb t_Mo_readAct3 6 rfl
theorem d_Mo_readAct_222 : decode prog_11_method_16_code 222 = .ok (.bipush 97, 2) := q_tb t_Mo_readAct3 7 rfl
theorem d_Mo_readAct_224 : decode prog_11_method_16_code 224 = .ok (.isub, 1) := q_tb t_Mo_readAct3 8 rfl
theorem d_Mo_readAct_225 : decode prog_11_method_16_code 225 = .ok (.iload 4, 2) := q_tb t_Mo_readAct3 9 rfl
theorem d_Mo_readAct_227 : decode prog_11_method_16_code 227 = .ok (.invokevirtual 152, 3) := q_tb t_Mo_readAct3 10 rfl
theorem d_Mo_readAct_230 : decode prog_11_method_16_code 230 = .ok (.return_, 1) := q_tb t_Mo_readAct3 11 rfl
def T_Mo_act0 : List (Nat × Instr × Nat) := [(0, .aload_n 0, 1), (1, .dup, 1), (2, .getfield 143, 3), (5, .iconst 1, 1), (6, .iadd, 1), (7, .putfield 143, 3), (10, .aload_n 0, 1), (11, .getfield 44, 3), (14, .aload_n 0, 1), (15, .getfield 143, 3), (18, .iload_n 1, 1), (19, .iastore, 1), (20, .aload_n 0, 1), (21, .getfield 47, 3), (24, .aload_n 0, 1), (25, .getfield 143, 3), (28, .iload_n 2, 1), (29, .iastore, 1), (30, .aload_n 0, 1), (31, .getfield 50, 3), (34, .aload_n 0, 1), (35, .getfield 143, 3), (38, .iload_n 3, 1), (39, .iastore, 1), (40, .aload_n 0, 1), (41, .getfield 41, 3), (44, .aload_n 0, 1), (45, .getfield 143, 3), (48, .iconst 0, 1), (49, .iastore, 1), (50, .aload_n 0, 1), (51, .iconst 0, 1), (52, .putfield 130, 3), (55, .aload_n 0, 1), (56, .iconst 1, 1), (57, .aload_n 0, 1), (58, .getfield 143, 3), (61, .ishl, 1), (62, .putfield 136, 3), (65, .aload_n 0, 1)]
set_option maxRecDepth 100000 in
theorem t_Mo_act0 : ∀ q ∈ T_Mo_act0, decode prog_11_method_15_code q.1 = .ok q.2 := by decide +kernel
theorem d_Mo_act_0 : decode prog_11_method_15_code 0 = .ok (.aload_n 0, 1) := q_tb t_Mo_act0 0 rfl
theorem d_Mo_act_1 : decode prog_11_method_15_code 1 = .ok (.dup, 1) := q_tb t_Mo_act0 1 rfl
theorem d_Mo_act_2 : decode prog_11_method_15_code 2 = .ok (.getfield 143, 3) := q_tb t_Mo_act0 2 rfl
theorem d_Mo_act_5 : decode prog_11_method_15_code 5 = .ok (.iconst 1, 1) := q_tb t_Mo_act0 3 rfl
theorem d_Mo_act_6 : decode prog_11_method_15_code 6 = .ok (.iadd, 1) := q_tb t_Mo_act0 4 rfl
theorem d_Mo_act_7 : decode prog_11_method_15_code 7 = .ok (.putfield 143, 3) := q_tb t_Mo_act0 5 rfl
theorem d_Mo_act_10 : decode prog_11_method_15_code 10 = .ok (.aload_n 0, 1) := q_tb t_Mo_act0 6 rfl
theorem d_Mo_act_11 : decode prog_11_method_15_code 11 = .ok (.getfield 44, 3) := q_tb t_Mo_act0 7 rfl
theorem d_Mo_act_14 : decode prog_11_method_15_code 14 = .ok (.aload_n 0, 1) := q_tb t_Mo_act0 8 rfl
theorem d_Mo_act_15 : decode prog_11_method_15_code 15 = .ok (.getfield 143, 3) := q_tb t_Mo_act0 9 rfl
theorem d_Mo_act_18 : decode prog_11_method_15_code 18 = .ok (.iload_n 1, 1) := q_tb t_Mo_act0 10 rfl
theorem d_Mo_act_19 : decode prog_11_method_15_code 19 = .ok (.iastore, 1) := q_tb t_Mo_act0 11 rfl
theorem d_Mo_act_20 : decode prog_11_method_15_code 20 = .ok (.aload_n 0, 1) := q_tb t_Mo_act0 12 rfl
theorem d_Mo_act_21 : decode prog_11_method_15_code 21 = .ok (.getfield 47, 3) := q_tb t_Mo_act0 13 rfl
theorem d_Mo_act_24 : decode prog_11_method_15_code 24 = .ok (.aload_n 0, 1) := q_tb t_Mo_act0 14 rfl
theorem d_Mo_act_25 : decode prog_11_method_15_code 25 = .ok (.getfield 143, 3) := q_tb t_Mo_act0 15 rfl
theorem d_Mo_act_28 : decode prog_11_method_15_code 28 = .ok (.iload_n 2, 1) := q_tb t_Mo_act0 16 rfl
theorem d_Mo_act_29 : decode prog_11_method_15_code 29 = .ok (.iastore, 1) := q_tb t_Mo_act0 17 rfl
theorem d_Mo_act_30 : decode prog_11_method_15_code 30 = .ok (.aload_n 0, 1) := q_tb t_Mo_act0 18 rfl
theorem d_Mo_act_31 : decode prog_11_method_15_code 31 = .ok (.getfield 50, 3) := q_tb t_Mo_act0 19 rfl
theorem d_Mo_act_34 : decode prog_11_method_15_code 34 = .ok (.aload_n 0, 1) := q_tb t_Mo_act0 20 rfl
theorem d_Mo_act_35 : decode prog_11_method_15_code 35 = .ok (.getfield 143, 3) := q_tb t_Mo_act0 21 rfl
theorem d_Mo_act_38 : decode prog_11_method_15_code 38 = .ok (.iload_n 3, 1) := q_tb t_Mo_act0 22 rfl
theorem d_Mo_act_39 : decode prog_11_method_15_code 39 = .ok (.iastore, 1) := q_tb t_Mo_act0 23 rfl
theorem d_Mo_act_40 : decode prog_11_method_15_code 40 = .ok (.aload_n 0, 1) := q_tb t_Mo_act0 24 rfl
theorem d_Mo_act_41 : decode prog_11_method_15_code 41 = .ok (.getfield 41, 3) := q_tb t_Mo_act0 25 rfl
theorem d_Mo_act_44 : decode prog_11_method_15_code 44 = .ok (.aload_n 0, 1) := q_tb t_Mo_act0 26 rfl
theorem d_Mo_act_45 : decode prog_11_method_15_code 45 = .ok (.getfield 143, 3) := q_tb t_Mo_act0 27 rfl
theorem d_Mo_act_48 : decode prog_11_method_15_code 48 = .ok (.iconst 0, 1) := q_tb t_Mo_act0 28 rfl
theorem d_Mo_act_49 : decode prog_11_method_15_code 49 = .ok (.iastore, 1) := q_tb t_Mo_act0 29 rfl
theorem d_Mo_act_50 : decode prog_11_method_15_code 50 = .ok (.aload_n 0, 1) := q_tb t_Mo_act0 30 rfl
theorem d_Mo_act_51 : decode prog_11_method_15_code 51 = .ok (.iconst 0, 1) := q_tb t_Mo_act0 31 rfl
theorem d_Mo_act_52 : decode prog_11_method_15_code 52 = .ok (.putfield 130, 3) := q_tb t_Mo_act0 32 rfl
theorem d_Mo_act_55 : decode prog_11_method_15_code 55 = .ok (.aload_n 0, 1) := q_tb t_Mo_act0 33 rfl
theorem d_Mo_act_56 : decode prog_11_method_15_code 56 = .ok (.iconst 1, 1) := q_tb t_Mo_act0 34 rfl
theorem d_Mo_act_57 : decode prog_11_method_15_code 57 = .ok (.aload_n 0, 1) := q_tb t_Mo_act0 35 rfl
theorem d_Mo_act_58 : decode prog_11_method_15_code 58 = .ok (.getfield 143, 3) := q_tb t_Mo_act0 36 rfl
theorem d_Mo_act_61 : decode prog_11_method_15_code 61 = .ok (.ishl, 1) := q_tb t_Mo_act0 37 rfl
theorem d_Mo_act_62 : decode prog_11_method_15_code 62 = .ok (.putfield 136, 3) := q_tb t_Mo_act0 38 rfl
theorem d_Mo_act_65 : decode prog_11_method_15_code 65 = .ok (.aload_n 0, 1) := q_tb t_Mo_act0 39 rfl
def T_Mo_act1 : List (Nat × Instr × Nat) := [(66, .iconst 1, 1), (67, .aload_n 0, 1), (68, .getfield 143, 3), (71, .ishl, 1), (72, .putfield 133, 3), (75, .aload_n 0, 1), (76, .invokevirtual 146, 3), (79, .return_, 1)]
set_option maxRecDepth 100000 in
theorem t_Mo_act1 : ∀ q ∈ T_Mo_act1, decode prog_11_method_15_code q.1 = .ok q.2 := by decide +kernel
theorem d_Mo_act_66 : decode prog_11_method_15_code 66 = .ok (.iconst 1, 1) := q_tb t_Mo_act1 0 rfl
theorem d_Mo_act_67 : decode prog_11_method_15_code 67 = .ok (.aload_n 0, 1) := q_tb t_Mo_act1 1 rfl
theorem d_Mo_act_68 : decode prog_11_method_15_code 68 = .ok (.getfield 143, 3) := q_tb t_Mo_act1 2 rfl
theorem d_Mo_act_71 : decode prog_11_method_15_code 71 = .ok (.ishl, 1) := q_tb t_Mo_act1 3 rfl
theorem d_Mo_act_72 : decode prog_11_method_15_code 72 = .ok (.putfield 133, 3) := q_tb t_Mo_act1 4 rfl
theorem d_Mo_act_75 : decode prog_11_method_15_code 75 = .ok (.aload_n 0, 1) := q_tb t_Mo_act1 5 rfl
theorem d_Mo_act_76 : decode prog_11_method_15_code 76 = .ok (.invokevirtual 146, 3) := q_tb t_Mo_act1 6 rfl
theorem d_Mo_act_79 : decode prog_11_method_15_code 79 = .ok (.return_, 1) := q_tb t_Mo_act1 7 rfl
end NAMES3
