/-! names, 3b: decode tables, printed by gen/names2.py -/
section NAMES3
def T_Wo_init : List (Nat × Instr × Nat) := [(0, .aload_n 0, 1), (1, .invokespecial 3, 3), (4, .aload_n 0, 1), (5, .iconst 5, 1), (6, .newarray .int, 2), (8, .putfield 9, 3), (11, .aload_n 0, 1), (12, .iconst 5, 1), (13, .newarray .int, 2), (15, .putfield 15, 3), (18, .aload_n 0, 1), (19, .bipush 6, 2), (21, .anewarray 18, 3), (24, .putfield 20, 3), (27, .aload_n 0, 1), (28, .getfield 9, 3), (31, .iconst 1, 1), (32, .invokestatic 24, 3), (35, .iconst 0, 1), (36, .istore_n 1, 1), (37, .iload_n 1, 1), (38, .bipush 6, 2), (40, .if_icmp .ge 22, 3), (43, .aload_n 0, 1), (44, .getfield 20, 3), (47, .iload_n 1, 1), (48, .new 18, 3), (51, .dup, 1), (52, .invokespecial 30, 3), (55, .aastore, 1), (56, .iinc 1 1, 3), (59, .goto (-22), 3), (62, .return_, 1)]
set_option maxRecDepth 100000 in
theorem t_Wo_init : ∀ q ∈ T_Wo_init, decode prog_9_method_1_code q.1 = .ok q.2 := by decide +kernel
theorem d_Wo_init_0 : decode prog_9_method_1_code 0 = .ok (.aload_n 0, 1) := q_tb t_Wo_init 0 rfl
theorem d_Wo_init_1 : decode prog_9_method_1_code 1 = .ok (.invokespecial 3, 3) := q_tb t_Wo_init 1 rfl
theorem d_Wo_init_4 : decode prog_9_method_1_code 4 = .ok (.aload_n 0, 1) := q_tb t_Wo_init 2 rfl
theorem d_Wo_init_5 : decode prog_9_method_1_code 5 = .ok (.iconst 5, 1) := q_tb t_Wo_init 3 rfl
theorem d_Wo_init_6 : decode prog_9_method_1_code 6 = .ok (.newarray .int, 2) := q_tb t_Wo_init 4 rfl
theorem d_Wo_init_8 : decode prog_9_method_1_code 8 = .ok (.putfield 9, 3) := q_tb t_Wo_init 5 rfl
theorem d_Wo_init_11 : decode prog_9_method_1_code 11 = .ok (.aload_n 0, 1) := q_tb t_Wo_init 6 rfl
theorem d_Wo_init_12 : decode prog_9_method_1_code 12 = .ok (.iconst 5, 1) := q_tb t_Wo_init 7 rfl
theorem d_Wo_init_13 : decode prog_9_method_1_code 13 = .ok (.newarray .int, 2) := q_tb t_Wo_init 8 rfl
theorem d_Wo_init_15 : decode prog_9_method_1_code 15 = .ok (.putfield 15, 3) := q_tb t_Wo_init 9 rfl
theorem d_Wo_init_18 : decode prog_9_method_1_code 18 = .ok (.aload_n 0, 1) := q_tb t_Wo_init 10 rfl
theorem d_Wo_init_19 : decode prog_9_method_1_code 19 = .ok (.bipush 6, 2) := q_tb t_Wo_init 11 rfl
theorem d_Wo_init_21 : decode prog_9_method_1_code 21 = .ok (.anewarray 18, 3) := q_tb t_Wo_init 12 rfl
theorem d_Wo_init_24 : decode prog_9_method_1_code 24 = .ok (.putfield 20, 3) := q_tb t_Wo_init 13 rfl
theorem d_Wo_init_27 : decode prog_9_method_1_code 27 = .ok (.aload_n 0, 1) := q_tb t_Wo_init 14 rfl
theorem d_Wo_init_28 : decode prog_9_method_1_code 28 = .ok (.getfield 9, 3) := q_tb t_Wo_init 15 rfl
theorem d_Wo_init_31 : decode prog_9_method_1_code 31 = .ok (.iconst 1, 1) := q_tb t_Wo_init 16 rfl
theorem d_Wo_init_32 : decode prog_9_method_1_code 32 = .ok (.invokestatic 24, 3) := q_tb t_Wo_init 17 rfl
theorem d_Wo_init_35 : decode prog_9_method_1_code 35 = .ok (.iconst 0, 1) := q_tb t_Wo_init 18 rfl
theorem d_Wo_init_36 : decode prog_9_method_1_code 36 = .ok (.istore_n 1, 1) := q_tb t_Wo_init 19 rfl
theorem d_Wo_init_37 : decode prog_9_method_1_code 37 = .ok (.iload_n 1, 1) := q_tb t_Wo_init 20 rfl
theorem d_Wo_init_38 : decode prog_9_method_1_code 38 = .ok (.bipush 6, 2) := q_tb t_Wo_init 21 rfl
theorem d_Wo_init_40 : decode prog_9_method_1_code 40 = .ok (.if_icmp .ge 22, 3) := q_tb t_Wo_init 22 rfl
theorem d_Wo_init_43 : decode prog_9_method_1_code 43 = .ok (.aload_n 0, 1) := q_tb t_Wo_init 23 rfl
theorem d_Wo_init_44 : decode prog_9_method_1_code 44 = .ok (.getfield 20, 3) := q_tb t_Wo_init 24 rfl
theorem d_Wo_init_47 : decode prog_9_method_1_code 47 = .ok (.iload_n 1, 1) := q_tb t_Wo_init 25 rfl
theorem d_Wo_init_48 : decode prog_9_method_1_code 48 = .ok (.new 18, 3) := q_tb t_Wo_init 26 rfl
theorem d_Wo_init_51 : decode prog_9_method_1_code 51 = .ok (.dup, 1) := q_tb t_Wo_init 27 rfl
theorem d_Wo_init_52 : decode prog_9_method_1_code 52 = .ok (.invokespecial 30, 3) := q_tb t_Wo_init 28 rfl
theorem d_Wo_init_55 : decode prog_9_method_1_code 55 = .ok (.aastore, 1) := q_tb t_Wo_init 29 rfl
theorem d_Wo_init_56 : decode prog_9_method_1_code 56 = .ok (.iinc 1 1, 3) := q_tb t_Wo_init 30 rfl
theorem d_Wo_init_59 : decode prog_9_method_1_code 59 = .ok (.goto (-22), 3) := q_tb t_Wo_init 31 rfl
theorem d_Wo_init_62 : decode prog_9_method_1_code 62 = .ok (.return_, 1) := q_tb t_Wo_init 32 rfl
def T_Se_init : List (Nat × Instr × Nat) := [(0, .aload_n 0, 1), (1, .invokespecial 3, 3), (4, .aload_n 0, 1), (5, .new 9, 3), (8, .dup, 1), (9, .invokespecial 11, 3), (12, .putfield 12, 3), (15, .aload_n 0, 1), (16, .new 9, 3), (19, .dup, 1), (20, .invokespecial 11, 3), (23, .putfield 18, 3), (26, .aload_n 0, 1), (27, .new 9, 3), (30, .dup, 1), (31, .invokespecial 11, 3), (34, .putfield 21, 3), (37, .aload_n 0, 1), (38, .new 9, 3), (41, .dup, 1), (42, .invokespecial 11, 3), (45, .putfield 24, 3), (48, .aload_n 0, 1), (49, .new 27, 3), (52, .dup, 1), (53, .invokespecial 29, 3), (56, .putfield 30, 3), (59, .aload_n 0, 1), (60, .bipush 6, 2), (62, .newarray .int, 2), (64, .putfield 34, 3), (67, .aload_n 0, 1), (68, .iconst 5, 1), (69, .newarray .int, 2), (71, .putfield 38, 3), (74, .aload_n 0, 1), (75, .aload_n 1, 1), (76, .putfield 41, 3), (79, .return_, 1)]
set_option maxRecDepth 100000 in
theorem t_Se_init : ∀ q ∈ T_Se_init, decode prog_4_method_1_code q.1 = .ok q.2 := by decide +kernel
theorem d_Se_init_0 : decode prog_4_method_1_code 0 = .ok (.aload_n 0, 1) := q_tb t_Se_init 0 rfl
theorem d_Se_init_1 : decode prog_4_method_1_code 1 = .ok (.invokespecial 3, 3) := q_tb t_Se_init 1 rfl
theorem d_Se_init_4 : decode prog_4_method_1_code 4 = .ok (.aload_n 0, 1) := q_tb t_Se_init 2 rfl
theorem d_Se_init_5 : decode prog_4_method_1_code 5 = .ok (.new 9, 3) := q_tb t_Se_init 3 rfl
theorem d_Se_init_8 : decode prog_4_method_1_code 8 = .ok (.dup, 1) := q_tb t_Se_init 4 rfl
theorem d_Se_init_9 : decode prog_4_method_1_code 9 = .ok (.invokespecial 11, 3) := q_tb t_Se_init 5 rfl
theorem d_Se_init_12 : decode prog_4_method_1_code 12 = .ok (.putfield 12, 3) := q_tb t_Se_init 6 rfl
theorem d_Se_init_15 : decode prog_4_method_1_code 15 = .ok (.aload_n 0, 1) := q_tb t_Se_init 7 rfl
theorem d_Se_init_16 : decode prog_4_method_1_code 16 = .ok (.new 9, 3) := q_tb t_Se_init 8 rfl
theorem d_Se_init_19 : decode prog_4_method_1_code 19 = .ok (.dup, 1) := q_tb t_Se_init 9 rfl
theorem d_Se_init_20 : decode prog_4_method_1_code 20 = .ok (.invokespecial 11, 3) := q_tb t_Se_init 10 rfl
theorem d_Se_init_23 : decode prog_4_method_1_code 23 = .ok (.putfield 18, 3) := q_tb t_Se_init 11 rfl
theorem d_Se_init_26 : decode prog_4_method_1_code 26 = .ok (.aload_n 0, 1) := q_tb t_Se_init 12 rfl
theorem d_Se_init_27 : decode prog_4_method_1_code 27 = .ok (.new 9, 3) := q_tb t_Se_init 13 rfl
theorem d_Se_init_30 : decode prog_4_method_1_code 30 = .ok (.dup, 1) := q_tb t_Se_init 14 rfl
theorem d_Se_init_31 : decode prog_4_method_1_code 31 = .ok (.invokespecial 11, 3) := q_tb t_Se_init 15 rfl
theorem d_Se_init_34 : decode prog_4_method_1_code 34 = .ok (.putfield 21, 3) := q_tb t_Se_init 16 rfl
theorem d_Se_init_37 : decode prog_4_method_1_code 37 = .ok (.aload_n 0, 1) := q_tb t_Se_init 17 rfl
theorem d_Se_init_38 : decode prog_4_method_1_code 38 = .ok (.new 9, 3) := q_tb t_Se_init 18 rfl
theorem d_Se_init_41 : decode prog_4_method_1_code 41 = .ok (.dup, 1) := q_tb t_Se_init 19 rfl
theorem d_Se_init_42 : decode prog_4_method_1_code 42 = .ok (.invokespecial 11, 3) := q_tb t_Se_init 20 rfl
theorem d_Se_init_45 : decode prog_4_method_1_code 45 = .ok (.putfield 24, 3) := q_tb t_Se_init 21 rfl
theorem d_Se_init_48 : decode prog_4_method_1_code 48 = .ok (.aload_n 0, 1) := q_tb t_Se_init 22 rfl
theorem d_Se_init_49 : decode prog_4_method_1_code 49 = .ok (.new 27, 3) := q_tb t_Se_init 23 rfl
theorem d_Se_init_52 : decode prog_4_method_1_code 52 = .ok (.dup, 1) := q_tb t_Se_init 24 rfl
theorem d_Se_init_53 : decode prog_4_method_1_code 53 = .ok (.invokespecial 29, 3) := q_tb t_Se_init 25 rfl
theorem d_Se_init_56 : decode prog_4_method_1_code 56 = .ok (.putfield 30, 3) := q_tb t_Se_init 26 rfl
theorem d_Se_init_59 : decode prog_4_method_1_code 59 = .ok (.aload_n 0, 1) := q_tb t_Se_init 27 rfl
theorem d_Se_init_60 : decode prog_4_method_1_code 60 = .ok (.bipush 6, 2) := q_tb t_Se_init 28 rfl
theorem d_Se_init_62 : decode prog_4_method_1_code 62 = .ok (.newarray .int, 2) := q_tb t_Se_init 29 rfl
theorem d_Se_init_64 : decode prog_4_method_1_code 64 = .ok (.putfield 34, 3) := q_tb t_Se_init 30 rfl
theorem d_Se_init_67 : decode prog_4_method_1_code 67 = .ok (.aload_n 0, 1) := q_tb t_Se_init 31 rfl
theorem d_Se_init_68 : decode prog_4_method_1_code 68 = .ok (.iconst 5, 1) := q_tb t_Se_init 32 rfl
theorem d_Se_init_69 : decode prog_4_method_1_code 69 = .ok (.newarray .int, 2) := q_tb t_Se_init 33 rfl
theorem d_Se_init_71 : decode prog_4_method_1_code 71 = .ok (.putfield 38, 3) := q_tb t_Se_init 34 rfl
theorem d_Se_init_74 : decode prog_4_method_1_code 74 = .ok (.aload_n 0, 1) := q_tb t_Se_init 35 rfl
theorem d_Se_init_75 : decode prog_4_method_1_code 75 = .ok (.aload_n 1, 1) := q_tb t_Se_init 36 rfl
theorem d_Se_init_76 : decode prog_4_method_1_code 76 = .ok (.putfield 41, 3) := q_tb t_Se_init 37 rfl
theorem d_Se_init_79 : decode prog_4_method_1_code 79 = .ok (.return_, 1) := q_tb t_Se_init 38 rfl
def T_Ss_init : List (Nat × Instr × Nat) := [(0, .aload_n 0, 1), (1, .invokespecial 3, 3), (4, .aload_n 0, 1), (5, .sipush 469, 3), (8, .newarray .long, 2), (10, .putfield 11, 3), (13, .aload_n 0, 1), (14, .sipush 469, 3), (17, .putfield 15, 3), (20, .return_, 1)]
set_option maxRecDepth 100000 in
theorem t_Ss_init : ∀ q ∈ T_Ss_init, decode prog_6_method_1_code q.1 = .ok q.2 := by decide +kernel
theorem d_Ss_init_0 : decode prog_6_method_1_code 0 = .ok (.aload_n 0, 1) := q_tb t_Ss_init 0 rfl
theorem d_Ss_init_1 : decode prog_6_method_1_code 1 = .ok (.invokespecial 3, 3) := q_tb t_Ss_init 1 rfl
theorem d_Ss_init_4 : decode prog_6_method_1_code 4 = .ok (.aload_n 0, 1) := q_tb t_Ss_init 2 rfl
theorem d_Ss_init_5 : decode prog_6_method_1_code 5 = .ok (.sipush 469, 3) := q_tb t_Ss_init 3 rfl
theorem d_Ss_init_8 : decode prog_6_method_1_code 8 = .ok (.newarray .long, 2) := q_tb t_Ss_init 4 rfl
theorem d_Ss_init_10 : decode prog_6_method_1_code 10 = .ok (.putfield 11, 3) := q_tb t_Ss_init 5 rfl
theorem d_Ss_init_13 : decode prog_6_method_1_code 13 = .ok (.aload_n 0, 1) := q_tb t_Ss_init 6 rfl
theorem d_Ss_init_14 : decode prog_6_method_1_code 14 = .ok (.sipush 469, 3) := q_tb t_Ss_init 7 rfl
theorem d_Ss_init_17 : decode prog_6_method_1_code 17 = .ok (.putfield 15, 3) := q_tb t_Ss_init 8 rfl
theorem d_Ss_init_20 : decode prog_6_method_1_code 20 = .ok (.return_, 1) := q_tb t_Ss_init 9 rfl
def T_Se_forget : List (Nat × Instr × Nat) := [(0, .aload_n 0, 1), (1, .iconst 0, 1), (2, .putfield 45, 3), (5, .aload_n 0, 1), (6, .iconst 0, 1), (7, .putfield 49, 3), (10, .return_, 1)]
set_option maxRecDepth 100000 in
theorem t_Se_forget : ∀ q ∈ T_Se_forget, decode prog_4_method_2_code q.1 = .ok q.2 := by decide +kernel
theorem d_Se_forget_0 : decode prog_4_method_2_code 0 = .ok (.aload_n 0, 1) := q_tb t_Se_forget 0 rfl
theorem d_Se_forget_1 : decode prog_4_method_2_code 1 = .ok (.iconst 0, 1) := q_tb t_Se_forget 1 rfl
theorem d_Se_forget_2 : decode prog_4_method_2_code 2 = .ok (.putfield 45, 3) := q_tb t_Se_forget 2 rfl
theorem d_Se_forget_5 : decode prog_4_method_2_code 5 = .ok (.aload_n 0, 1) := q_tb t_Se_forget 3 rfl
theorem d_Se_forget_6 : decode prog_4_method_2_code 6 = .ok (.iconst 0, 1) := q_tb t_Se_forget 4 rfl
theorem d_Se_forget_7 : decode prog_4_method_2_code 7 = .ok (.putfield 49, 3) := q_tb t_Se_forget 5 rfl
theorem d_Se_forget_10 : decode prog_4_method_2_code 10 = .ok (.return_, 1) := q_tb t_Se_forget 6 rfl
def T_Wo_putFirst : List (Nat × Instr × Nat) := [(0, .aload_n 1, 1), (1, .getfield 47, 3), (4, .iconst 0, 1), (5, .invokestatic 24, 3), (8, .iconst 0, 1), (9, .istore_n 2, 1), (10, .iload_n 2, 1), (11, .iconst 5, 1), (12, .if_icmp .ge 21, 3), (15, .aload_n 1, 1), (16, .getfield 52, 3), (19, .iload_n 2, 1), (20, .aload_n 0, 1), (21, .getfield 15, 3), (24, .iload_n 2, 1), (25, .iaload, 1), (26, .iastore, 1), (27, .iinc 2 1, 3), (30, .goto (-20), 3), (33, .return_, 1)]
set_option maxRecDepth 100000 in
theorem t_Wo_putFirst : ∀ q ∈ T_Wo_putFirst, decode prog_9_method_6_code q.1 = .ok q.2 := by decide +kernel
theorem d_Wo_putFirst_0 : decode prog_9_method_6_code 0 = .ok (.aload_n 1, 1) := q_tb t_Wo_putFirst 0 rfl
theorem d_Wo_putFirst_1 : decode prog_9_method_6_code 1 = .ok (.getfield 47, 3) := q_tb t_Wo_putFirst 1 rfl
theorem d_Wo_putFirst_4 : decode prog_9_method_6_code 4 = .ok (.iconst 0, 1) := q_tb t_Wo_putFirst 2 rfl
theorem d_Wo_putFirst_5 : decode prog_9_method_6_code 5 = .ok (.invokestatic 24, 3) := q_tb t_Wo_putFirst 3 rfl
theorem d_Wo_putFirst_8 : decode prog_9_method_6_code 8 = .ok (.iconst 0, 1) := q_tb t_Wo_putFirst 4 rfl
theorem d_Wo_putFirst_9 : decode prog_9_method_6_code 9 = .ok (.istore_n 2, 1) := q_tb t_Wo_putFirst 5 rfl
theorem d_Wo_putFirst_10 : decode prog_9_method_6_code 10 = .ok (.iload_n 2, 1) := q_tb t_Wo_putFirst 6 rfl
theorem d_Wo_putFirst_11 : decode prog_9_method_6_code 11 = .ok (.iconst 5, 1) := q_tb t_Wo_putFirst 7 rfl
theorem d_Wo_putFirst_12 : decode prog_9_method_6_code 12 = .ok (.if_icmp .ge 21, 3) := q_tb t_Wo_putFirst 8 rfl
theorem d_Wo_putFirst_15 : decode prog_9_method_6_code 15 = .ok (.aload_n 1, 1) := q_tb t_Wo_putFirst 9 rfl
theorem d_Wo_putFirst_16 : decode prog_9_method_6_code 16 = .ok (.getfield 52, 3) := q_tb t_Wo_putFirst 10 rfl
theorem d_Wo_putFirst_19 : decode prog_9_method_6_code 19 = .ok (.iload_n 2, 1) := q_tb t_Wo_putFirst 11 rfl
theorem d_Wo_putFirst_20 : decode prog_9_method_6_code 20 = .ok (.aload_n 0, 1) := q_tb t_Wo_putFirst 12 rfl
theorem d_Wo_putFirst_21 : decode prog_9_method_6_code 21 = .ok (.getfield 15, 3) := q_tb t_Wo_putFirst 13 rfl
theorem d_Wo_putFirst_24 : decode prog_9_method_6_code 24 = .ok (.iload_n 2, 1) := q_tb t_Wo_putFirst 14 rfl
theorem d_Wo_putFirst_25 : decode prog_9_method_6_code 25 = .ok (.iaload, 1) := q_tb t_Wo_putFirst 15 rfl
theorem d_Wo_putFirst_26 : decode prog_9_method_6_code 26 = .ok (.iastore, 1) := q_tb t_Wo_putFirst 16 rfl
theorem d_Wo_putFirst_27 : decode prog_9_method_6_code 27 = .ok (.iinc 2 1, 3) := q_tb t_Wo_putFirst 17 rfl
theorem d_Wo_putFirst_30 : decode prog_9_method_6_code 30 = .ok (.goto (-20), 3) := q_tb t_Wo_putFirst 18 rfl
theorem d_Wo_putFirst_33 : decode prog_9_method_6_code 33 = .ok (.return_, 1) := q_tb t_Wo_putFirst 19 rfl
def T_Wo_removeAll : List (Nat × Instr × Nat) := [(0, .aload_n 0, 1), (1, .getfield 9, 3), (4, .iconst 1, 1), (5, .invokestatic 24, 3), (8, .aload_n 0, 1), (9, .getfield 15, 3), (12, .iconst 0, 1), (13, .invokestatic 24, 3), (16, .aload_n 0, 1), (17, .iconst 0, 1), (18, .putfield 31, 3), (21, .aload_n 0, 1), (22, .iconst 0, 1), (23, .putfield 35, 3), (26, .return_, 1)]
set_option maxRecDepth 100000 in
theorem t_Wo_removeAll : ∀ q ∈ T_Wo_removeAll, decode prog_9_method_3_code q.1 = .ok q.2 := by decide +kernel
theorem d_Wo_removeAll_0 : decode prog_9_method_3_code 0 = .ok (.aload_n 0, 1) := q_tb t_Wo_removeAll 0 rfl
theorem d_Wo_removeAll_1 : decode prog_9_method_3_code 1 = .ok (.getfield 9, 3) := q_tb t_Wo_removeAll 1 rfl
theorem d_Wo_removeAll_4 : decode prog_9_method_3_code 4 = .ok (.iconst 1, 1) := q_tb t_Wo_removeAll 2 rfl
theorem d_Wo_removeAll_5 : decode prog_9_method_3_code 5 = .ok (.invokestatic 24, 3) := q_tb t_Wo_removeAll 3 rfl
theorem d_Wo_removeAll_8 : decode prog_9_method_3_code 8 = .ok (.aload_n 0, 1) := q_tb t_Wo_removeAll 4 rfl
theorem d_Wo_removeAll_9 : decode prog_9_method_3_code 9 = .ok (.getfield 15, 3) := q_tb t_Wo_removeAll 5 rfl
theorem d_Wo_removeAll_12 : decode prog_9_method_3_code 12 = .ok (.iconst 0, 1) := q_tb t_Wo_removeAll 6 rfl
theorem d_Wo_removeAll_13 : decode prog_9_method_3_code 13 = .ok (.invokestatic 24, 3) := q_tb t_Wo_removeAll 7 rfl
theorem d_Wo_removeAll_16 : decode prog_9_method_3_code 16 = .ok (.aload_n 0, 1) := q_tb t_Wo_removeAll 8 rfl
theorem d_Wo_removeAll_17 : decode prog_9_method_3_code 17 = .ok (.iconst 0, 1) := q_tb t_Wo_removeAll 9 rfl
theorem d_Wo_removeAll_18 : decode prog_9_method_3_code 18 = .ok (.putfield 31, 3) := q_tb t_Wo_removeAll 10 rfl
theorem d_Wo_removeAll_21 : decode prog_9_method_3_code 21 = .ok (.aload_n 0, 1) := q_tb t_Wo_removeAll 11 rfl
theorem d_Wo_removeAll_22 : decode prog_9_method_3_code 22 = .ok (.iconst 0, 1) := q_tb t_Wo_removeAll 12 rfl
theorem d_Wo_removeAll_23 : decode prog_9_method_3_code 23 = .ok (.putfield 35, 3) := q_tb t_Wo_removeAll 13 rfl
theorem d_Wo_removeAll_26 : decode prog_9_method_3_code 26 = .ok (.return_, 1) := q_tb t_Wo_removeAll 14 rfl
def T_Wo_isSearchable : List (Nat × Instr × Nat) := [(0, .aload_n 0, 1), (1, .invokevirtual 41, 3), (4, .ldc2_w 45, 3), (7, .lcmp, 1), (8, .ifCond .gt 7, 3), (11, .iconst 1, 1), (12, .goto 4, 3), (15, .iconst 0, 1), (16, .ireturn, 1)]
set_option maxRecDepth 100000 in
theorem t_Wo_isSearchable : ∀ q ∈ T_Wo_isSearchable, decode prog_9_method_5_code q.1 = .ok q.2 := by decide +kernel
theorem d_Wo_isSearchable_0 : decode prog_9_method_5_code 0 = .ok (.aload_n 0, 1) := q_tb t_Wo_isSearchable 0 rfl
theorem d_Wo_isSearchable_1 : decode prog_9_method_5_code 1 = .ok (.invokevirtual 41, 3) := q_tb t_Wo_isSearchable 1 rfl
theorem d_Wo_isSearchable_4 : decode prog_9_method_5_code 4 = .ok (.ldc2_w 45, 3) := q_tb t_Wo_isSearchable 2 rfl
theorem d_Wo_isSearchable_7 : decode prog_9_method_5_code 7 = .ok (.lcmp, 1) := q_tb t_Wo_isSearchable 3 rfl
theorem d_Wo_isSearchable_8 : decode prog_9_method_5_code 8 = .ok (.ifCond .gt 7, 3) := q_tb t_Wo_isSearchable 4 rfl
theorem d_Wo_isSearchable_11 : decode prog_9_method_5_code 11 = .ok (.iconst 1, 1) := q_tb t_Wo_isSearchable 5 rfl
theorem d_Wo_isSearchable_12 : decode prog_9_method_5_code 12 = .ok (.goto 4, 3) := q_tb t_Wo_isSearchable 6 rfl
theorem d_Wo_isSearchable_15 : decode prog_9_method_5_code 15 = .ok (.iconst 0, 1) := q_tb t_Wo_isSearchable 7 rfl
theorem d_Wo_isSearchable_16 : decode prog_9_method_5_code 16 = .ok (.ireturn, 1) := q_tb t_Wo_isSearchable 8 rfl
def T_Wo_countStates : List (Nat × Instr × Nat) := [(0, .lconst 1, 1), (1, .lstore_n 1, 1), (2, .iconst 0, 1), (3, .istore_n 3, 1), (4, .iload_n 3, 1), (5, .aload_n 0, 1), (6, .getfield 35, 3), (9, .if_icmp .ge 22, 3), (12, .lload_n 1, 1), (13, .aload_n 0, 1), (14, .getfield 20, 3), (17, .iload_n 3, 1), (18, .aaload, 1), (19, .getfield 38, 3), (22, .i2l, 1), (23, .lmul, 1), (24, .lstore_n 1, 1), (25, .iinc 3 1, 3), (28, .goto (-24), 3), (31, .iconst 0, 1), (32, .istore_n 3, 1), (33, .iload_n 3, 1), (34, .iconst 5, 1), (35, .if_icmp .ge 19, 3), (38, .lload_n 1, 1), (39, .aload_n 0, 1), (40, .getfield 9, 3), (43, .iload_n 3, 1), (44, .iaload, 1), (45, .i2l, 1), (46, .lmul, 1), (47, .lstore_n 1, 1), (48, .iinc 3 1, 3), (51, .goto (-18), 3), (54, .lload_n 1, 1), (55, .lreturn, 1)]
set_option maxRecDepth 100000 in
theorem t_Wo_countStates : ∀ q ∈ T_Wo_countStates, decode prog_9_method_4_code q.1 = .ok q.2 := by decide +kernel
theorem d_Wo_countStates_0 : decode prog_9_method_4_code 0 = .ok (.lconst 1, 1) := q_tb t_Wo_countStates 0 rfl
theorem d_Wo_countStates_1 : decode prog_9_method_4_code 1 = .ok (.lstore_n 1, 1) := q_tb t_Wo_countStates 1 rfl
theorem d_Wo_countStates_2 : decode prog_9_method_4_code 2 = .ok (.iconst 0, 1) := q_tb t_Wo_countStates 2 rfl
theorem d_Wo_countStates_3 : decode prog_9_method_4_code 3 = .ok (.istore_n 3, 1) := q_tb t_Wo_countStates 3 rfl
theorem d_Wo_countStates_4 : decode prog_9_method_4_code 4 = .ok (.iload_n 3, 1) := q_tb t_Wo_countStates 4 rfl
theorem d_Wo_countStates_5 : decode prog_9_method_4_code 5 = .ok (.aload_n 0, 1) := q_tb t_Wo_countStates 5 rfl
theorem d_Wo_countStates_6 : decode prog_9_method_4_code 6 = .ok (.getfield 35, 3) := q_tb t_Wo_countStates 6 rfl
theorem d_Wo_countStates_9 : decode prog_9_method_4_code 9 = .ok (.if_icmp .ge 22, 3) := q_tb t_Wo_countStates 7 rfl
theorem d_Wo_countStates_12 : decode prog_9_method_4_code 12 = .ok (.lload_n 1, 1) := q_tb t_Wo_countStates 8 rfl
theorem d_Wo_countStates_13 : decode prog_9_method_4_code 13 = .ok (.aload_n 0, 1) := q_tb t_Wo_countStates 9 rfl
theorem d_Wo_countStates_14 : decode prog_9_method_4_code 14 = .ok (.getfield 20, 3) := q_tb t_Wo_countStates 10 rfl
theorem d_Wo_countStates_17 : decode prog_9_method_4_code 17 = .ok (.iload_n 3, 1) := q_tb t_Wo_countStates 11 rfl
theorem d_Wo_countStates_18 : decode prog_9_method_4_code 18 = .ok (.aaload, 1) := q_tb t_Wo_countStates 12 rfl
theorem d_Wo_countStates_19 : decode prog_9_method_4_code 19 = .ok (.getfield 38, 3) := q_tb t_Wo_countStates 13 rfl
theorem d_Wo_countStates_22 : decode prog_9_method_4_code 22 = .ok (.i2l, 1) := q_tb t_Wo_countStates 14 rfl
theorem d_Wo_countStates_23 : decode prog_9_method_4_code 23 = .ok (.lmul, 1) := q_tb t_Wo_countStates 15 rfl
theorem d_Wo_countStates_24 : decode prog_9_method_4_code 24 = .ok (.lstore_n 1, 1) := q_tb t_Wo_countStates 16 rfl
theorem d_Wo_countStates_25 : decode prog_9_method_4_code 25 = .ok (.iinc 3 1, 3) := q_tb t_Wo_countStates 17 rfl
theorem d_Wo_countStates_28 : decode prog_9_method_4_code 28 = .ok (.goto (-24), 3) := q_tb t_Wo_countStates 18 rfl
theorem d_Wo_countStates_31 : decode prog_9_method_4_code 31 = .ok (.iconst 0, 1) := q_tb t_Wo_countStates 19 rfl
theorem d_Wo_countStates_32 : decode prog_9_method_4_code 32 = .ok (.istore_n 3, 1) := q_tb t_Wo_countStates 20 rfl
theorem d_Wo_countStates_33 : decode prog_9_method_4_code 33 = .ok (.iload_n 3, 1) := q_tb t_Wo_countStates 21 rfl
theorem d_Wo_countStates_34 : decode prog_9_method_4_code 34 = .ok (.iconst 5, 1) := q_tb t_Wo_countStates 22 rfl
theorem d_Wo_countStates_35 : decode prog_9_method_4_code 35 = .ok (.if_icmp .ge 19, 3) := q_tb t_Wo_countStates 23 rfl
theorem d_Wo_countStates_38 : decode prog_9_method_4_code 38 = .ok (.lload_n 1, 1) := q_tb t_Wo_countStates 24 rfl
theorem d_Wo_countStates_39 : decode prog_9_method_4_code 39 = .ok (.aload_n 0, 1) := q_tb t_Wo_countStates 25 rfl
theorem d_Wo_countStates_40 : decode prog_9_method_4_code 40 = .ok (.getfield 9, 3) := q_tb t_Wo_countStates 26 rfl
theorem d_Wo_countStates_43 : decode prog_9_method_4_code 43 = .ok (.iload_n 3, 1) := q_tb t_Wo_countStates 27 rfl
theorem d_Wo_countStates_44 : decode prog_9_method_4_code 44 = .ok (.iaload, 1) := q_tb t_Wo_countStates 28 rfl
theorem d_Wo_countStates_45 : decode prog_9_method_4_code 45 = .ok (.i2l, 1) := q_tb t_Wo_countStates 29 rfl
theorem d_Wo_countStates_46 : decode prog_9_method_4_code 46 = .ok (.lmul, 1) := q_tb t_Wo_countStates 30 rfl
theorem d_Wo_countStates_47 : decode prog_9_method_4_code 47 = .ok (.lstore_n 1, 1) := q_tb t_Wo_countStates 31 rfl
theorem d_Wo_countStates_48 : decode prog_9_method_4_code 48 = .ok (.iinc 3 1, 3) := q_tb t_Wo_countStates 32 rfl
theorem d_Wo_countStates_51 : decode prog_9_method_4_code 51 = .ok (.goto (-18), 3) := q_tb t_Wo_countStates 33 rfl
theorem d_Wo_countStates_54 : decode prog_9_method_4_code 54 = .ok (.lload_n 1, 1) := q_tb t_Wo_countStates 34 rfl
theorem d_Wo_countStates_55 : decode prog_9_method_4_code 55 = .ok (.lreturn, 1) := q_tb t_Wo_countStates 35 rfl
def T_Se_findStanding0 : List (Nat × Instr × Nat) := [(0, .aload_n 0, 1), (1, .getfield 45, 3), (4, .ifCond .eq 4, 3), (7, .return_, 1), (8, .aload_n 0, 1), (9, .invokevirtual 52, 3), (12, .aload_n 0, 1), (13, .getfield 12, 3), (16, .invokevirtual 55, 3), (19, .aload_n 0, 1), (20, .getfield 18, 3), (23, .invokevirtual 55, 3), (26, .aload_n 0, 1), (27, .getfield 24, 3), (30, .invokevirtual 55, 3), (33, .aload_n 0, 1), (34, .iconst 0, 1), (35, .putfield 58, 3), (38, .aload_n 0, 1), (39, .iconst 0, 1), (40, .putfield 62, 3), (43, .aload_n 0, 1), (44, .getfield 41, 3), (47, .aload_n 0, 1), (48, .getfield 30, 3), (51, .invokevirtual 65, 3), (54, .aload_n 0, 1), (55, .aload_n 0, 1), (56, .getfield 41, 3), (59, .aload_n 0, 1), (60, .getfield 30, 3), (63, .invokevirtual 71, 3), (66, .invokevirtual 75, 3), (69, .iconst 0, 1), (70, .istore_n 1, 1), (71, .iload_n 1, 1), (72, .sipush 30000, 3), (75, .if_icmp .ge 30, 3), (78, .aload_n 0, 1), (79, .getfield 24, 3)]
set_option maxRecDepth 100000 in
theorem t_Se_findStanding0 : ∀ q ∈ T_Se_findStanding0, decode prog_4_method_3_code q.1 = .ok q.2 := by decide +kernel
theorem d_Se_findStanding_0 : decode prog_4_method_3_code 0 = .ok (.aload_n 0, 1) := q_tb t_Se_findStanding0 0 rfl
theorem d_Se_findStanding_1 : decode prog_4_method_3_code 1 = .ok (.getfield 45, 3) := q_tb t_Se_findStanding0 1 rfl
theorem d_Se_findStanding_4 : decode prog_4_method_3_code 4 = .ok (.ifCond .eq 4, 3) := q_tb t_Se_findStanding0 2 rfl
theorem d_Se_findStanding_7 : decode prog_4_method_3_code 7 = .ok (.return_, 1) := q_tb t_Se_findStanding0 3 rfl
theorem d_Se_findStanding_8 : decode prog_4_method_3_code 8 = .ok (.aload_n 0, 1) := q_tb t_Se_findStanding0 4 rfl
theorem d_Se_findStanding_9 : decode prog_4_method_3_code 9 = .ok (.invokevirtual 52, 3) := q_tb t_Se_findStanding0 5 rfl
theorem d_Se_findStanding_12 : decode prog_4_method_3_code 12 = .ok (.aload_n 0, 1) := q_tb t_Se_findStanding0 6 rfl
theorem d_Se_findStanding_13 : decode prog_4_method_3_code 13 = .ok (.getfield 12, 3) := q_tb t_Se_findStanding0 7 rfl
theorem d_Se_findStanding_16 : decode prog_4_method_3_code 16 = .ok (.invokevirtual 55, 3) := q_tb t_Se_findStanding0 8 rfl
theorem d_Se_findStanding_19 : decode prog_4_method_3_code 19 = .ok (.aload_n 0, 1) := q_tb t_Se_findStanding0 9 rfl
theorem d_Se_findStanding_20 : decode prog_4_method_3_code 20 = .ok (.getfield 18, 3) := q_tb t_Se_findStanding0 10 rfl
theorem d_Se_findStanding_23 : decode prog_4_method_3_code 23 = .ok (.invokevirtual 55, 3) := q_tb t_Se_findStanding0 11 rfl
theorem d_Se_findStanding_26 : decode prog_4_method_3_code 26 = .ok (.aload_n 0, 1) := q_tb t_Se_findStanding0 12 rfl
theorem d_Se_findStanding_27 : decode prog_4_method_3_code 27 = .ok (.getfield 24, 3) := q_tb t_Se_findStanding0 13 rfl
theorem d_Se_findStanding_30 : decode prog_4_method_3_code 30 = .ok (.invokevirtual 55, 3) := q_tb t_Se_findStanding0 14 rfl
theorem d_Se_findStanding_33 : decode prog_4_method_3_code 33 = .ok (.aload_n 0, 1) := q_tb t_Se_findStanding0 15 rfl
theorem d_Se_findStanding_34 : decode prog_4_method_3_code 34 = .ok (.iconst 0, 1) := q_tb t_Se_findStanding0 16 rfl
theorem d_Se_findStanding_35 : decode prog_4_method_3_code 35 = .ok (.putfield 58, 3) := q_tb t_Se_findStanding0 17 rfl
theorem d_Se_findStanding_38 : decode prog_4_method_3_code 38 = .ok (.aload_n 0, 1) := q_tb t_Se_findStanding0 18 rfl
theorem d_Se_findStanding_39 : decode prog_4_method_3_code 39 = .ok (.iconst 0, 1) := q_tb t_Se_findStanding0 19 rfl
theorem d_Se_findStanding_40 : decode prog_4_method_3_code 40 = .ok (.putfield 62, 3) := q_tb t_Se_findStanding0 20 rfl
theorem d_Se_findStanding_43 : decode prog_4_method_3_code 43 = .ok (.aload_n 0, 1) := q_tb t_Se_findStanding0 21 rfl
theorem d_Se_findStanding_44 : decode prog_4_method_3_code 44 = .ok (.getfield 41, 3) := q_tb t_Se_findStanding0 22 rfl
theorem d_Se_findStanding_47 : decode prog_4_method_3_code 47 = .ok (.aload_n 0, 1) := q_tb t_Se_findStanding0 23 rfl
theorem d_Se_findStanding_48 : decode prog_4_method_3_code 48 = .ok (.getfield 30, 3) := q_tb t_Se_findStanding0 24 rfl
theorem d_Se_findStanding_51 : decode prog_4_method_3_code 51 = .ok (.invokevirtual 65, 3) := q_tb t_Se_findStanding0 25 rfl
theorem d_Se_findStanding_54 : decode prog_4_method_3_code 54 = .ok (.aload_n 0, 1) := q_tb t_Se_findStanding0 26 rfl
theorem d_Se_findStanding_55 : decode prog_4_method_3_code 55 = .ok (.aload_n 0, 1) := q_tb t_Se_findStanding0 27 rfl
theorem d_Se_findStanding_56 : decode prog_4_method_3_code 56 = .ok (.getfield 41, 3) := q_tb t_Se_findStanding0 28 rfl
theorem d_Se_findStanding_59 : decode prog_4_method_3_code 59 = .ok (.aload_n 0, 1) := q_tb t_Se_findStanding0 29 rfl
theorem d_Se_findStanding_60 : decode prog_4_method_3_code 60 = .ok (.getfield 30, 3) := q_tb t_Se_findStanding0 30 rfl
theorem d_Se_findStanding_63 : decode prog_4_method_3_code 63 = .ok (.invokevirtual 71, 3) := q_tb t_Se_findStanding0 31 rfl
theorem d_Se_findStanding_66 : decode prog_4_method_3_code 66 = .ok (.invokevirtual 75, 3) := q_tb t_Se_findStanding0 32 rfl
theorem d_Se_findStanding_69 : decode prog_4_method_3_code 69 = .ok (.iconst 0, 1) := q_tb t_Se_findStanding0 33 rfl
theorem d_Se_findStanding_70 : decode prog_4_method_3_code 70 = .ok (.istore_n 1, 1) := q_tb t_Se_findStanding0 34 rfl
theorem d_Se_findStanding_71 : decode prog_4_method_3_code 71 = .ok (.iload_n 1, 1) := q_tb t_Se_findStanding0 35 rfl
theorem d_Se_findStanding_72 : decode prog_4_method_3_code 72 = .ok (.sipush 30000, 3) := q_tb t_Se_findStanding0 36 rfl
theorem d_Se_findStanding_75 : decode prog_4_method_3_code 75 = .ok (.if_icmp .ge 30, 3) := q_tb t_Se_findStanding0 37 rfl
theorem d_Se_findStanding_78 : decode prog_4_method_3_code 78 = .ok (.aload_n 0, 1) := q_tb t_Se_findStanding0 38 rfl
theorem d_Se_findStanding_79 : decode prog_4_method_3_code 79 = .ok (.getfield 24, 3) := q_tb t_Se_findStanding0 39 rfl
def T_Se_findStanding1 : List (Nat × Instr × Nat) := [(82, .invokevirtual 79, 3), (85, .istore_n 2, 1), (86, .iload_n 2, 1), (87, .iconst (-1), 1), (88, .if_icmp .ne 6, 3), (91, .goto 14, 3), (94, .aload_n 0, 1), (95, .iload_n 2, 1), (96, .invokevirtual 83, 3), (99, .iinc 1 1, 3), (102, .goto (-31), 3), (105, .aload_n 0, 1), (106, .iconst 1, 1), (107, .putfield 45, 3), (110, .return_, 1)]
set_option maxRecDepth 100000 in
theorem t_Se_findStanding1 : ∀ q ∈ T_Se_findStanding1, decode prog_4_method_3_code q.1 = .ok q.2 := by decide +kernel
theorem d_Se_findStanding_82 : decode prog_4_method_3_code 82 = .ok (.invokevirtual 79, 3) := q_tb t_Se_findStanding1 0 rfl
theorem d_Se_findStanding_85 : decode prog_4_method_3_code 85 = .ok (.istore_n 2, 1) := q_tb t_Se_findStanding1 1 rfl
theorem d_Se_findStanding_86 : decode prog_4_method_3_code 86 = .ok (.iload_n 2, 1) := q_tb t_Se_findStanding1 2 rfl
theorem d_Se_findStanding_87 : decode prog_4_method_3_code 87 = .ok (.iconst (-1), 1) := q_tb t_Se_findStanding1 3 rfl
theorem d_Se_findStanding_88 : decode prog_4_method_3_code 88 = .ok (.if_icmp .ne 6, 3) := q_tb t_Se_findStanding1 4 rfl
theorem d_Se_findStanding_91 : decode prog_4_method_3_code 91 = .ok (.goto 14, 3) := q_tb t_Se_findStanding1 5 rfl
theorem d_Se_findStanding_94 : decode prog_4_method_3_code 94 = .ok (.aload_n 0, 1) := q_tb t_Se_findStanding1 6 rfl
theorem d_Se_findStanding_95 : decode prog_4_method_3_code 95 = .ok (.iload_n 2, 1) := q_tb t_Se_findStanding1 7 rfl
theorem d_Se_findStanding_96 : decode prog_4_method_3_code 96 = .ok (.invokevirtual 83, 3) := q_tb t_Se_findStanding1 8 rfl
theorem d_Se_findStanding_99 : decode prog_4_method_3_code 99 = .ok (.iinc 1 1, 3) := q_tb t_Se_findStanding1 9 rfl
theorem d_Se_findStanding_102 : decode prog_4_method_3_code 102 = .ok (.goto (-31), 3) := q_tb t_Se_findStanding1 10 rfl
theorem d_Se_findStanding_105 : decode prog_4_method_3_code 105 = .ok (.aload_n 0, 1) := q_tb t_Se_findStanding1 11 rfl
theorem d_Se_findStanding_106 : decode prog_4_method_3_code 106 = .ok (.iconst 1, 1) := q_tb t_Se_findStanding1 12 rfl
theorem d_Se_findStanding_107 : decode prog_4_method_3_code 107 = .ok (.putfield 45, 3) := q_tb t_Se_findStanding1 13 rfl
theorem d_Se_findStanding_110 : decode prog_4_method_3_code 110 = .ok (.return_, 1) := q_tb t_Se_findStanding1 14 rfl
def T_Se_weigh0 : List (Nat × Instr × Nat) := [(0, .iconst 1, 1), (1, .istore_n 1, 1), (2, .iconst 4, 1), (3, .istore_n 2, 1), (4, .iload_n 2, 1), (5, .ifCond .lt 28, 3), (8, .aload_n 0, 1), (9, .getfield 38, 3), (12, .iload_n 2, 1), (13, .iload_n 1, 1), (14, .iastore, 1), (15, .iload_n 1, 1), (16, .aload_n 0, 1), (17, .getfield 41, 3), (20, .getfield 104, 3), (23, .iload_n 2, 1), (24, .iaload, 1), (25, .imul, 1), (26, .istore_n 1, 1), (27, .iinc 2 (-1), 3), (30, .goto (-26), 3), (33, .aload_n 0, 1), (34, .getfield 41, 3), (37, .getfield 107, 3), (40, .iconst 1, 1), (41, .isub, 1), (42, .istore_n 2, 1), (43, .iload_n 2, 1), (44, .ifCond .lt 31, 3), (47, .aload_n 0, 1), (48, .getfield 34, 3), (51, .iload_n 2, 1), (52, .iload_n 1, 1), (53, .iastore, 1), (54, .iload_n 1, 1), (55, .aload_n 0, 1), (56, .getfield 41, 3), (59, .getfield 110, 3), (62, .iload_n 2, 1), (63, .aaload, 1)]
set_option maxRecDepth 100000 in
theorem t_Se_weigh0 : ∀ q ∈ T_Se_weigh0, decode prog_4_method_6_code q.1 = .ok q.2 := by decide +kernel
theorem d_Se_weigh_0 : decode prog_4_method_6_code 0 = .ok (.iconst 1, 1) := q_tb t_Se_weigh0 0 rfl
theorem d_Se_weigh_1 : decode prog_4_method_6_code 1 = .ok (.istore_n 1, 1) := q_tb t_Se_weigh0 1 rfl
theorem d_Se_weigh_2 : decode prog_4_method_6_code 2 = .ok (.iconst 4, 1) := q_tb t_Se_weigh0 2 rfl
theorem d_Se_weigh_3 : decode prog_4_method_6_code 3 = .ok (.istore_n 2, 1) := q_tb t_Se_weigh0 3 rfl
theorem d_Se_weigh_4 : decode prog_4_method_6_code 4 = .ok (.iload_n 2, 1) := q_tb t_Se_weigh0 4 rfl
theorem d_Se_weigh_5 : decode prog_4_method_6_code 5 = .ok (.ifCond .lt 28, 3) := q_tb t_Se_weigh0 5 rfl
theorem d_Se_weigh_8 : decode prog_4_method_6_code 8 = .ok (.aload_n 0, 1) := q_tb t_Se_weigh0 6 rfl
theorem d_Se_weigh_9 : decode prog_4_method_6_code 9 = .ok (.getfield 38, 3) := q_tb t_Se_weigh0 7 rfl
theorem d_Se_weigh_12 : decode prog_4_method_6_code 12 = .ok (.iload_n 2, 1) := q_tb t_Se_weigh0 8 rfl
theorem d_Se_weigh_13 : decode prog_4_method_6_code 13 = .ok (.iload_n 1, 1) := q_tb t_Se_weigh0 9 rfl
theorem d_Se_weigh_14 : decode prog_4_method_6_code 14 = .ok (.iastore, 1) := q_tb t_Se_weigh0 10 rfl
theorem d_Se_weigh_15 : decode prog_4_method_6_code 15 = .ok (.iload_n 1, 1) := q_tb t_Se_weigh0 11 rfl
theorem d_Se_weigh_16 : decode prog_4_method_6_code 16 = .ok (.aload_n 0, 1) := q_tb t_Se_weigh0 12 rfl
theorem d_Se_weigh_17 : decode prog_4_method_6_code 17 = .ok (.getfield 41, 3) := q_tb t_Se_weigh0 13 rfl
theorem d_Se_weigh_20 : decode prog_4_method_6_code 20 = .ok (.getfield 104, 3) := q_tb t_Se_weigh0 14 rfl
theorem d_Se_weigh_23 : decode prog_4_method_6_code 23 = .ok (.iload_n 2, 1) := q_tb t_Se_weigh0 15 rfl
theorem d_Se_weigh_24 : decode prog_4_method_6_code 24 = .ok (.iaload, 1) := q_tb t_Se_weigh0 16 rfl
theorem d_Se_weigh_25 : decode prog_4_method_6_code 25 = .ok (.imul, 1) := q_tb t_Se_weigh0 17 rfl
theorem d_Se_weigh_26 : decode prog_4_method_6_code 26 = .ok (.istore_n 1, 1) := q_tb t_Se_weigh0 18 rfl
theorem d_Se_weigh_27 : decode prog_4_method_6_code 27 = .ok (.iinc 2 (-1), 3) := q_tb t_Se_weigh0 19 rfl
theorem d_Se_weigh_30 : decode prog_4_method_6_code 30 = .ok (.goto (-26), 3) := q_tb t_Se_weigh0 20 rfl
theorem d_Se_weigh_33 : decode prog_4_method_6_code 33 = .ok (.aload_n 0, 1) := q_tb t_Se_weigh0 21 rfl
theorem d_Se_weigh_34 : decode prog_4_method_6_code 34 = .ok (.getfield 41, 3) := q_tb t_Se_weigh0 22 rfl
theorem d_Se_weigh_37 : decode prog_4_method_6_code 37 = .ok (.getfield 107, 3) := q_tb t_Se_weigh0 23 rfl
theorem d_Se_weigh_40 : decode prog_4_method_6_code 40 = .ok (.iconst 1, 1) := q_tb t_Se_weigh0 24 rfl
theorem d_Se_weigh_41 : decode prog_4_method_6_code 41 = .ok (.isub, 1) := q_tb t_Se_weigh0 25 rfl
theorem d_Se_weigh_42 : decode prog_4_method_6_code 42 = .ok (.istore_n 2, 1) := q_tb t_Se_weigh0 26 rfl
theorem d_Se_weigh_43 : decode prog_4_method_6_code 43 = .ok (.iload_n 2, 1) := q_tb t_Se_weigh0 27 rfl
theorem d_Se_weigh_44 : decode prog_4_method_6_code 44 = .ok (.ifCond .lt 31, 3) := q_tb t_Se_weigh0 28 rfl
theorem d_Se_weigh_47 : decode prog_4_method_6_code 47 = .ok (.aload_n 0, 1) := q_tb t_Se_weigh0 29 rfl
theorem d_Se_weigh_48 : decode prog_4_method_6_code 48 = .ok (.getfield 34, 3) := q_tb t_Se_weigh0 30 rfl
theorem d_Se_weigh_51 : decode prog_4_method_6_code 51 = .ok (.iload_n 2, 1) := q_tb t_Se_weigh0 31 rfl
theorem d_Se_weigh_52 : decode prog_4_method_6_code 52 = .ok (.iload_n 1, 1) := q_tb t_Se_weigh0 32 rfl
theorem d_Se_weigh_53 : decode prog_4_method_6_code 53 = .ok (.iastore, 1) := q_tb t_Se_weigh0 33 rfl
theorem d_Se_weigh_54 : decode prog_4_method_6_code 54 = .ok (.iload_n 1, 1) := q_tb t_Se_weigh0 34 rfl
theorem d_Se_weigh_55 : decode prog_4_method_6_code 55 = .ok (.aload_n 0, 1) := q_tb t_Se_weigh0 35 rfl
theorem d_Se_weigh_56 : decode prog_4_method_6_code 56 = .ok (.getfield 41, 3) := q_tb t_Se_weigh0 36 rfl
theorem d_Se_weigh_59 : decode prog_4_method_6_code 59 = .ok (.getfield 110, 3) := q_tb t_Se_weigh0 37 rfl
theorem d_Se_weigh_62 : decode prog_4_method_6_code 62 = .ok (.iload_n 2, 1) := q_tb t_Se_weigh0 38 rfl
theorem d_Se_weigh_63 : decode prog_4_method_6_code 63 = .ok (.aaload, 1) := q_tb t_Se_weigh0 39 rfl
def T_Se_weigh1 : List (Nat × Instr × Nat) := [(64, .getfield 114, 3), (67, .imul, 1), (68, .istore_n 1, 1), (69, .iinc 2 (-1), 3), (72, .goto (-29), 3), (75, .return_, 1)]
set_option maxRecDepth 100000 in
theorem t_Se_weigh1 : ∀ q ∈ T_Se_weigh1, decode prog_4_method_6_code q.1 = .ok q.2 := by decide +kernel
theorem d_Se_weigh_64 : decode prog_4_method_6_code 64 = .ok (.getfield 114, 3) := q_tb t_Se_weigh1 0 rfl
theorem d_Se_weigh_67 : decode prog_4_method_6_code 67 = .ok (.imul, 1) := q_tb t_Se_weigh1 1 rfl
theorem d_Se_weigh_68 : decode prog_4_method_6_code 68 = .ok (.istore_n 1, 1) := q_tb t_Se_weigh1 2 rfl
theorem d_Se_weigh_69 : decode prog_4_method_6_code 69 = .ok (.iinc 2 (-1), 3) := q_tb t_Se_weigh1 3 rfl
theorem d_Se_weigh_72 : decode prog_4_method_6_code 72 = .ok (.goto (-29), 3) := q_tb t_Se_weigh1 4 rfl
theorem d_Se_weigh_75 : decode prog_4_method_6_code 75 = .ok (.return_, 1) := q_tb t_Se_weigh1 5 rfl
def T_Ss_empty : List (Nat × Instr × Nat) := [(0, .aload_n 0, 1), (1, .getfield 11, 3), (4, .lconst 0, 1), (5, .invokestatic 19, 3), (8, .aload_n 0, 1), (9, .sipush 469, 3), (12, .putfield 15, 3), (15, .return_, 1)]
set_option maxRecDepth 100000 in
theorem t_Ss_empty : ∀ q ∈ T_Ss_empty, decode prog_6_method_2_code q.1 = .ok q.2 := by decide +kernel
theorem d_Ss_empty_0 : decode prog_6_method_2_code 0 = .ok (.aload_n 0, 1) := q_tb t_Ss_empty 0 rfl
theorem d_Ss_empty_1 : decode prog_6_method_2_code 1 = .ok (.getfield 11, 3) := q_tb t_Ss_empty 1 rfl
theorem d_Ss_empty_4 : decode prog_6_method_2_code 4 = .ok (.lconst 0, 1) := q_tb t_Ss_empty 2 rfl
theorem d_Ss_empty_5 : decode prog_6_method_2_code 5 = .ok (.invokestatic 19, 3) := q_tb t_Ss_empty 3 rfl
theorem d_Ss_empty_8 : decode prog_6_method_2_code 8 = .ok (.aload_n 0, 1) := q_tb t_Ss_empty 4 rfl
theorem d_Ss_empty_9 : decode prog_6_method_2_code 9 = .ok (.sipush 469, 3) := q_tb t_Ss_empty 5 rfl
theorem d_Ss_empty_12 : decode prog_6_method_2_code 12 = .ok (.putfield 15, 3) := q_tb t_Ss_empty 6 rfl
theorem d_Ss_empty_15 : decode prog_6_method_2_code 15 = .ok (.return_, 1) := q_tb t_Ss_empty 7 rfl
def T_Wo_numberOf0 : List (Nat × Instr × Nat) := [(0, .iconst 0, 1), (1, .istore_n 2, 1), (2, .iconst 0, 1), (3, .istore_n 3, 1), (4, .iload_n 3, 1), (5, .aload_n 0, 1), (6, .getfield 35, 3), (9, .if_icmp .ge 28, 3), (12, .iload_n 2, 1), (13, .aload_n 0, 1), (14, .getfield 20, 3), (17, .iload_n 3, 1), (18, .aaload, 1), (19, .getfield 38, 3), (22, .imul, 1), (23, .aload_n 1, 1), (24, .getfield 47, 3), (27, .iload_n 3, 1), (28, .iaload, 1), (29, .iadd, 1), (30, .istore_n 2, 1), (31, .iinc 3 1, 3), (34, .goto (-30), 3), (37, .iconst 0, 1), (38, .istore_n 3, 1), (39, .iload_n 3, 1), (40, .iconst 5, 1), (41, .if_icmp .ge 25, 3), (44, .iload_n 2, 1), (45, .aload_n 0, 1), (46, .getfield 9, 3), (49, .iload_n 3, 1), (50, .iaload, 1), (51, .imul, 1), (52, .aload_n 1, 1), (53, .getfield 52, 3), (56, .iload_n 3, 1), (57, .iaload, 1), (58, .iadd, 1), (59, .istore_n 2, 1)]
set_option maxRecDepth 100000 in
theorem t_Wo_numberOf0 : ∀ q ∈ T_Wo_numberOf0, decode prog_9_method_11_code q.1 = .ok q.2 := by decide +kernel
theorem d_Wo_numberOf_0 : decode prog_9_method_11_code 0 = .ok (.iconst 0, 1) := q_tb t_Wo_numberOf0 0 rfl
theorem d_Wo_numberOf_1 : decode prog_9_method_11_code 1 = .ok (.istore_n 2, 1) := q_tb t_Wo_numberOf0 1 rfl
theorem d_Wo_numberOf_2 : decode prog_9_method_11_code 2 = .ok (.iconst 0, 1) := q_tb t_Wo_numberOf0 2 rfl
theorem d_Wo_numberOf_3 : decode prog_9_method_11_code 3 = .ok (.istore_n 3, 1) := q_tb t_Wo_numberOf0 3 rfl
theorem d_Wo_numberOf_4 : decode prog_9_method_11_code 4 = .ok (.iload_n 3, 1) := q_tb t_Wo_numberOf0 4 rfl
theorem d_Wo_numberOf_5 : decode prog_9_method_11_code 5 = .ok (.aload_n 0, 1) := q_tb t_Wo_numberOf0 5 rfl
theorem d_Wo_numberOf_6 : decode prog_9_method_11_code 6 = .ok (.getfield 35, 3) := q_tb t_Wo_numberOf0 6 rfl
theorem d_Wo_numberOf_9 : decode prog_9_method_11_code 9 = .ok (.if_icmp .ge 28, 3) := q_tb t_Wo_numberOf0 7 rfl
theorem d_Wo_numberOf_12 : decode prog_9_method_11_code 12 = .ok (.iload_n 2, 1) := q_tb t_Wo_numberOf0 8 rfl
theorem d_Wo_numberOf_13 : decode prog_9_method_11_code 13 = .ok (.aload_n 0, 1) := q_tb t_Wo_numberOf0 9 rfl
theorem d_Wo_numberOf_14 : decode prog_9_method_11_code 14 = .ok (.getfield 20, 3) := q_tb t_Wo_numberOf0 10 rfl
theorem d_Wo_numberOf_17 : decode prog_9_method_11_code 17 = .ok (.iload_n 3, 1) := q_tb t_Wo_numberOf0 11 rfl
theorem d_Wo_numberOf_18 : decode prog_9_method_11_code 18 = .ok (.aaload, 1) := q_tb t_Wo_numberOf0 12 rfl
theorem d_Wo_numberOf_19 : decode prog_9_method_11_code 19 = .ok (.getfield 38, 3) := q_tb t_Wo_numberOf0 13 rfl
theorem d_Wo_numberOf_22 : decode prog_9_method_11_code 22 = .ok (.imul, 1) := q_tb t_Wo_numberOf0 14 rfl
theorem d_Wo_numberOf_23 : decode prog_9_method_11_code 23 = .ok (.aload_n 1, 1) := q_tb t_Wo_numberOf0 15 rfl
theorem d_Wo_numberOf_24 : decode prog_9_method_11_code 24 = .ok (.getfield 47, 3) := q_tb t_Wo_numberOf0 16 rfl
theorem d_Wo_numberOf_27 : decode prog_9_method_11_code 27 = .ok (.iload_n 3, 1) := q_tb t_Wo_numberOf0 17 rfl
theorem d_Wo_numberOf_28 : decode prog_9_method_11_code 28 = .ok (.iaload, 1) := q_tb t_Wo_numberOf0 18 rfl
theorem d_Wo_numberOf_29 : decode prog_9_method_11_code 29 = .ok (.iadd, 1) := q_tb t_Wo_numberOf0 19 rfl
theorem d_Wo_numberOf_30 : decode prog_9_method_11_code 30 = .ok (.istore_n 2, 1) := q_tb t_Wo_numberOf0 20 rfl
theorem d_Wo_numberOf_31 : decode prog_9_method_11_code 31 = .ok (.iinc 3 1, 3) := q_tb t_Wo_numberOf0 21 rfl
theorem d_Wo_numberOf_34 : decode prog_9_method_11_code 34 = .ok (.goto (-30), 3) := q_tb t_Wo_numberOf0 22 rfl
theorem d_Wo_numberOf_37 : decode prog_9_method_11_code 37 = .ok (.iconst 0, 1) := q_tb t_Wo_numberOf0 23 rfl
theorem d_Wo_numberOf_38 : decode prog_9_method_11_code 38 = .ok (.istore_n 3, 1) := q_tb t_Wo_numberOf0 24 rfl
theorem d_Wo_numberOf_39 : decode prog_9_method_11_code 39 = .ok (.iload_n 3, 1) := q_tb t_Wo_numberOf0 25 rfl
theorem d_Wo_numberOf_40 : decode prog_9_method_11_code 40 = .ok (.iconst 5, 1) := q_tb t_Wo_numberOf0 26 rfl
theorem d_Wo_numberOf_41 : decode prog_9_method_11_code 41 = .ok (.if_icmp .ge 25, 3) := q_tb t_Wo_numberOf0 27 rfl
theorem d_Wo_numberOf_44 : decode prog_9_method_11_code 44 = .ok (.iload_n 2, 1) := q_tb t_Wo_numberOf0 28 rfl
theorem d_Wo_numberOf_45 : decode prog_9_method_11_code 45 = .ok (.aload_n 0, 1) := q_tb t_Wo_numberOf0 29 rfl
theorem d_Wo_numberOf_46 : decode prog_9_method_11_code 46 = .ok (.getfield 9, 3) := q_tb t_Wo_numberOf0 30 rfl
theorem d_Wo_numberOf_49 : decode prog_9_method_11_code 49 = .ok (.iload_n 3, 1) := q_tb t_Wo_numberOf0 31 rfl
theorem d_Wo_numberOf_50 : decode prog_9_method_11_code 50 = .ok (.iaload, 1) := q_tb t_Wo_numberOf0 32 rfl
theorem d_Wo_numberOf_51 : decode prog_9_method_11_code 51 = .ok (.imul, 1) := q_tb t_Wo_numberOf0 33 rfl
theorem d_Wo_numberOf_52 : decode prog_9_method_11_code 52 = .ok (.aload_n 1, 1) := q_tb t_Wo_numberOf0 34 rfl
theorem d_Wo_numberOf_53 : decode prog_9_method_11_code 53 = .ok (.getfield 52, 3) := q_tb t_Wo_numberOf0 35 rfl
theorem d_Wo_numberOf_56 : decode prog_9_method_11_code 56 = .ok (.iload_n 3, 1) := q_tb t_Wo_numberOf0 36 rfl
theorem d_Wo_numberOf_57 : decode prog_9_method_11_code 57 = .ok (.iaload, 1) := q_tb t_Wo_numberOf0 37 rfl
theorem d_Wo_numberOf_58 : decode prog_9_method_11_code 58 = .ok (.iadd, 1) := q_tb t_Wo_numberOf0 38 rfl
theorem d_Wo_numberOf_59 : decode prog_9_method_11_code 59 = .ok (.istore_n 2, 1) := q_tb t_Wo_numberOf0 39 rfl
def T_Wo_numberOf1 : List (Nat × Instr × Nat) := [(60, .iinc 3 1, 3), (63, .goto (-24), 3), (66, .iload_n 2, 1), (67, .ireturn, 1)]
set_option maxRecDepth 100000 in
theorem t_Wo_numberOf1 : ∀ q ∈ T_Wo_numberOf1, decode prog_9_method_11_code q.1 = .ok q.2 := by decide +kernel
theorem d_Wo_numberOf_60 : decode prog_9_method_11_code 60 = .ok (.iinc 3 1, 3) := q_tb t_Wo_numberOf1 0 rfl
theorem d_Wo_numberOf_63 : decode prog_9_method_11_code 63 = .ok (.goto (-24), 3) := q_tb t_Wo_numberOf1 1 rfl
theorem d_Wo_numberOf_66 : decode prog_9_method_11_code 66 = .ok (.iload_n 2, 1) := q_tb t_Wo_numberOf1 2 rfl
theorem d_Wo_numberOf_67 : decode prog_9_method_11_code 67 = .ok (.ireturn, 1) := q_tb t_Wo_numberOf1 3 rfl
def T_Se_reach : List (Nat × Instr × Nat) := [(0, .aload_n 0, 1), (1, .getfield 12, 3), (4, .iload_n 1, 1), (5, .invokevirtual 119, 3), (8, .ifCond .ne 19, 3), (11, .aload_n 0, 1), (12, .getfield 12, 3), (15, .iload_n 1, 1), (16, .invokevirtual 123, 3), (19, .aload_n 0, 1), (20, .getfield 24, 3), (23, .iload_n 1, 1), (24, .invokevirtual 123, 3), (27, .return_, 1)]
set_option maxRecDepth 100000 in
theorem t_Se_reach : ∀ q ∈ T_Se_reach, decode prog_4_method_7_code q.1 = .ok q.2 := by decide +kernel
theorem d_Se_reach_0 : decode prog_4_method_7_code 0 = .ok (.aload_n 0, 1) := q_tb t_Se_reach 0 rfl
theorem d_Se_reach_1 : decode prog_4_method_7_code 1 = .ok (.getfield 12, 3) := q_tb t_Se_reach 1 rfl
theorem d_Se_reach_4 : decode prog_4_method_7_code 4 = .ok (.iload_n 1, 1) := q_tb t_Se_reach 2 rfl
theorem d_Se_reach_5 : decode prog_4_method_7_code 5 = .ok (.invokevirtual 119, 3) := q_tb t_Se_reach 3 rfl
theorem d_Se_reach_8 : decode prog_4_method_7_code 8 = .ok (.ifCond .ne 19, 3) := q_tb t_Se_reach 4 rfl
theorem d_Se_reach_11 : decode prog_4_method_7_code 11 = .ok (.aload_n 0, 1) := q_tb t_Se_reach 5 rfl
theorem d_Se_reach_12 : decode prog_4_method_7_code 12 = .ok (.getfield 12, 3) := q_tb t_Se_reach 6 rfl
theorem d_Se_reach_15 : decode prog_4_method_7_code 15 = .ok (.iload_n 1, 1) := q_tb t_Se_reach 7 rfl
theorem d_Se_reach_16 : decode prog_4_method_7_code 16 = .ok (.invokevirtual 123, 3) := q_tb t_Se_reach 8 rfl
theorem d_Se_reach_19 : decode prog_4_method_7_code 19 = .ok (.aload_n 0, 1) := q_tb t_Se_reach 9 rfl
theorem d_Se_reach_20 : decode prog_4_method_7_code 20 = .ok (.getfield 24, 3) := q_tb t_Se_reach 10 rfl
theorem d_Se_reach_23 : decode prog_4_method_7_code 23 = .ok (.iload_n 1, 1) := q_tb t_Se_reach 11 rfl
theorem d_Se_reach_24 : decode prog_4_method_7_code 24 = .ok (.invokevirtual 123, 3) := q_tb t_Se_reach 12 rfl
theorem d_Se_reach_27 : decode prog_4_method_7_code 27 = .ok (.return_, 1) := q_tb t_Se_reach 13 rfl
def T_Ss_contains : List (Nat × Instr × Nat) := [(0, .iload_n 1, 1), (1, .ifCond .lt 35, 3), (4, .iload_n 1, 1), (5, .sipush 30000, 3), (8, .if_icmp .ge 28, 3), (11, .aload_n 0, 1), (12, .getfield 11, 3), (15, .iload_n 1, 1), (16, .bipush 64, 2), (18, .idiv, 1), (19, .laload, 1), (20, .iload_n 1, 1), (21, .bipush 64, 2), (23, .irem, 1), (24, .lushr, 1), (25, .lconst 1, 1), (26, .land, 1), (27, .lconst 0, 1), (28, .lcmp, 1), (29, .ifCond .eq 7, 3), (32, .iconst 1, 1), (33, .goto 4, 3), (36, .iconst 0, 1), (37, .ireturn, 1)]
set_option maxRecDepth 100000 in
theorem t_Ss_contains : ∀ q ∈ T_Ss_contains, decode prog_6_method_4_code q.1 = .ok q.2 := by decide +kernel
theorem d_Ss_contains_0 : decode prog_6_method_4_code 0 = .ok (.iload_n 1, 1) := q_tb t_Ss_contains 0 rfl
theorem d_Ss_contains_1 : decode prog_6_method_4_code 1 = .ok (.ifCond .lt 35, 3) := q_tb t_Ss_contains 1 rfl
theorem d_Ss_contains_4 : decode prog_6_method_4_code 4 = .ok (.iload_n 1, 1) := q_tb t_Ss_contains 2 rfl
theorem d_Ss_contains_5 : decode prog_6_method_4_code 5 = .ok (.sipush 30000, 3) := q_tb t_Ss_contains 3 rfl
theorem d_Ss_contains_8 : decode prog_6_method_4_code 8 = .ok (.if_icmp .ge 28, 3) := q_tb t_Ss_contains 4 rfl
theorem d_Ss_contains_11 : decode prog_6_method_4_code 11 = .ok (.aload_n 0, 1) := q_tb t_Ss_contains 5 rfl
theorem d_Ss_contains_12 : decode prog_6_method_4_code 12 = .ok (.getfield 11, 3) := q_tb t_Ss_contains 6 rfl
theorem d_Ss_contains_15 : decode prog_6_method_4_code 15 = .ok (.iload_n 1, 1) := q_tb t_Ss_contains 7 rfl
theorem d_Ss_contains_16 : decode prog_6_method_4_code 16 = .ok (.bipush 64, 2) := q_tb t_Ss_contains 8 rfl
theorem d_Ss_contains_18 : decode prog_6_method_4_code 18 = .ok (.idiv, 1) := q_tb t_Ss_contains 9 rfl
theorem d_Ss_contains_19 : decode prog_6_method_4_code 19 = .ok (.laload, 1) := q_tb t_Ss_contains 10 rfl
theorem d_Ss_contains_20 : decode prog_6_method_4_code 20 = .ok (.iload_n 1, 1) := q_tb t_Ss_contains 11 rfl
theorem d_Ss_contains_21 : decode prog_6_method_4_code 21 = .ok (.bipush 64, 2) := q_tb t_Ss_contains 12 rfl
theorem d_Ss_contains_23 : decode prog_6_method_4_code 23 = .ok (.irem, 1) := q_tb t_Ss_contains 13 rfl
theorem d_Ss_contains_24 : decode prog_6_method_4_code 24 = .ok (.lushr, 1) := q_tb t_Ss_contains 14 rfl
theorem d_Ss_contains_25 : decode prog_6_method_4_code 25 = .ok (.lconst 1, 1) := q_tb t_Ss_contains 15 rfl
theorem d_Ss_contains_26 : decode prog_6_method_4_code 26 = .ok (.land, 1) := q_tb t_Ss_contains 16 rfl
theorem d_Ss_contains_27 : decode prog_6_method_4_code 27 = .ok (.lconst 0, 1) := q_tb t_Ss_contains 17 rfl
theorem d_Ss_contains_28 : decode prog_6_method_4_code 28 = .ok (.lcmp, 1) := q_tb t_Ss_contains 18 rfl
theorem d_Ss_contains_29 : decode prog_6_method_4_code 29 = .ok (.ifCond .eq 7, 3) := q_tb t_Ss_contains 19 rfl
theorem d_Ss_contains_32 : decode prog_6_method_4_code 32 = .ok (.iconst 1, 1) := q_tb t_Ss_contains 20 rfl
theorem d_Ss_contains_33 : decode prog_6_method_4_code 33 = .ok (.goto 4, 3) := q_tb t_Ss_contains 21 rfl
theorem d_Ss_contains_36 : decode prog_6_method_4_code 36 = .ok (.iconst 0, 1) := q_tb t_Ss_contains 22 rfl
theorem d_Ss_contains_37 : decode prog_6_method_4_code 37 = .ok (.ireturn, 1) := q_tb t_Ss_contains 23 rfl
def T_Ss_add : List (Nat × Instr × Nat) := [(0, .iload_n 1, 1), (1, .ifCond .lt 10, 3), (4, .iload_n 1, 1), (5, .sipush 30000, 3), (8, .if_icmp .lt 4, 3), (11, .return_, 1), (12, .aload_n 0, 1), (13, .getfield 11, 3), (16, .iload_n 1, 1), (17, .bipush 64, 2), (19, .idiv, 1), (20, .dup2, 1), (21, .laload, 1), (22, .lconst 1, 1), (23, .iload_n 1, 1), (24, .bipush 64, 2), (26, .irem, 1), (27, .lshl, 1), (28, .lor, 1), (29, .lastore, 1), (30, .iload_n 1, 1), (31, .bipush 64, 2), (33, .idiv, 1), (34, .aload_n 0, 1), (35, .getfield 15, 3), (38, .if_icmp .ge 11, 3), (41, .aload_n 0, 1), (42, .iload_n 1, 1), (43, .bipush 64, 2), (45, .idiv, 1), (46, .putfield 15, 3), (49, .return_, 1)]
set_option maxRecDepth 100000 in
theorem t_Ss_add : ∀ q ∈ T_Ss_add, decode prog_6_method_5_code q.1 = .ok q.2 := by decide +kernel
theorem d_Ss_add_0 : decode prog_6_method_5_code 0 = .ok (.iload_n 1, 1) := q_tb t_Ss_add 0 rfl
theorem d_Ss_add_1 : decode prog_6_method_5_code 1 = .ok (.ifCond .lt 10, 3) := q_tb t_Ss_add 1 rfl
theorem d_Ss_add_4 : decode prog_6_method_5_code 4 = .ok (.iload_n 1, 1) := q_tb t_Ss_add 2 rfl
theorem d_Ss_add_5 : decode prog_6_method_5_code 5 = .ok (.sipush 30000, 3) := q_tb t_Ss_add 3 rfl
theorem d_Ss_add_8 : decode prog_6_method_5_code 8 = .ok (.if_icmp .lt 4, 3) := q_tb t_Ss_add 4 rfl
theorem d_Ss_add_11 : decode prog_6_method_5_code 11 = .ok (.return_, 1) := q_tb t_Ss_add 5 rfl
theorem d_Ss_add_12 : decode prog_6_method_5_code 12 = .ok (.aload_n 0, 1) := q_tb t_Ss_add 6 rfl
theorem d_Ss_add_13 : decode prog_6_method_5_code 13 = .ok (.getfield 11, 3) := q_tb t_Ss_add 7 rfl
theorem d_Ss_add_16 : decode prog_6_method_5_code 16 = .ok (.iload_n 1, 1) := q_tb t_Ss_add 8 rfl
theorem d_Ss_add_17 : decode prog_6_method_5_code 17 = .ok (.bipush 64, 2) := q_tb t_Ss_add 9 rfl
theorem d_Ss_add_19 : decode prog_6_method_5_code 19 = .ok (.idiv, 1) := q_tb t_Ss_add 10 rfl
theorem d_Ss_add_20 : decode prog_6_method_5_code 20 = .ok (.dup2, 1) := q_tb t_Ss_add 11 rfl
theorem d_Ss_add_21 : decode prog_6_method_5_code 21 = .ok (.laload, 1) := q_tb t_Ss_add 12 rfl
theorem d_Ss_add_22 : decode prog_6_method_5_code 22 = .ok (.lconst 1, 1) := q_tb t_Ss_add 13 rfl
theorem d_Ss_add_23 : decode prog_6_method_5_code 23 = .ok (.iload_n 1, 1) := q_tb t_Ss_add 14 rfl
theorem d_Ss_add_24 : decode prog_6_method_5_code 24 = .ok (.bipush 64, 2) := q_tb t_Ss_add 15 rfl
theorem d_Ss_add_26 : decode prog_6_method_5_code 26 = .ok (.irem, 1) := q_tb t_Ss_add 16 rfl
theorem d_Ss_add_27 : decode prog_6_method_5_code 27 = .ok (.lshl, 1) := q_tb t_Ss_add 17 rfl
theorem d_Ss_add_28 : decode prog_6_method_5_code 28 = .ok (.lor, 1) := q_tb t_Ss_add 18 rfl
theorem d_Ss_add_29 : decode prog_6_method_5_code 29 = .ok (.lastore, 1) := q_tb t_Ss_add 19 rfl
theorem d_Ss_add_30 : decode prog_6_method_5_code 30 = .ok (.iload_n 1, 1) := q_tb t_Ss_add 20 rfl
theorem d_Ss_add_31 : decode prog_6_method_5_code 31 = .ok (.bipush 64, 2) := q_tb t_Ss_add 21 rfl
theorem d_Ss_add_33 : decode prog_6_method_5_code 33 = .ok (.idiv, 1) := q_tb t_Ss_add 22 rfl
theorem d_Ss_add_34 : decode prog_6_method_5_code 34 = .ok (.aload_n 0, 1) := q_tb t_Ss_add 23 rfl
theorem d_Ss_add_35 : decode prog_6_method_5_code 35 = .ok (.getfield 15, 3) := q_tb t_Ss_add 24 rfl
theorem d_Ss_add_38 : decode prog_6_method_5_code 38 = .ok (.if_icmp .ge 11, 3) := q_tb t_Ss_add 25 rfl
theorem d_Ss_add_41 : decode prog_6_method_5_code 41 = .ok (.aload_n 0, 1) := q_tb t_Ss_add 26 rfl
theorem d_Ss_add_42 : decode prog_6_method_5_code 42 = .ok (.iload_n 1, 1) := q_tb t_Ss_add 27 rfl
theorem d_Ss_add_43 : decode prog_6_method_5_code 43 = .ok (.bipush 64, 2) := q_tb t_Ss_add 28 rfl
theorem d_Ss_add_45 : decode prog_6_method_5_code 45 = .ok (.idiv, 1) := q_tb t_Ss_add 29 rfl
theorem d_Ss_add_46 : decode prog_6_method_5_code 46 = .ok (.putfield 15, 3) := q_tb t_Ss_add 30 rfl
theorem d_Ss_add_49 : decode prog_6_method_5_code 49 = .ok (.return_, 1) := q_tb t_Ss_add 31 rfl
def T_Ss_takeLowest0 : List (Nat × Instr × Nat) := [(0, .aload_n 0, 1), (1, .getfield 15, 3), (4, .sipush 469, 3), (7, .if_icmp .ge 30, 3), (10, .aload_n 0, 1), (11, .getfield 11, 3), (14, .aload_n 0, 1), (15, .getfield 15, 3), (18, .laload, 1), (19, .lconst 0, 1), (20, .lcmp, 1), (21, .ifCond .ne 16, 3), (24, .aload_n 0, 1), (25, .dup, 1), (26, .getfield 15, 3), (29, .iconst 1, 1), (30, .iadd, 1), (31, .putfield 15, 3), (34, .goto (-34), 3), (37, .aload_n 0, 1), (38, .getfield 15, 3), (41, .sipush 469, 3), (44, .if_icmp .lt 5, 3), (47, .iconst (-1), 1), (48, .ireturn, 1), (49, .aload_n 0, 1), (50, .getfield 11, 3), (53, .aload_n 0, 1), (54, .getfield 15, 3), (57, .laload, 1), (58, .iconst 0, 1), (59, .invokestatic 31, 3), (62, .istore_n 1, 1), (63, .aload_n 0, 1), (64, .getfield 11, 3), (67, .aload_n 0, 1), (68, .getfield 15, 3), (71, .dup2, 1), (72, .laload, 1), (73, .aload_n 0, 1)]
set_option maxRecDepth 100000 in
theorem t_Ss_takeLowest0 : ∀ q ∈ T_Ss_takeLowest0, decode prog_6_method_6_code q.1 = .ok q.2 := by decide +kernel
theorem d_Ss_takeLowest_0 : decode prog_6_method_6_code 0 = .ok (.aload_n 0, 1) := q_tb t_Ss_takeLowest0 0 rfl
theorem d_Ss_takeLowest_1 : decode prog_6_method_6_code 1 = .ok (.getfield 15, 3) := q_tb t_Ss_takeLowest0 1 rfl
theorem d_Ss_takeLowest_4 : decode prog_6_method_6_code 4 = .ok (.sipush 469, 3) := q_tb t_Ss_takeLowest0 2 rfl
theorem d_Ss_takeLowest_7 : decode prog_6_method_6_code 7 = .ok (.if_icmp .ge 30, 3) := q_tb t_Ss_takeLowest0 3 rfl
theorem d_Ss_takeLowest_10 : decode prog_6_method_6_code 10 = .ok (.aload_n 0, 1) := q_tb t_Ss_takeLowest0 4 rfl
theorem d_Ss_takeLowest_11 : decode prog_6_method_6_code 11 = .ok (.getfield 11, 3) := q_tb t_Ss_takeLowest0 5 rfl
theorem d_Ss_takeLowest_14 : decode prog_6_method_6_code 14 = .ok (.aload_n 0, 1) := q_tb t_Ss_takeLowest0 6 rfl
theorem d_Ss_takeLowest_15 : decode prog_6_method_6_code 15 = .ok (.getfield 15, 3) := q_tb t_Ss_takeLowest0 7 rfl
theorem d_Ss_takeLowest_18 : decode prog_6_method_6_code 18 = .ok (.laload, 1) := q_tb t_Ss_takeLowest0 8 rfl
theorem d_Ss_takeLowest_19 : decode prog_6_method_6_code 19 = .ok (.lconst 0, 1) := q_tb t_Ss_takeLowest0 9 rfl
theorem d_Ss_takeLowest_20 : decode prog_6_method_6_code 20 = .ok (.lcmp, 1) := q_tb t_Ss_takeLowest0 10 rfl
theorem d_Ss_takeLowest_21 : decode prog_6_method_6_code 21 = .ok (.ifCond .ne 16, 3) := q_tb t_Ss_takeLowest0 11 rfl
theorem d_Ss_takeLowest_24 : decode prog_6_method_6_code 24 = .ok (.aload_n 0, 1) := q_tb t_Ss_takeLowest0 12 rfl
theorem d_Ss_takeLowest_25 : decode prog_6_method_6_code 25 = .ok (.dup, 1) := q_tb t_Ss_takeLowest0 13 rfl
theorem d_Ss_takeLowest_26 : decode prog_6_method_6_code 26 = .ok (.getfield 15, 3) := q_tb t_Ss_takeLowest0 14 rfl
theorem d_Ss_takeLowest_29 : decode prog_6_method_6_code 29 = .ok (.iconst 1, 1) := q_tb t_Ss_takeLowest0 15 rfl
theorem d_Ss_takeLowest_30 : decode prog_6_method_6_code 30 = .ok (.iadd, 1) := q_tb t_Ss_takeLowest0 16 rfl
theorem d_Ss_takeLowest_31 : decode prog_6_method_6_code 31 = .ok (.putfield 15, 3) := q_tb t_Ss_takeLowest0 17 rfl
theorem d_Ss_takeLowest_34 : decode prog_6_method_6_code 34 = .ok (.goto (-34), 3) := q_tb t_Ss_takeLowest0 18 rfl
theorem d_Ss_takeLowest_37 : decode prog_6_method_6_code 37 = .ok (.aload_n 0, 1) := q_tb t_Ss_takeLowest0 19 rfl
theorem d_Ss_takeLowest_38 : decode prog_6_method_6_code 38 = .ok (.getfield 15, 3) := q_tb t_Ss_takeLowest0 20 rfl
theorem d_Ss_takeLowest_41 : decode prog_6_method_6_code 41 = .ok (.sipush 469, 3) := q_tb t_Ss_takeLowest0 21 rfl
theorem d_Ss_takeLowest_44 : decode prog_6_method_6_code 44 = .ok (.if_icmp .lt 5, 3) := q_tb t_Ss_takeLowest0 22 rfl
theorem d_Ss_takeLowest_47 : decode prog_6_method_6_code 47 = .ok (.iconst (-1), 1) := q_tb t_Ss_takeLowest0 23 rfl
theorem d_Ss_takeLowest_48 : decode prog_6_method_6_code 48 = .ok (.ireturn, 1) := q_tb t_Ss_takeLowest0 24 rfl
theorem d_Ss_takeLowest_49 : decode prog_6_method_6_code 49 = .ok (.aload_n 0, 1) := q_tb t_Ss_takeLowest0 25 rfl
theorem d_Ss_takeLowest_50 : decode prog_6_method_6_code 50 = .ok (.getfield 11, 3) := q_tb t_Ss_takeLowest0 26 rfl
theorem d_Ss_takeLowest_53 : decode prog_6_method_6_code 53 = .ok (.aload_n 0, 1) := q_tb t_Ss_takeLowest0 27 rfl
theorem d_Ss_takeLowest_54 : decode prog_6_method_6_code 54 = .ok (.getfield 15, 3) := q_tb t_Ss_takeLowest0 28 rfl
theorem d_Ss_takeLowest_57 : decode prog_6_method_6_code 57 = .ok (.laload, 1) := q_tb t_Ss_takeLowest0 29 rfl
theorem d_Ss_takeLowest_58 : decode prog_6_method_6_code 58 = .ok (.iconst 0, 1) := q_tb t_Ss_takeLowest0 30 rfl
theorem d_Ss_takeLowest_59 : decode prog_6_method_6_code 59 = .ok (.invokestatic 31, 3) := q_tb t_Ss_takeLowest0 31 rfl
theorem d_Ss_takeLowest_62 : decode prog_6_method_6_code 62 = .ok (.istore_n 1, 1) := q_tb t_Ss_takeLowest0 32 rfl
theorem d_Ss_takeLowest_63 : decode prog_6_method_6_code 63 = .ok (.aload_n 0, 1) := q_tb t_Ss_takeLowest0 33 rfl
theorem d_Ss_takeLowest_64 : decode prog_6_method_6_code 64 = .ok (.getfield 11, 3) := q_tb t_Ss_takeLowest0 34 rfl
theorem d_Ss_takeLowest_67 : decode prog_6_method_6_code 67 = .ok (.aload_n 0, 1) := q_tb t_Ss_takeLowest0 35 rfl
theorem d_Ss_takeLowest_68 : decode prog_6_method_6_code 68 = .ok (.getfield 15, 3) := q_tb t_Ss_takeLowest0 36 rfl
theorem d_Ss_takeLowest_71 : decode prog_6_method_6_code 71 = .ok (.dup2, 1) := q_tb t_Ss_takeLowest0 37 rfl
theorem d_Ss_takeLowest_72 : decode prog_6_method_6_code 72 = .ok (.laload, 1) := q_tb t_Ss_takeLowest0 38 rfl
theorem d_Ss_takeLowest_73 : decode prog_6_method_6_code 73 = .ok (.aload_n 0, 1) := q_tb t_Ss_takeLowest0 39 rfl
def T_Ss_takeLowest1 : List (Nat × Instr × Nat) := [(74, .getfield 11, 3), (77, .aload_n 0, 1), (78, .getfield 15, 3), (81, .laload, 1), (82, .lconst 1, 1), (83, .lsub, 1), (84, .land, 1), (85, .lastore, 1), (86, .aload_n 0, 1), (87, .getfield 15, 3), (90, .bipush 64, 2), (92, .imul, 1), (93, .iload_n 1, 1), (94, .iadd, 1), (95, .ireturn, 1)]
set_option maxRecDepth 100000 in
theorem t_Ss_takeLowest1 : ∀ q ∈ T_Ss_takeLowest1, decode prog_6_method_6_code q.1 = .ok q.2 := by decide +kernel
theorem d_Ss_takeLowest_74 : decode prog_6_method_6_code 74 = .ok (.getfield 11, 3) := q_tb t_Ss_takeLowest1 0 rfl
theorem d_Ss_takeLowest_77 : decode prog_6_method_6_code 77 = .ok (.aload_n 0, 1) := q_tb t_Ss_takeLowest1 1 rfl
theorem d_Ss_takeLowest_78 : decode prog_6_method_6_code 78 = .ok (.getfield 15, 3) := q_tb t_Ss_takeLowest1 2 rfl
theorem d_Ss_takeLowest_81 : decode prog_6_method_6_code 81 = .ok (.laload, 1) := q_tb t_Ss_takeLowest1 3 rfl
theorem d_Ss_takeLowest_82 : decode prog_6_method_6_code 82 = .ok (.lconst 1, 1) := q_tb t_Ss_takeLowest1 4 rfl
theorem d_Ss_takeLowest_83 : decode prog_6_method_6_code 83 = .ok (.lsub, 1) := q_tb t_Ss_takeLowest1 5 rfl
theorem d_Ss_takeLowest_84 : decode prog_6_method_6_code 84 = .ok (.land, 1) := q_tb t_Ss_takeLowest1 6 rfl
theorem d_Ss_takeLowest_85 : decode prog_6_method_6_code 85 = .ok (.lastore, 1) := q_tb t_Ss_takeLowest1 7 rfl
theorem d_Ss_takeLowest_86 : decode prog_6_method_6_code 86 = .ok (.aload_n 0, 1) := q_tb t_Ss_takeLowest1 8 rfl
theorem d_Ss_takeLowest_87 : decode prog_6_method_6_code 87 = .ok (.getfield 15, 3) := q_tb t_Ss_takeLowest1 9 rfl
theorem d_Ss_takeLowest_90 : decode prog_6_method_6_code 90 = .ok (.bipush 64, 2) := q_tb t_Ss_takeLowest1 10 rfl
theorem d_Ss_takeLowest_92 : decode prog_6_method_6_code 92 = .ok (.imul, 1) := q_tb t_Ss_takeLowest1 11 rfl
theorem d_Ss_takeLowest_93 : decode prog_6_method_6_code 93 = .ok (.iload_n 1, 1) := q_tb t_Ss_takeLowest1 12 rfl
theorem d_Ss_takeLowest_94 : decode prog_6_method_6_code 94 = .ok (.iadd, 1) := q_tb t_Ss_takeLowest1 13 rfl
theorem d_Ss_takeLowest_95 : decode prog_6_method_6_code 95 = .ok (.ireturn, 1) := q_tb t_Ss_takeLowest1 14 rfl
def T_Se_lookAhead0 : List (Nat × Instr × Nat) := [(0, .aload_n 0, 1), (1, .getfield 41, 3), (4, .iload_n 1, 1), (5, .aload_n 0, 1), (6, .getfield 30, 3), (9, .invokevirtual 100, 3), (12, .iconst 1, 1), (13, .istore_n 2, 1), (14, .iconst 0, 1), (15, .istore_n 3, 1), (16, .iload_n 3, 1), (17, .aload_n 0, 1), (18, .getfield 41, 3), (21, .getfield 107, 3), (24, .if_icmp .ge 38, 3), (27, .aload_n 0, 1), (28, .getfield 41, 3), (31, .aload_n 0, 1), (32, .getfield 30, 3), (35, .iload_n 3, 1), (36, .invokevirtual 126, 3), (39, .istore 4, 2), (41, .iload 4, 2), (43, .ifCond .eq 13, 3), (46, .iconst 0, 1), (47, .istore_n 2, 1), (48, .aload_n 0, 1), (49, .iload_n 1, 1), (50, .iload_n 3, 1), (51, .iload 4, 2), (53, .invokevirtual 130, 3), (56, .iinc 3 1, 3), (59, .goto (-43), 3), (62, .iload_n 2, 1), (63, .ifCond .eq 49, 3), (66, .aload_n 0, 1), (67, .getfield 18, 3), (70, .iload_n 1, 1), (71, .invokevirtual 123, 3), (74, .aload_n 0, 1)]
set_option maxRecDepth 100000 in
theorem t_Se_lookAhead0 : ∀ q ∈ T_Se_lookAhead0, decode prog_4_method_8_code q.1 = .ok q.2 := by decide +kernel
theorem d_Se_lookAhead_0 : decode prog_4_method_8_code 0 = .ok (.aload_n 0, 1) := q_tb t_Se_lookAhead0 0 rfl
theorem d_Se_lookAhead_1 : decode prog_4_method_8_code 1 = .ok (.getfield 41, 3) := q_tb t_Se_lookAhead0 1 rfl
theorem d_Se_lookAhead_4 : decode prog_4_method_8_code 4 = .ok (.iload_n 1, 1) := q_tb t_Se_lookAhead0 2 rfl
theorem d_Se_lookAhead_5 : decode prog_4_method_8_code 5 = .ok (.aload_n 0, 1) := q_tb t_Se_lookAhead0 3 rfl
theorem d_Se_lookAhead_6 : decode prog_4_method_8_code 6 = .ok (.getfield 30, 3) := q_tb t_Se_lookAhead0 4 rfl
theorem d_Se_lookAhead_9 : decode prog_4_method_8_code 9 = .ok (.invokevirtual 100, 3) := q_tb t_Se_lookAhead0 5 rfl
theorem d_Se_lookAhead_12 : decode prog_4_method_8_code 12 = .ok (.iconst 1, 1) := q_tb t_Se_lookAhead0 6 rfl
theorem d_Se_lookAhead_13 : decode prog_4_method_8_code 13 = .ok (.istore_n 2, 1) := q_tb t_Se_lookAhead0 7 rfl
theorem d_Se_lookAhead_14 : decode prog_4_method_8_code 14 = .ok (.iconst 0, 1) := q_tb t_Se_lookAhead0 8 rfl
theorem d_Se_lookAhead_15 : decode prog_4_method_8_code 15 = .ok (.istore_n 3, 1) := q_tb t_Se_lookAhead0 9 rfl
theorem d_Se_lookAhead_16 : decode prog_4_method_8_code 16 = .ok (.iload_n 3, 1) := q_tb t_Se_lookAhead0 10 rfl
theorem d_Se_lookAhead_17 : decode prog_4_method_8_code 17 = .ok (.aload_n 0, 1) := q_tb t_Se_lookAhead0 11 rfl
theorem d_Se_lookAhead_18 : decode prog_4_method_8_code 18 = .ok (.getfield 41, 3) := q_tb t_Se_lookAhead0 12 rfl
theorem d_Se_lookAhead_21 : decode prog_4_method_8_code 21 = .ok (.getfield 107, 3) := q_tb t_Se_lookAhead0 13 rfl
theorem d_Se_lookAhead_24 : decode prog_4_method_8_code 24 = .ok (.if_icmp .ge 38, 3) := q_tb t_Se_lookAhead0 14 rfl
theorem d_Se_lookAhead_27 : decode prog_4_method_8_code 27 = .ok (.aload_n 0, 1) := q_tb t_Se_lookAhead0 15 rfl
theorem d_Se_lookAhead_28 : decode prog_4_method_8_code 28 = .ok (.getfield 41, 3) := q_tb t_Se_lookAhead0 16 rfl
theorem d_Se_lookAhead_31 : decode prog_4_method_8_code 31 = .ok (.aload_n 0, 1) := q_tb t_Se_lookAhead0 17 rfl
theorem d_Se_lookAhead_32 : decode prog_4_method_8_code 32 = .ok (.getfield 30, 3) := q_tb t_Se_lookAhead0 18 rfl
theorem d_Se_lookAhead_35 : decode prog_4_method_8_code 35 = .ok (.iload_n 3, 1) := q_tb t_Se_lookAhead0 19 rfl
theorem d_Se_lookAhead_36 : decode prog_4_method_8_code 36 = .ok (.invokevirtual 126, 3) := q_tb t_Se_lookAhead0 20 rfl
theorem d_Se_lookAhead_39 : decode prog_4_method_8_code 39 = .ok (.istore 4, 2) := q_tb t_Se_lookAhead0 21 rfl
theorem d_Se_lookAhead_41 : decode prog_4_method_8_code 41 = .ok (.iload 4, 2) := q_tb t_Se_lookAhead0 22 rfl
theorem d_Se_lookAhead_43 : decode prog_4_method_8_code 43 = .ok (.ifCond .eq 13, 3) := q_tb t_Se_lookAhead0 23 rfl
theorem d_Se_lookAhead_46 : decode prog_4_method_8_code 46 = .ok (.iconst 0, 1) := q_tb t_Se_lookAhead0 24 rfl
theorem d_Se_lookAhead_47 : decode prog_4_method_8_code 47 = .ok (.istore_n 2, 1) := q_tb t_Se_lookAhead0 25 rfl
theorem d_Se_lookAhead_48 : decode prog_4_method_8_code 48 = .ok (.aload_n 0, 1) := q_tb t_Se_lookAhead0 26 rfl
theorem d_Se_lookAhead_49 : decode prog_4_method_8_code 49 = .ok (.iload_n 1, 1) := q_tb t_Se_lookAhead0 27 rfl
theorem d_Se_lookAhead_50 : decode prog_4_method_8_code 50 = .ok (.iload_n 3, 1) := q_tb t_Se_lookAhead0 28 rfl
theorem d_Se_lookAhead_51 : decode prog_4_method_8_code 51 = .ok (.iload 4, 2) := q_tb t_Se_lookAhead0 29 rfl
theorem d_Se_lookAhead_53 : decode prog_4_method_8_code 53 = .ok (.invokevirtual 130, 3) := q_tb t_Se_lookAhead0 30 rfl
theorem d_Se_lookAhead_56 : decode prog_4_method_8_code 56 = .ok (.iinc 3 1, 3) := q_tb t_Se_lookAhead0 31 rfl
theorem d_Se_lookAhead_59 : decode prog_4_method_8_code 59 = .ok (.goto (-43), 3) := q_tb t_Se_lookAhead0 32 rfl
theorem d_Se_lookAhead_62 : decode prog_4_method_8_code 62 = .ok (.iload_n 2, 1) := q_tb t_Se_lookAhead0 33 rfl
theorem d_Se_lookAhead_63 : decode prog_4_method_8_code 63 = .ok (.ifCond .eq 49, 3) := q_tb t_Se_lookAhead0 34 rfl
theorem d_Se_lookAhead_66 : decode prog_4_method_8_code 66 = .ok (.aload_n 0, 1) := q_tb t_Se_lookAhead0 35 rfl
theorem d_Se_lookAhead_67 : decode prog_4_method_8_code 67 = .ok (.getfield 18, 3) := q_tb t_Se_lookAhead0 36 rfl
theorem d_Se_lookAhead_70 : decode prog_4_method_8_code 70 = .ok (.iload_n 1, 1) := q_tb t_Se_lookAhead0 37 rfl
theorem d_Se_lookAhead_71 : decode prog_4_method_8_code 71 = .ok (.invokevirtual 123, 3) := q_tb t_Se_lookAhead0 38 rfl
theorem d_Se_lookAhead_74 : decode prog_4_method_8_code 74 = .ok (.aload_n 0, 1) := q_tb t_Se_lookAhead0 39 rfl
def T_Se_lookAhead1 : List (Nat × Instr × Nat) := [(75, .dup, 1), (76, .getfield 58, 3), (79, .iconst 1, 1), (80, .iadd, 1), (81, .putfield 58, 3), (84, .aload_n 0, 1), (85, .dup, 1), (86, .getfield 62, 3), (89, .aload_n 0, 1), (90, .getfield 41, 3), (93, .aload_n 0, 1), (94, .getfield 30, 3), (97, .invokevirtual 134, 3), (100, .ifCond .eq 7, 3), (103, .iconst 1, 1), (104, .goto 4, 3), (107, .iconst 0, 1), (108, .iadd, 1), (109, .putfield 62, 3), (112, .return_, 1)]
set_option maxRecDepth 100000 in
theorem t_Se_lookAhead1 : ∀ q ∈ T_Se_lookAhead1, decode prog_4_method_8_code q.1 = .ok q.2 := by decide +kernel
theorem d_Se_lookAhead_75 : decode prog_4_method_8_code 75 = .ok (.dup, 1) := q_tb t_Se_lookAhead1 0 rfl
theorem d_Se_lookAhead_76 : decode prog_4_method_8_code 76 = .ok (.getfield 58, 3) := q_tb t_Se_lookAhead1 1 rfl
theorem d_Se_lookAhead_79 : decode prog_4_method_8_code 79 = .ok (.iconst 1, 1) := q_tb t_Se_lookAhead1 2 rfl
theorem d_Se_lookAhead_80 : decode prog_4_method_8_code 80 = .ok (.iadd, 1) := q_tb t_Se_lookAhead1 3 rfl
theorem d_Se_lookAhead_81 : decode prog_4_method_8_code 81 = .ok (.putfield 58, 3) := q_tb t_Se_lookAhead1 4 rfl
theorem d_Se_lookAhead_84 : decode prog_4_method_8_code 84 = .ok (.aload_n 0, 1) := q_tb t_Se_lookAhead1 5 rfl
theorem d_Se_lookAhead_85 : decode prog_4_method_8_code 85 = .ok (.dup, 1) := q_tb t_Se_lookAhead1 6 rfl
theorem d_Se_lookAhead_86 : decode prog_4_method_8_code 86 = .ok (.getfield 62, 3) := q_tb t_Se_lookAhead1 7 rfl
theorem d_Se_lookAhead_89 : decode prog_4_method_8_code 89 = .ok (.aload_n 0, 1) := q_tb t_Se_lookAhead1 8 rfl
theorem d_Se_lookAhead_90 : decode prog_4_method_8_code 90 = .ok (.getfield 41, 3) := q_tb t_Se_lookAhead1 9 rfl
theorem d_Se_lookAhead_93 : decode prog_4_method_8_code 93 = .ok (.aload_n 0, 1) := q_tb t_Se_lookAhead1 10 rfl
theorem d_Se_lookAhead_94 : decode prog_4_method_8_code 94 = .ok (.getfield 30, 3) := q_tb t_Se_lookAhead1 11 rfl
theorem d_Se_lookAhead_97 : decode prog_4_method_8_code 97 = .ok (.invokevirtual 134, 3) := q_tb t_Se_lookAhead1 12 rfl
theorem d_Se_lookAhead_100 : decode prog_4_method_8_code 100 = .ok (.ifCond .eq 7, 3) := q_tb t_Se_lookAhead1 13 rfl
theorem d_Se_lookAhead_103 : decode prog_4_method_8_code 103 = .ok (.iconst 1, 1) := q_tb t_Se_lookAhead1 14 rfl
theorem d_Se_lookAhead_104 : decode prog_4_method_8_code 104 = .ok (.goto 4, 3) := q_tb t_Se_lookAhead1 15 rfl
theorem d_Se_lookAhead_107 : decode prog_4_method_8_code 107 = .ok (.iconst 0, 1) := q_tb t_Se_lookAhead1 16 rfl
theorem d_Se_lookAhead_108 : decode prog_4_method_8_code 108 = .ok (.iadd, 1) := q_tb t_Se_lookAhead1 17 rfl
theorem d_Se_lookAhead_109 : decode prog_4_method_8_code 109 = .ok (.putfield 62, 3) := q_tb t_Se_lookAhead1 18 rfl
theorem d_Se_lookAhead_112 : decode prog_4_method_8_code 112 = .ok (.return_, 1) := q_tb t_Se_lookAhead1 19 rfl
def T_Wo_putNumbered0 : List (Nat × Instr × Nat) := [(0, .iload_n 1, 1), (1, .istore_n 3, 1), (2, .iconst 4, 1), (3, .istore 4, 2), (5, .iload 4, 2), (7, .ifCond .lt 38, 3), (10, .iconst 1, 1), (11, .aload_n 0, 1), (12, .getfield 9, 3), (15, .iload 4, 2), (17, .iaload, 1), (18, .invokestatic 72, 3), (21, .istore 5, 2), (23, .aload_n 2, 1), (24, .getfield 52, 3), (27, .iload 4, 2), (29, .iload_n 3, 1), (30, .iload 5, 2), (32, .irem, 1), (33, .iastore, 1), (34, .iload_n 3, 1), (35, .iload 5, 2), (37, .idiv, 1), (38, .istore_n 3, 1), (39, .iinc 4 (-1), 3), (42, .goto (-37), 3), (45, .aload_n 0, 1), (46, .getfield 35, 3), (49, .iconst 1, 1), (50, .isub, 1), (51, .istore 4, 2), (53, .iload 4, 2), (55, .ifCond .lt 41, 3), (58, .iconst 1, 1), (59, .aload_n 0, 1), (60, .getfield 20, 3), (63, .iload 4, 2), (65, .aaload, 1), (66, .getfield 38, 3), (69, .invokestatic 72, 3)]
set_option maxRecDepth 100000 in
theorem t_Wo_putNumbered0 : ∀ q ∈ T_Wo_putNumbered0, decode prog_9_method_12_code q.1 = .ok q.2 := by decide +kernel
theorem d_Wo_putNumbered_0 : decode prog_9_method_12_code 0 = .ok (.iload_n 1, 1) := q_tb t_Wo_putNumbered0 0 rfl
theorem d_Wo_putNumbered_1 : decode prog_9_method_12_code 1 = .ok (.istore_n 3, 1) := q_tb t_Wo_putNumbered0 1 rfl
theorem d_Wo_putNumbered_2 : decode prog_9_method_12_code 2 = .ok (.iconst 4, 1) := q_tb t_Wo_putNumbered0 2 rfl
theorem d_Wo_putNumbered_3 : decode prog_9_method_12_code 3 = .ok (.istore 4, 2) := q_tb t_Wo_putNumbered0 3 rfl
theorem d_Wo_putNumbered_5 : decode prog_9_method_12_code 5 = .ok (.iload 4, 2) := q_tb t_Wo_putNumbered0 4 rfl
theorem d_Wo_putNumbered_7 : decode prog_9_method_12_code 7 = .ok (.ifCond .lt 38, 3) := q_tb t_Wo_putNumbered0 5 rfl
theorem d_Wo_putNumbered_10 : decode prog_9_method_12_code 10 = .ok (.iconst 1, 1) := q_tb t_Wo_putNumbered0 6 rfl
theorem d_Wo_putNumbered_11 : decode prog_9_method_12_code 11 = .ok (.aload_n 0, 1) := q_tb t_Wo_putNumbered0 7 rfl
theorem d_Wo_putNumbered_12 : decode prog_9_method_12_code 12 = .ok (.getfield 9, 3) := q_tb t_Wo_putNumbered0 8 rfl
theorem d_Wo_putNumbered_15 : decode prog_9_method_12_code 15 = .ok (.iload 4, 2) := q_tb t_Wo_putNumbered0 9 rfl
theorem d_Wo_putNumbered_17 : decode prog_9_method_12_code 17 = .ok (.iaload, 1) := q_tb t_Wo_putNumbered0 10 rfl
theorem d_Wo_putNumbered_18 : decode prog_9_method_12_code 18 = .ok (.invokestatic 72, 3) := q_tb t_Wo_putNumbered0 11 rfl
theorem d_Wo_putNumbered_21 : decode prog_9_method_12_code 21 = .ok (.istore 5, 2) := q_tb t_Wo_putNumbered0 12 rfl
theorem d_Wo_putNumbered_23 : decode prog_9_method_12_code 23 = .ok (.aload_n 2, 1) := q_tb t_Wo_putNumbered0 13 rfl
theorem d_Wo_putNumbered_24 : decode prog_9_method_12_code 24 = .ok (.getfield 52, 3) := q_tb t_Wo_putNumbered0 14 rfl
theorem d_Wo_putNumbered_27 : decode prog_9_method_12_code 27 = .ok (.iload 4, 2) := q_tb t_Wo_putNumbered0 15 rfl
theorem d_Wo_putNumbered_29 : decode prog_9_method_12_code 29 = .ok (.iload_n 3, 1) := q_tb t_Wo_putNumbered0 16 rfl
theorem d_Wo_putNumbered_30 : decode prog_9_method_12_code 30 = .ok (.iload 5, 2) := q_tb t_Wo_putNumbered0 17 rfl
theorem d_Wo_putNumbered_32 : decode prog_9_method_12_code 32 = .ok (.irem, 1) := q_tb t_Wo_putNumbered0 18 rfl
theorem d_Wo_putNumbered_33 : decode prog_9_method_12_code 33 = .ok (.iastore, 1) := q_tb t_Wo_putNumbered0 19 rfl
theorem d_Wo_putNumbered_34 : decode prog_9_method_12_code 34 = .ok (.iload_n 3, 1) := q_tb t_Wo_putNumbered0 20 rfl
theorem d_Wo_putNumbered_35 : decode prog_9_method_12_code 35 = .ok (.iload 5, 2) := q_tb t_Wo_putNumbered0 21 rfl
theorem d_Wo_putNumbered_37 : decode prog_9_method_12_code 37 = .ok (.idiv, 1) := q_tb t_Wo_putNumbered0 22 rfl
theorem d_Wo_putNumbered_38 : decode prog_9_method_12_code 38 = .ok (.istore_n 3, 1) := q_tb t_Wo_putNumbered0 23 rfl
theorem d_Wo_putNumbered_39 : decode prog_9_method_12_code 39 = .ok (.iinc 4 (-1), 3) := q_tb t_Wo_putNumbered0 24 rfl
theorem d_Wo_putNumbered_42 : decode prog_9_method_12_code 42 = .ok (.goto (-37), 3) := q_tb t_Wo_putNumbered0 25 rfl
theorem d_Wo_putNumbered_45 : decode prog_9_method_12_code 45 = .ok (.aload_n 0, 1) := q_tb t_Wo_putNumbered0 26 rfl
theorem d_Wo_putNumbered_46 : decode prog_9_method_12_code 46 = .ok (.getfield 35, 3) := q_tb t_Wo_putNumbered0 27 rfl
theorem d_Wo_putNumbered_49 : decode prog_9_method_12_code 49 = .ok (.iconst 1, 1) := q_tb t_Wo_putNumbered0 28 rfl
theorem d_Wo_putNumbered_50 : decode prog_9_method_12_code 50 = .ok (.isub, 1) := q_tb t_Wo_putNumbered0 29 rfl
theorem d_Wo_putNumbered_51 : decode prog_9_method_12_code 51 = .ok (.istore 4, 2) := q_tb t_Wo_putNumbered0 30 rfl
theorem d_Wo_putNumbered_53 : decode prog_9_method_12_code 53 = .ok (.iload 4, 2) := q_tb t_Wo_putNumbered0 31 rfl
theorem d_Wo_putNumbered_55 : decode prog_9_method_12_code 55 = .ok (.ifCond .lt 41, 3) := q_tb t_Wo_putNumbered0 32 rfl
theorem d_Wo_putNumbered_58 : decode prog_9_method_12_code 58 = .ok (.iconst 1, 1) := q_tb t_Wo_putNumbered0 33 rfl
theorem d_Wo_putNumbered_59 : decode prog_9_method_12_code 59 = .ok (.aload_n 0, 1) := q_tb t_Wo_putNumbered0 34 rfl
theorem d_Wo_putNumbered_60 : decode prog_9_method_12_code 60 = .ok (.getfield 20, 3) := q_tb t_Wo_putNumbered0 35 rfl
theorem d_Wo_putNumbered_63 : decode prog_9_method_12_code 63 = .ok (.iload 4, 2) := q_tb t_Wo_putNumbered0 36 rfl
theorem d_Wo_putNumbered_65 : decode prog_9_method_12_code 65 = .ok (.aaload, 1) := q_tb t_Wo_putNumbered0 37 rfl
theorem d_Wo_putNumbered_66 : decode prog_9_method_12_code 66 = .ok (.getfield 38, 3) := q_tb t_Wo_putNumbered0 38 rfl
theorem d_Wo_putNumbered_69 : decode prog_9_method_12_code 69 = .ok (.invokestatic 72, 3) := q_tb t_Wo_putNumbered0 39 rfl
def T_Wo_putNumbered1 : List (Nat × Instr × Nat) := [(72, .istore 5, 2), (74, .aload_n 2, 1), (75, .getfield 47, 3), (78, .iload 4, 2), (80, .iload_n 3, 1), (81, .iload 5, 2), (83, .irem, 1), (84, .iastore, 1), (85, .iload_n 3, 1), (86, .iload 5, 2), (88, .idiv, 1), (89, .istore_n 3, 1), (90, .iinc 4 (-1), 3), (93, .goto (-40), 3), (96, .return_, 1)]
set_option maxRecDepth 100000 in
theorem t_Wo_putNumbered1 : ∀ q ∈ T_Wo_putNumbered1, decode prog_9_method_12_code q.1 = .ok q.2 := by decide +kernel
theorem d_Wo_putNumbered_72 : decode prog_9_method_12_code 72 = .ok (.istore 5, 2) := q_tb t_Wo_putNumbered1 0 rfl
theorem d_Wo_putNumbered_74 : decode prog_9_method_12_code 74 = .ok (.aload_n 2, 1) := q_tb t_Wo_putNumbered1 1 rfl
theorem d_Wo_putNumbered_75 : decode prog_9_method_12_code 75 = .ok (.getfield 47, 3) := q_tb t_Wo_putNumbered1 2 rfl
theorem d_Wo_putNumbered_78 : decode prog_9_method_12_code 78 = .ok (.iload 4, 2) := q_tb t_Wo_putNumbered1 3 rfl
theorem d_Wo_putNumbered_80 : decode prog_9_method_12_code 80 = .ok (.iload_n 3, 1) := q_tb t_Wo_putNumbered1 4 rfl
theorem d_Wo_putNumbered_81 : decode prog_9_method_12_code 81 = .ok (.iload 5, 2) := q_tb t_Wo_putNumbered1 5 rfl
theorem d_Wo_putNumbered_83 : decode prog_9_method_12_code 83 = .ok (.irem, 1) := q_tb t_Wo_putNumbered1 6 rfl
theorem d_Wo_putNumbered_84 : decode prog_9_method_12_code 84 = .ok (.iastore, 1) := q_tb t_Wo_putNumbered1 7 rfl
theorem d_Wo_putNumbered_85 : decode prog_9_method_12_code 85 = .ok (.iload_n 3, 1) := q_tb t_Wo_putNumbered1 8 rfl
theorem d_Wo_putNumbered_86 : decode prog_9_method_12_code 86 = .ok (.iload 5, 2) := q_tb t_Wo_putNumbered1 9 rfl
theorem d_Wo_putNumbered_88 : decode prog_9_method_12_code 88 = .ok (.idiv, 1) := q_tb t_Wo_putNumbered1 10 rfl
theorem d_Wo_putNumbered_89 : decode prog_9_method_12_code 89 = .ok (.istore_n 3, 1) := q_tb t_Wo_putNumbered1 11 rfl
theorem d_Wo_putNumbered_90 : decode prog_9_method_12_code 90 = .ok (.iinc 4 (-1), 3) := q_tb t_Wo_putNumbered1 12 rfl
theorem d_Wo_putNumbered_93 : decode prog_9_method_12_code 93 = .ok (.goto (-40), 3) := q_tb t_Wo_putNumbered1 13 rfl
theorem d_Wo_putNumbered_96 : decode prog_9_method_12_code 96 = .ok (.return_, 1) := q_tb t_Wo_putNumbered1 14 rfl
def T_Wo_openPlaces0 : List (Nat × Instr × Nat) := [(0, .aload_n 0, 1), (1, .getfield 20, 3), (4, .iload_n 2, 1), (5, .aaload, 1), (6, .astore_n 3, 1), (7, .aload_n 3, 1), (8, .getfield 55, 3), (11, .aload_n 1, 1), (12, .getfield 47, 3), (15, .iload_n 2, 1), (16, .iaload, 1), (17, .iaload, 1), (18, .istore 4, 2), (20, .iconst 0, 1), (21, .istore 5, 2), (23, .iconst 1, 1), (24, .istore 6, 2), (26, .iload 6, 2), (28, .aload_n 3, 1), (29, .getfield 38, 3), (32, .if_icmp .ge 40, 3), (35, .iload 4, 2), (37, .iload 6, 2), (39, .ishr, 1), (40, .iconst 1, 1), (41, .iand, 1), (42, .ifCond .eq 24, 3), (45, .aload_n 0, 1), (46, .aload_n 1, 1), (47, .aload_n 3, 1), (48, .iload 6, 2), (50, .invokevirtual 58, 3), (53, .iconst (-1), 1), (54, .if_icmp .eq 12, 3), (57, .iload 5, 2), (59, .iconst 1, 1), (60, .iload 6, 2), (62, .ishl, 1), (63, .ior, 1), (64, .istore 5, 2)]
set_option maxRecDepth 100000 in
theorem t_Wo_openPlaces0 : ∀ q ∈ T_Wo_openPlaces0, decode prog_9_method_7_code q.1 = .ok q.2 := by decide +kernel
theorem d_Wo_openPlaces_0 : decode prog_9_method_7_code 0 = .ok (.aload_n 0, 1) := q_tb t_Wo_openPlaces0 0 rfl
theorem d_Wo_openPlaces_1 : decode prog_9_method_7_code 1 = .ok (.getfield 20, 3) := q_tb t_Wo_openPlaces0 1 rfl
theorem d_Wo_openPlaces_4 : decode prog_9_method_7_code 4 = .ok (.iload_n 2, 1) := q_tb t_Wo_openPlaces0 2 rfl
theorem d_Wo_openPlaces_5 : decode prog_9_method_7_code 5 = .ok (.aaload, 1) := q_tb t_Wo_openPlaces0 3 rfl
theorem d_Wo_openPlaces_6 : decode prog_9_method_7_code 6 = .ok (.astore_n 3, 1) := q_tb t_Wo_openPlaces0 4 rfl
theorem d_Wo_openPlaces_7 : decode prog_9_method_7_code 7 = .ok (.aload_n 3, 1) := q_tb t_Wo_openPlaces0 5 rfl
theorem d_Wo_openPlaces_8 : decode prog_9_method_7_code 8 = .ok (.getfield 55, 3) := q_tb t_Wo_openPlaces0 6 rfl
theorem d_Wo_openPlaces_11 : decode prog_9_method_7_code 11 = .ok (.aload_n 1, 1) := q_tb t_Wo_openPlaces0 7 rfl
theorem d_Wo_openPlaces_12 : decode prog_9_method_7_code 12 = .ok (.getfield 47, 3) := q_tb t_Wo_openPlaces0 8 rfl
theorem d_Wo_openPlaces_15 : decode prog_9_method_7_code 15 = .ok (.iload_n 2, 1) := q_tb t_Wo_openPlaces0 9 rfl
theorem d_Wo_openPlaces_16 : decode prog_9_method_7_code 16 = .ok (.iaload, 1) := q_tb t_Wo_openPlaces0 10 rfl
theorem d_Wo_openPlaces_17 : decode prog_9_method_7_code 17 = .ok (.iaload, 1) := q_tb t_Wo_openPlaces0 11 rfl
theorem d_Wo_openPlaces_18 : decode prog_9_method_7_code 18 = .ok (.istore 4, 2) := q_tb t_Wo_openPlaces0 12 rfl
theorem d_Wo_openPlaces_20 : decode prog_9_method_7_code 20 = .ok (.iconst 0, 1) := q_tb t_Wo_openPlaces0 13 rfl
theorem d_Wo_openPlaces_21 : decode prog_9_method_7_code 21 = .ok (.istore 5, 2) := q_tb t_Wo_openPlaces0 14 rfl
theorem d_Wo_openPlaces_23 : decode prog_9_method_7_code 23 = .ok (.iconst 1, 1) := q_tb t_Wo_openPlaces0 15 rfl
theorem d_Wo_openPlaces_24 : decode prog_9_method_7_code 24 = .ok (.istore 6, 2) := q_tb t_Wo_openPlaces0 16 rfl
theorem d_Wo_openPlaces_26 : decode prog_9_method_7_code 26 = .ok (.iload 6, 2) := q_tb t_Wo_openPlaces0 17 rfl
theorem d_Wo_openPlaces_28 : decode prog_9_method_7_code 28 = .ok (.aload_n 3, 1) := q_tb t_Wo_openPlaces0 18 rfl
theorem d_Wo_openPlaces_29 : decode prog_9_method_7_code 29 = .ok (.getfield 38, 3) := q_tb t_Wo_openPlaces0 19 rfl
theorem d_Wo_openPlaces_32 : decode prog_9_method_7_code 32 = .ok (.if_icmp .ge 40, 3) := q_tb t_Wo_openPlaces0 20 rfl
theorem d_Wo_openPlaces_35 : decode prog_9_method_7_code 35 = .ok (.iload 4, 2) := q_tb t_Wo_openPlaces0 21 rfl
theorem d_Wo_openPlaces_37 : decode prog_9_method_7_code 37 = .ok (.iload 6, 2) := q_tb t_Wo_openPlaces0 22 rfl
theorem d_Wo_openPlaces_39 : decode prog_9_method_7_code 39 = .ok (.ishr, 1) := q_tb t_Wo_openPlaces0 23 rfl
theorem d_Wo_openPlaces_40 : decode prog_9_method_7_code 40 = .ok (.iconst 1, 1) := q_tb t_Wo_openPlaces0 24 rfl
theorem d_Wo_openPlaces_41 : decode prog_9_method_7_code 41 = .ok (.iand, 1) := q_tb t_Wo_openPlaces0 25 rfl
theorem d_Wo_openPlaces_42 : decode prog_9_method_7_code 42 = .ok (.ifCond .eq 24, 3) := q_tb t_Wo_openPlaces0 26 rfl
theorem d_Wo_openPlaces_45 : decode prog_9_method_7_code 45 = .ok (.aload_n 0, 1) := q_tb t_Wo_openPlaces0 27 rfl
theorem d_Wo_openPlaces_46 : decode prog_9_method_7_code 46 = .ok (.aload_n 1, 1) := q_tb t_Wo_openPlaces0 28 rfl
theorem d_Wo_openPlaces_47 : decode prog_9_method_7_code 47 = .ok (.aload_n 3, 1) := q_tb t_Wo_openPlaces0 29 rfl
theorem d_Wo_openPlaces_48 : decode prog_9_method_7_code 48 = .ok (.iload 6, 2) := q_tb t_Wo_openPlaces0 30 rfl
theorem d_Wo_openPlaces_50 : decode prog_9_method_7_code 50 = .ok (.invokevirtual 58, 3) := q_tb t_Wo_openPlaces0 31 rfl
theorem d_Wo_openPlaces_53 : decode prog_9_method_7_code 53 = .ok (.iconst (-1), 1) := q_tb t_Wo_openPlaces0 32 rfl
theorem d_Wo_openPlaces_54 : decode prog_9_method_7_code 54 = .ok (.if_icmp .eq 12, 3) := q_tb t_Wo_openPlaces0 33 rfl
theorem d_Wo_openPlaces_57 : decode prog_9_method_7_code 57 = .ok (.iload 5, 2) := q_tb t_Wo_openPlaces0 34 rfl
theorem d_Wo_openPlaces_59 : decode prog_9_method_7_code 59 = .ok (.iconst 1, 1) := q_tb t_Wo_openPlaces0 35 rfl
theorem d_Wo_openPlaces_60 : decode prog_9_method_7_code 60 = .ok (.iload 6, 2) := q_tb t_Wo_openPlaces0 36 rfl
theorem d_Wo_openPlaces_62 : decode prog_9_method_7_code 62 = .ok (.ishl, 1) := q_tb t_Wo_openPlaces0 37 rfl
theorem d_Wo_openPlaces_63 : decode prog_9_method_7_code 63 = .ok (.ior, 1) := q_tb t_Wo_openPlaces0 38 rfl
theorem d_Wo_openPlaces_64 : decode prog_9_method_7_code 64 = .ok (.istore 5, 2) := q_tb t_Wo_openPlaces0 39 rfl
def T_Wo_openPlaces1 : List (Nat × Instr × Nat) := [(66, .iinc 6 1, 3), (69, .goto (-43), 3), (72, .iload 5, 2), (74, .ireturn, 1)]
set_option maxRecDepth 100000 in
theorem t_Wo_openPlaces1 : ∀ q ∈ T_Wo_openPlaces1, decode prog_9_method_7_code q.1 = .ok q.2 := by decide +kernel
theorem d_Wo_openPlaces_66 : decode prog_9_method_7_code 66 = .ok (.iinc 6 1, 3) := q_tb t_Wo_openPlaces1 0 rfl
theorem d_Wo_openPlaces_69 : decode prog_9_method_7_code 69 = .ok (.goto (-43), 3) := q_tb t_Wo_openPlaces1 1 rfl
theorem d_Wo_openPlaces_72 : decode prog_9_method_7_code 72 = .ok (.iload 5, 2) := q_tb t_Wo_openPlaces1 2 rfl
theorem d_Wo_openPlaces_74 : decode prog_9_method_7_code 74 = .ok (.ireturn, 1) := q_tb t_Wo_openPlaces1 3 rfl
def T_Wo_outcome : List (Nat × Instr × Nat) := [(0, .aload_n 2, 1), (1, .getfield 62, 3), (4, .iload_n 3, 1), (5, .iaload, 1), (6, .istore 4, 2), (8, .aload_n 2, 1), (9, .iload_n 3, 1), (10, .aload_n 1, 1), (11, .getfield 52, 3), (14, .iload 4, 2), (16, .iaload, 1), (17, .aload_n 0, 1), (18, .getfield 9, 3), (21, .iload 4, 2), (23, .iaload, 1), (24, .invokevirtual 65, 3), (27, .ireturn, 1)]
set_option maxRecDepth 100000 in
theorem t_Wo_outcome : ∀ q ∈ T_Wo_outcome, decode prog_9_method_8_code q.1 = .ok q.2 := by decide +kernel
theorem d_Wo_outcome_0 : decode prog_9_method_8_code 0 = .ok (.aload_n 2, 1) := q_tb t_Wo_outcome 0 rfl
theorem d_Wo_outcome_1 : decode prog_9_method_8_code 1 = .ok (.getfield 62, 3) := q_tb t_Wo_outcome 1 rfl
theorem d_Wo_outcome_4 : decode prog_9_method_8_code 4 = .ok (.iload_n 3, 1) := q_tb t_Wo_outcome 2 rfl
theorem d_Wo_outcome_5 : decode prog_9_method_8_code 5 = .ok (.iaload, 1) := q_tb t_Wo_outcome 3 rfl
theorem d_Wo_outcome_6 : decode prog_9_method_8_code 6 = .ok (.istore 4, 2) := q_tb t_Wo_outcome 4 rfl
theorem d_Wo_outcome_8 : decode prog_9_method_8_code 8 = .ok (.aload_n 2, 1) := q_tb t_Wo_outcome 5 rfl
theorem d_Wo_outcome_9 : decode prog_9_method_8_code 9 = .ok (.iload_n 3, 1) := q_tb t_Wo_outcome 6 rfl
theorem d_Wo_outcome_10 : decode prog_9_method_8_code 10 = .ok (.aload_n 1, 1) := q_tb t_Wo_outcome 7 rfl
theorem d_Wo_outcome_11 : decode prog_9_method_8_code 11 = .ok (.getfield 52, 3) := q_tb t_Wo_outcome 8 rfl
theorem d_Wo_outcome_14 : decode prog_9_method_8_code 14 = .ok (.iload 4, 2) := q_tb t_Wo_outcome 9 rfl
theorem d_Wo_outcome_16 : decode prog_9_method_8_code 16 = .ok (.iaload, 1) := q_tb t_Wo_outcome 10 rfl
theorem d_Wo_outcome_17 : decode prog_9_method_8_code 17 = .ok (.aload_n 0, 1) := q_tb t_Wo_outcome 11 rfl
theorem d_Wo_outcome_18 : decode prog_9_method_8_code 18 = .ok (.getfield 9, 3) := q_tb t_Wo_outcome 12 rfl
theorem d_Wo_outcome_21 : decode prog_9_method_8_code 21 = .ok (.iload 4, 2) := q_tb t_Wo_outcome 13 rfl
theorem d_Wo_outcome_23 : decode prog_9_method_8_code 23 = .ok (.iaload, 1) := q_tb t_Wo_outcome 14 rfl
theorem d_Wo_outcome_24 : decode prog_9_method_8_code 24 = .ok (.invokevirtual 65, 3) := q_tb t_Wo_outcome 15 rfl
theorem d_Wo_outcome_27 : decode prog_9_method_8_code 27 = .ok (.ireturn, 1) := q_tb t_Wo_outcome 16 rfl
def T_Se_reachAll0 : List (Nat × Instr × Nat) := [(0, .aload_n 0, 1), (1, .getfield 41, 3), (4, .getfield 110, 3), (7, .iload_n 2, 1), (8, .aaload, 1), (9, .astore 4, 2), (11, .iconst 1, 1), (12, .istore 5, 2), (14, .iload 5, 2), (16, .aload 4, 2), (18, .getfield 114, 3), (21, .if_icmp .ge 92, 3), (24, .iload_n 3, 1), (25, .iload 5, 2), (27, .ishr, 1), (28, .iconst 1, 1), (29, .iand, 1), (30, .ifCond .eq 77, 3), (33, .aload 4, 2), (35, .getfield 138, 3), (38, .iload 5, 2), (40, .iaload, 1), (41, .istore 6, 2), (43, .aload_n 0, 1), (44, .getfield 41, 3), (47, .aload_n 0, 1), (48, .getfield 30, 3), (51, .aload 4, 2), (53, .iload 5, 2), (55, .invokevirtual 141, 3), (58, .aload_n 0, 1), (59, .getfield 30, 3), (62, .getfield 145, 3), (65, .iload 6, 2), (67, .iaload, 1), (68, .isub, 1), (69, .istore 7, 2), (71, .aload_n 0, 1), (72, .iload_n 1, 1), (73, .iload 7, 2)]
set_option maxRecDepth 100000 in
theorem t_Se_reachAll0 : ∀ q ∈ T_Se_reachAll0, decode prog_4_method_9_code q.1 = .ok q.2 := by decide +kernel
theorem d_Se_reachAll_0 : decode prog_4_method_9_code 0 = .ok (.aload_n 0, 1) := q_tb t_Se_reachAll0 0 rfl
theorem d_Se_reachAll_1 : decode prog_4_method_9_code 1 = .ok (.getfield 41, 3) := q_tb t_Se_reachAll0 1 rfl
theorem d_Se_reachAll_4 : decode prog_4_method_9_code 4 = .ok (.getfield 110, 3) := q_tb t_Se_reachAll0 2 rfl
theorem d_Se_reachAll_7 : decode prog_4_method_9_code 7 = .ok (.iload_n 2, 1) := q_tb t_Se_reachAll0 3 rfl
theorem d_Se_reachAll_8 : decode prog_4_method_9_code 8 = .ok (.aaload, 1) := q_tb t_Se_reachAll0 4 rfl
theorem d_Se_reachAll_9 : decode prog_4_method_9_code 9 = .ok (.astore 4, 2) := q_tb t_Se_reachAll0 5 rfl
theorem d_Se_reachAll_11 : decode prog_4_method_9_code 11 = .ok (.iconst 1, 1) := q_tb t_Se_reachAll0 6 rfl
theorem d_Se_reachAll_12 : decode prog_4_method_9_code 12 = .ok (.istore 5, 2) := q_tb t_Se_reachAll0 7 rfl
theorem d_Se_reachAll_14 : decode prog_4_method_9_code 14 = .ok (.iload 5, 2) := q_tb t_Se_reachAll0 8 rfl
theorem d_Se_reachAll_16 : decode prog_4_method_9_code 16 = .ok (.aload 4, 2) := q_tb t_Se_reachAll0 9 rfl
theorem d_Se_reachAll_18 : decode prog_4_method_9_code 18 = .ok (.getfield 114, 3) := q_tb t_Se_reachAll0 10 rfl
theorem d_Se_reachAll_21 : decode prog_4_method_9_code 21 = .ok (.if_icmp .ge 92, 3) := q_tb t_Se_reachAll0 11 rfl
theorem d_Se_reachAll_24 : decode prog_4_method_9_code 24 = .ok (.iload_n 3, 1) := q_tb t_Se_reachAll0 12 rfl
theorem d_Se_reachAll_25 : decode prog_4_method_9_code 25 = .ok (.iload 5, 2) := q_tb t_Se_reachAll0 13 rfl
theorem d_Se_reachAll_27 : decode prog_4_method_9_code 27 = .ok (.ishr, 1) := q_tb t_Se_reachAll0 14 rfl
theorem d_Se_reachAll_28 : decode prog_4_method_9_code 28 = .ok (.iconst 1, 1) := q_tb t_Se_reachAll0 15 rfl
theorem d_Se_reachAll_29 : decode prog_4_method_9_code 29 = .ok (.iand, 1) := q_tb t_Se_reachAll0 16 rfl
theorem d_Se_reachAll_30 : decode prog_4_method_9_code 30 = .ok (.ifCond .eq 77, 3) := q_tb t_Se_reachAll0 17 rfl
theorem d_Se_reachAll_33 : decode prog_4_method_9_code 33 = .ok (.aload 4, 2) := q_tb t_Se_reachAll0 18 rfl
theorem d_Se_reachAll_35 : decode prog_4_method_9_code 35 = .ok (.getfield 138, 3) := q_tb t_Se_reachAll0 19 rfl
theorem d_Se_reachAll_38 : decode prog_4_method_9_code 38 = .ok (.iload 5, 2) := q_tb t_Se_reachAll0 20 rfl
theorem d_Se_reachAll_40 : decode prog_4_method_9_code 40 = .ok (.iaload, 1) := q_tb t_Se_reachAll0 21 rfl
theorem d_Se_reachAll_41 : decode prog_4_method_9_code 41 = .ok (.istore 6, 2) := q_tb t_Se_reachAll0 22 rfl
theorem d_Se_reachAll_43 : decode prog_4_method_9_code 43 = .ok (.aload_n 0, 1) := q_tb t_Se_reachAll0 23 rfl
theorem d_Se_reachAll_44 : decode prog_4_method_9_code 44 = .ok (.getfield 41, 3) := q_tb t_Se_reachAll0 24 rfl
theorem d_Se_reachAll_47 : decode prog_4_method_9_code 47 = .ok (.aload_n 0, 1) := q_tb t_Se_reachAll0 25 rfl
theorem d_Se_reachAll_48 : decode prog_4_method_9_code 48 = .ok (.getfield 30, 3) := q_tb t_Se_reachAll0 26 rfl
theorem d_Se_reachAll_51 : decode prog_4_method_9_code 51 = .ok (.aload 4, 2) := q_tb t_Se_reachAll0 27 rfl
theorem d_Se_reachAll_53 : decode prog_4_method_9_code 53 = .ok (.iload 5, 2) := q_tb t_Se_reachAll0 28 rfl
theorem d_Se_reachAll_55 : decode prog_4_method_9_code 55 = .ok (.invokevirtual 141, 3) := q_tb t_Se_reachAll0 29 rfl
theorem d_Se_reachAll_58 : decode prog_4_method_9_code 58 = .ok (.aload_n 0, 1) := q_tb t_Se_reachAll0 30 rfl
theorem d_Se_reachAll_59 : decode prog_4_method_9_code 59 = .ok (.getfield 30, 3) := q_tb t_Se_reachAll0 31 rfl
theorem d_Se_reachAll_62 : decode prog_4_method_9_code 62 = .ok (.getfield 145, 3) := q_tb t_Se_reachAll0 32 rfl
theorem d_Se_reachAll_65 : decode prog_4_method_9_code 65 = .ok (.iload 6, 2) := q_tb t_Se_reachAll0 33 rfl
theorem d_Se_reachAll_67 : decode prog_4_method_9_code 67 = .ok (.iaload, 1) := q_tb t_Se_reachAll0 34 rfl
theorem d_Se_reachAll_68 : decode prog_4_method_9_code 68 = .ok (.isub, 1) := q_tb t_Se_reachAll0 35 rfl
theorem d_Se_reachAll_69 : decode prog_4_method_9_code 69 = .ok (.istore 7, 2) := q_tb t_Se_reachAll0 36 rfl
theorem d_Se_reachAll_71 : decode prog_4_method_9_code 71 = .ok (.aload_n 0, 1) := q_tb t_Se_reachAll0 37 rfl
theorem d_Se_reachAll_72 : decode prog_4_method_9_code 72 = .ok (.iload_n 1, 1) := q_tb t_Se_reachAll0 38 rfl
theorem d_Se_reachAll_73 : decode prog_4_method_9_code 73 = .ok (.iload 7, 2) := q_tb t_Se_reachAll0 39 rfl
def T_Se_reachAll1 : List (Nat × Instr × Nat) := [(75, .aload_n 0, 1), (76, .getfield 38, 3), (79, .iload 6, 2), (81, .iaload, 1), (82, .imul, 1), (83, .iadd, 1), (84, .iload 5, 2), (86, .aload_n 0, 1), (87, .getfield 30, 3), (90, .getfield 148, 3), (93, .iload_n 2, 1), (94, .iaload, 1), (95, .isub, 1), (96, .aload_n 0, 1), (97, .getfield 34, 3), (100, .iload_n 2, 1), (101, .iaload, 1), (102, .imul, 1), (103, .iadd, 1), (104, .invokevirtual 75, 3), (107, .iinc 5 1, 3), (110, .goto (-96), 3), (113, .return_, 1)]
set_option maxRecDepth 100000 in
theorem t_Se_reachAll1 : ∀ q ∈ T_Se_reachAll1, decode prog_4_method_9_code q.1 = .ok q.2 := by decide +kernel
theorem d_Se_reachAll_75 : decode prog_4_method_9_code 75 = .ok (.aload_n 0, 1) := q_tb t_Se_reachAll1 0 rfl
theorem d_Se_reachAll_76 : decode prog_4_method_9_code 76 = .ok (.getfield 38, 3) := q_tb t_Se_reachAll1 1 rfl
theorem d_Se_reachAll_79 : decode prog_4_method_9_code 79 = .ok (.iload 6, 2) := q_tb t_Se_reachAll1 2 rfl
theorem d_Se_reachAll_81 : decode prog_4_method_9_code 81 = .ok (.iaload, 1) := q_tb t_Se_reachAll1 3 rfl
theorem d_Se_reachAll_82 : decode prog_4_method_9_code 82 = .ok (.imul, 1) := q_tb t_Se_reachAll1 4 rfl
theorem d_Se_reachAll_83 : decode prog_4_method_9_code 83 = .ok (.iadd, 1) := q_tb t_Se_reachAll1 5 rfl
theorem d_Se_reachAll_84 : decode prog_4_method_9_code 84 = .ok (.iload 5, 2) := q_tb t_Se_reachAll1 6 rfl
theorem d_Se_reachAll_86 : decode prog_4_method_9_code 86 = .ok (.aload_n 0, 1) := q_tb t_Se_reachAll1 7 rfl
theorem d_Se_reachAll_87 : decode prog_4_method_9_code 87 = .ok (.getfield 30, 3) := q_tb t_Se_reachAll1 8 rfl
theorem d_Se_reachAll_90 : decode prog_4_method_9_code 90 = .ok (.getfield 148, 3) := q_tb t_Se_reachAll1 9 rfl
theorem d_Se_reachAll_93 : decode prog_4_method_9_code 93 = .ok (.iload_n 2, 1) := q_tb t_Se_reachAll1 10 rfl
theorem d_Se_reachAll_94 : decode prog_4_method_9_code 94 = .ok (.iaload, 1) := q_tb t_Se_reachAll1 11 rfl
theorem d_Se_reachAll_95 : decode prog_4_method_9_code 95 = .ok (.isub, 1) := q_tb t_Se_reachAll1 12 rfl
theorem d_Se_reachAll_96 : decode prog_4_method_9_code 96 = .ok (.aload_n 0, 1) := q_tb t_Se_reachAll1 13 rfl
theorem d_Se_reachAll_97 : decode prog_4_method_9_code 97 = .ok (.getfield 34, 3) := q_tb t_Se_reachAll1 14 rfl
theorem d_Se_reachAll_100 : decode prog_4_method_9_code 100 = .ok (.iload_n 2, 1) := q_tb t_Se_reachAll1 15 rfl
theorem d_Se_reachAll_101 : decode prog_4_method_9_code 101 = .ok (.iaload, 1) := q_tb t_Se_reachAll1 16 rfl
theorem d_Se_reachAll_102 : decode prog_4_method_9_code 102 = .ok (.imul, 1) := q_tb t_Se_reachAll1 17 rfl
theorem d_Se_reachAll_103 : decode prog_4_method_9_code 103 = .ok (.iadd, 1) := q_tb t_Se_reachAll1 18 rfl
theorem d_Se_reachAll_104 : decode prog_4_method_9_code 104 = .ok (.invokevirtual 75, 3) := q_tb t_Se_reachAll1 19 rfl
theorem d_Se_reachAll_107 : decode prog_4_method_9_code 107 = .ok (.iinc 5 1, 3) := q_tb t_Se_reachAll1 20 rfl
theorem d_Se_reachAll_110 : decode prog_4_method_9_code 110 = .ok (.goto (-96), 3) := q_tb t_Se_reachAll1 21 rfl
theorem d_Se_reachAll_113 : decode prog_4_method_9_code 113 = .ok (.return_, 1) := q_tb t_Se_reachAll1 22 rfl
def T_Wo_allAtEnds : List (Nat × Instr × Nat) := [(0, .iconst 0, 1), (1, .istore_n 2, 1), (2, .iload_n 2, 1), (3, .aload_n 0, 1), (4, .getfield 35, 3), (7, .if_icmp .ge 29, 3), (10, .aload_n 0, 1), (11, .getfield 20, 3), (14, .iload_n 2, 1), (15, .aaload, 1), (16, .aload_n 1, 1), (17, .getfield 47, 3), (20, .iload_n 2, 1), (21, .iaload, 1), (22, .invokevirtual 68, 3), (25, .ifCond .ne 5, 3), (28, .iconst 0, 1), (29, .ireturn, 1), (30, .iinc 2 1, 3), (33, .goto (-31), 3), (36, .iconst 1, 1), (37, .ireturn, 1)]
set_option maxRecDepth 100000 in
theorem t_Wo_allAtEnds : ∀ q ∈ T_Wo_allAtEnds, decode prog_9_method_10_code q.1 = .ok q.2 := by decide +kernel
theorem d_Wo_allAtEnds_0 : decode prog_9_method_10_code 0 = .ok (.iconst 0, 1) := q_tb t_Wo_allAtEnds 0 rfl
theorem d_Wo_allAtEnds_1 : decode prog_9_method_10_code 1 = .ok (.istore_n 2, 1) := q_tb t_Wo_allAtEnds 1 rfl
theorem d_Wo_allAtEnds_2 : decode prog_9_method_10_code 2 = .ok (.iload_n 2, 1) := q_tb t_Wo_allAtEnds 2 rfl
theorem d_Wo_allAtEnds_3 : decode prog_9_method_10_code 3 = .ok (.aload_n 0, 1) := q_tb t_Wo_allAtEnds 3 rfl
theorem d_Wo_allAtEnds_4 : decode prog_9_method_10_code 4 = .ok (.getfield 35, 3) := q_tb t_Wo_allAtEnds 4 rfl
theorem d_Wo_allAtEnds_7 : decode prog_9_method_10_code 7 = .ok (.if_icmp .ge 29, 3) := q_tb t_Wo_allAtEnds 5 rfl
theorem d_Wo_allAtEnds_10 : decode prog_9_method_10_code 10 = .ok (.aload_n 0, 1) := q_tb t_Wo_allAtEnds 6 rfl
theorem d_Wo_allAtEnds_11 : decode prog_9_method_10_code 11 = .ok (.getfield 20, 3) := q_tb t_Wo_allAtEnds 7 rfl
theorem d_Wo_allAtEnds_14 : decode prog_9_method_10_code 14 = .ok (.iload_n 2, 1) := q_tb t_Wo_allAtEnds 8 rfl
theorem d_Wo_allAtEnds_15 : decode prog_9_method_10_code 15 = .ok (.aaload, 1) := q_tb t_Wo_allAtEnds 9 rfl
theorem d_Wo_allAtEnds_16 : decode prog_9_method_10_code 16 = .ok (.aload_n 1, 1) := q_tb t_Wo_allAtEnds 10 rfl
theorem d_Wo_allAtEnds_17 : decode prog_9_method_10_code 17 = .ok (.getfield 47, 3) := q_tb t_Wo_allAtEnds 11 rfl
theorem d_Wo_allAtEnds_20 : decode prog_9_method_10_code 20 = .ok (.iload_n 2, 1) := q_tb t_Wo_allAtEnds 12 rfl
theorem d_Wo_allAtEnds_21 : decode prog_9_method_10_code 21 = .ok (.iaload, 1) := q_tb t_Wo_allAtEnds 13 rfl
theorem d_Wo_allAtEnds_22 : decode prog_9_method_10_code 22 = .ok (.invokevirtual 68, 3) := q_tb t_Wo_allAtEnds 14 rfl
theorem d_Wo_allAtEnds_25 : decode prog_9_method_10_code 25 = .ok (.ifCond .ne 5, 3) := q_tb t_Wo_allAtEnds 15 rfl
theorem d_Wo_allAtEnds_28 : decode prog_9_method_10_code 28 = .ok (.iconst 0, 1) := q_tb t_Wo_allAtEnds 16 rfl
theorem d_Wo_allAtEnds_29 : decode prog_9_method_10_code 29 = .ok (.ireturn, 1) := q_tb t_Wo_allAtEnds 17 rfl
theorem d_Wo_allAtEnds_30 : decode prog_9_method_10_code 30 = .ok (.iinc 2 1, 3) := q_tb t_Wo_allAtEnds 18 rfl
theorem d_Wo_allAtEnds_33 : decode prog_9_method_10_code 33 = .ok (.goto (-31), 3) := q_tb t_Wo_allAtEnds 19 rfl
theorem d_Wo_allAtEnds_36 : decode prog_9_method_10_code 36 = .ok (.iconst 1, 1) := q_tb t_Wo_allAtEnds 20 rfl
theorem d_Wo_allAtEnds_37 : decode prog_9_method_10_code 37 = .ok (.ireturn, 1) := q_tb t_Wo_allAtEnds 21 rfl
def T_Wo_addVariable : List (Nat × Instr × Nat) := [(0, .aload_n 0, 1), (1, .getfield 9, 3), (4, .aload_n 0, 1), (5, .getfield 31, 3), (8, .iload_n 1, 1), (9, .iastore, 1), (10, .aload_n 0, 1), (11, .getfield 15, 3), (14, .aload_n 0, 1), (15, .getfield 31, 3), (18, .iload_n 2, 1), (19, .iastore, 1), (20, .aload_n 0, 1), (21, .dup, 1), (22, .getfield 31, 3), (25, .iconst 1, 1), (26, .iadd, 1), (27, .putfield 31, 3), (30, .return_, 1)]
set_option maxRecDepth 100000 in
theorem t_Wo_addVariable : ∀ q ∈ T_Wo_addVariable, decode prog_9_method_2_code q.1 = .ok q.2 := by decide +kernel
theorem d_Wo_addVariable_0 : decode prog_9_method_2_code 0 = .ok (.aload_n 0, 1) := q_tb t_Wo_addVariable 0 rfl
theorem d_Wo_addVariable_1 : decode prog_9_method_2_code 1 = .ok (.getfield 9, 3) := q_tb t_Wo_addVariable 1 rfl
theorem d_Wo_addVariable_4 : decode prog_9_method_2_code 4 = .ok (.aload_n 0, 1) := q_tb t_Wo_addVariable 2 rfl
theorem d_Wo_addVariable_5 : decode prog_9_method_2_code 5 = .ok (.getfield 31, 3) := q_tb t_Wo_addVariable 3 rfl
theorem d_Wo_addVariable_8 : decode prog_9_method_2_code 8 = .ok (.iload_n 1, 1) := q_tb t_Wo_addVariable 4 rfl
theorem d_Wo_addVariable_9 : decode prog_9_method_2_code 9 = .ok (.iastore, 1) := q_tb t_Wo_addVariable 5 rfl
theorem d_Wo_addVariable_10 : decode prog_9_method_2_code 10 = .ok (.aload_n 0, 1) := q_tb t_Wo_addVariable 6 rfl
theorem d_Wo_addVariable_11 : decode prog_9_method_2_code 11 = .ok (.getfield 15, 3) := q_tb t_Wo_addVariable 7 rfl
theorem d_Wo_addVariable_14 : decode prog_9_method_2_code 14 = .ok (.aload_n 0, 1) := q_tb t_Wo_addVariable 8 rfl
theorem d_Wo_addVariable_15 : decode prog_9_method_2_code 15 = .ok (.getfield 31, 3) := q_tb t_Wo_addVariable 9 rfl
theorem d_Wo_addVariable_18 : decode prog_9_method_2_code 18 = .ok (.iload_n 2, 1) := q_tb t_Wo_addVariable 10 rfl
theorem d_Wo_addVariable_19 : decode prog_9_method_2_code 19 = .ok (.iastore, 1) := q_tb t_Wo_addVariable 11 rfl
theorem d_Wo_addVariable_20 : decode prog_9_method_2_code 20 = .ok (.aload_n 0, 1) := q_tb t_Wo_addVariable 12 rfl
theorem d_Wo_addVariable_21 : decode prog_9_method_2_code 21 = .ok (.dup, 1) := q_tb t_Wo_addVariable 13 rfl
theorem d_Wo_addVariable_22 : decode prog_9_method_2_code 22 = .ok (.getfield 31, 3) := q_tb t_Wo_addVariable 14 rfl
theorem d_Wo_addVariable_25 : decode prog_9_method_2_code 25 = .ok (.iconst 1, 1) := q_tb t_Wo_addVariable 15 rfl
theorem d_Wo_addVariable_26 : decode prog_9_method_2_code 26 = .ok (.iadd, 1) := q_tb t_Wo_addVariable 16 rfl
theorem d_Wo_addVariable_27 : decode prog_9_method_2_code 27 = .ok (.putfield 31, 3) := q_tb t_Wo_addVariable 17 rfl
theorem d_Wo_addVariable_30 : decode prog_9_method_2_code 30 = .ok (.return_, 1) := q_tb t_Wo_addVariable 18 rfl
def T_Se_standingState : List (Nat × Instr × Nat) := [(0, .aload_n 0, 1), (1, .getfield 41, 3), (4, .aload_n 0, 1), (5, .getfield 18, 3), (8, .iload_n 1, 1), (9, .invokevirtual 96, 3), (12, .aload_n 0, 1), (13, .getfield 30, 3), (16, .invokevirtual 100, 3), (19, .aload_n 0, 1), (20, .getfield 30, 3), (23, .areturn, 1)]
set_option maxRecDepth 100000 in
theorem t_Se_standingState : ∀ q ∈ T_Se_standingState, decode prog_4_method_5_code q.1 = .ok q.2 := by decide +kernel
theorem d_Se_standingState_0 : decode prog_4_method_5_code 0 = .ok (.aload_n 0, 1) := q_tb t_Se_standingState 0 rfl
theorem d_Se_standingState_1 : decode prog_4_method_5_code 1 = .ok (.getfield 41, 3) := q_tb t_Se_standingState 1 rfl
theorem d_Se_standingState_4 : decode prog_4_method_5_code 4 = .ok (.aload_n 0, 1) := q_tb t_Se_standingState 2 rfl
theorem d_Se_standingState_5 : decode prog_4_method_5_code 5 = .ok (.getfield 18, 3) := q_tb t_Se_standingState 3 rfl
theorem d_Se_standingState_8 : decode prog_4_method_5_code 8 = .ok (.iload_n 1, 1) := q_tb t_Se_standingState 4 rfl
theorem d_Se_standingState_9 : decode prog_4_method_5_code 9 = .ok (.invokevirtual 96, 3) := q_tb t_Se_standingState 5 rfl
theorem d_Se_standingState_12 : decode prog_4_method_5_code 12 = .ok (.aload_n 0, 1) := q_tb t_Se_standingState 6 rfl
theorem d_Se_standingState_13 : decode prog_4_method_5_code 13 = .ok (.getfield 30, 3) := q_tb t_Se_standingState 7 rfl
theorem d_Se_standingState_16 : decode prog_4_method_5_code 16 = .ok (.invokevirtual 100, 3) := q_tb t_Se_standingState 8 rfl
theorem d_Se_standingState_19 : decode prog_4_method_5_code 19 = .ok (.aload_n 0, 1) := q_tb t_Se_standingState 9 rfl
theorem d_Se_standingState_20 : decode prog_4_method_5_code 20 = .ok (.getfield 30, 3) := q_tb t_Se_standingState 10 rfl
theorem d_Se_standingState_23 : decode prog_4_method_5_code 23 = .ok (.areturn, 1) := q_tb t_Se_standingState 11 rfl
def T_Ss_nth : List (Nat × Instr × Nat) := [(0, .iload_n 1, 1), (1, .istore_n 2, 1), (2, .iconst 0, 1), (3, .istore_n 3, 1), (4, .iload_n 3, 1), (5, .sipush 469, 3), (8, .if_icmp .ge 47, 3), (11, .aload_n 0, 1), (12, .getfield 11, 3), (15, .iload_n 3, 1), (16, .laload, 1), (17, .invokestatic 35, 3), (20, .istore 4, 2), (22, .iload_n 2, 1), (23, .iload 4, 2), (25, .if_icmp .ge 19, 3), (28, .iload_n 3, 1), (29, .bipush 64, 2), (31, .imul, 1), (32, .aload_n 0, 1), (33, .getfield 11, 3), (36, .iload_n 3, 1), (37, .laload, 1), (38, .iload_n 2, 1), (39, .invokestatic 31, 3), (42, .iadd, 1), (43, .ireturn, 1), (44, .iload_n 2, 1), (45, .iload 4, 2), (47, .isub, 1), (48, .istore_n 2, 1), (49, .iinc 3 1, 3), (52, .goto (-48), 3), (55, .iconst (-1), 1), (56, .ireturn, 1)]
set_option maxRecDepth 100000 in
theorem t_Ss_nth : ∀ q ∈ T_Ss_nth, decode prog_6_method_7_code q.1 = .ok q.2 := by decide +kernel
theorem d_Ss_nth_0 : decode prog_6_method_7_code 0 = .ok (.iload_n 1, 1) := q_tb t_Ss_nth 0 rfl
theorem d_Ss_nth_1 : decode prog_6_method_7_code 1 = .ok (.istore_n 2, 1) := q_tb t_Ss_nth 1 rfl
theorem d_Ss_nth_2 : decode prog_6_method_7_code 2 = .ok (.iconst 0, 1) := q_tb t_Ss_nth 2 rfl
theorem d_Ss_nth_3 : decode prog_6_method_7_code 3 = .ok (.istore_n 3, 1) := q_tb t_Ss_nth 3 rfl
theorem d_Ss_nth_4 : decode prog_6_method_7_code 4 = .ok (.iload_n 3, 1) := q_tb t_Ss_nth 4 rfl
theorem d_Ss_nth_5 : decode prog_6_method_7_code 5 = .ok (.sipush 469, 3) := q_tb t_Ss_nth 5 rfl
theorem d_Ss_nth_8 : decode prog_6_method_7_code 8 = .ok (.if_icmp .ge 47, 3) := q_tb t_Ss_nth 6 rfl
theorem d_Ss_nth_11 : decode prog_6_method_7_code 11 = .ok (.aload_n 0, 1) := q_tb t_Ss_nth 7 rfl
theorem d_Ss_nth_12 : decode prog_6_method_7_code 12 = .ok (.getfield 11, 3) := q_tb t_Ss_nth 8 rfl
theorem d_Ss_nth_15 : decode prog_6_method_7_code 15 = .ok (.iload_n 3, 1) := q_tb t_Ss_nth 9 rfl
theorem d_Ss_nth_16 : decode prog_6_method_7_code 16 = .ok (.laload, 1) := q_tb t_Ss_nth 10 rfl
theorem d_Ss_nth_17 : decode prog_6_method_7_code 17 = .ok (.invokestatic 35, 3) := q_tb t_Ss_nth 11 rfl
theorem d_Ss_nth_20 : decode prog_6_method_7_code 20 = .ok (.istore 4, 2) := q_tb t_Ss_nth 12 rfl
theorem d_Ss_nth_22 : decode prog_6_method_7_code 22 = .ok (.iload_n 2, 1) := q_tb t_Ss_nth 13 rfl
theorem d_Ss_nth_23 : decode prog_6_method_7_code 23 = .ok (.iload 4, 2) := q_tb t_Ss_nth 14 rfl
theorem d_Ss_nth_25 : decode prog_6_method_7_code 25 = .ok (.if_icmp .ge 19, 3) := q_tb t_Ss_nth 15 rfl
theorem d_Ss_nth_28 : decode prog_6_method_7_code 28 = .ok (.iload_n 3, 1) := q_tb t_Ss_nth 16 rfl
theorem d_Ss_nth_29 : decode prog_6_method_7_code 29 = .ok (.bipush 64, 2) := q_tb t_Ss_nth 17 rfl
theorem d_Ss_nth_31 : decode prog_6_method_7_code 31 = .ok (.imul, 1) := q_tb t_Ss_nth 18 rfl
theorem d_Ss_nth_32 : decode prog_6_method_7_code 32 = .ok (.aload_n 0, 1) := q_tb t_Ss_nth 19 rfl
theorem d_Ss_nth_33 : decode prog_6_method_7_code 33 = .ok (.getfield 11, 3) := q_tb t_Ss_nth 20 rfl
theorem d_Ss_nth_36 : decode prog_6_method_7_code 36 = .ok (.iload_n 3, 1) := q_tb t_Ss_nth 21 rfl
theorem d_Ss_nth_37 : decode prog_6_method_7_code 37 = .ok (.laload, 1) := q_tb t_Ss_nth 22 rfl
theorem d_Ss_nth_38 : decode prog_6_method_7_code 38 = .ok (.iload_n 2, 1) := q_tb t_Ss_nth 23 rfl
theorem d_Ss_nth_39 : decode prog_6_method_7_code 39 = .ok (.invokestatic 31, 3) := q_tb t_Ss_nth 24 rfl
theorem d_Ss_nth_42 : decode prog_6_method_7_code 42 = .ok (.iadd, 1) := q_tb t_Ss_nth 25 rfl
theorem d_Ss_nth_43 : decode prog_6_method_7_code 43 = .ok (.ireturn, 1) := q_tb t_Ss_nth 26 rfl
theorem d_Ss_nth_44 : decode prog_6_method_7_code 44 = .ok (.iload_n 2, 1) := q_tb t_Ss_nth 27 rfl
theorem d_Ss_nth_45 : decode prog_6_method_7_code 45 = .ok (.iload 4, 2) := q_tb t_Ss_nth 28 rfl
theorem d_Ss_nth_47 : decode prog_6_method_7_code 47 = .ok (.isub, 1) := q_tb t_Ss_nth 29 rfl
theorem d_Ss_nth_48 : decode prog_6_method_7_code 48 = .ok (.istore_n 2, 1) := q_tb t_Ss_nth 30 rfl
theorem d_Ss_nth_49 : decode prog_6_method_7_code 49 = .ok (.iinc 3 1, 3) := q_tb t_Ss_nth 31 rfl
theorem d_Ss_nth_52 : decode prog_6_method_7_code 52 = .ok (.goto (-48), 3) := q_tb t_Ss_nth 32 rfl
theorem d_Ss_nth_55 : decode prog_6_method_7_code 55 = .ok (.iconst (-1), 1) := q_tb t_Ss_nth 33 rfl
theorem d_Ss_nth_56 : decode prog_6_method_7_code 56 = .ok (.ireturn, 1) := q_tb t_Ss_nth 34 rfl
def T_Wo_go : List (Nat × Instr × Nat) := [(0, .aload_n 0, 1), (1, .getfield 20, 3), (4, .iload_n 2, 1), (5, .aaload, 1), (6, .astore 4, 2), (8, .aload_n 1, 1), (9, .getfield 52, 3), (12, .aload 4, 2), (14, .getfield 62, 3), (17, .iload_n 3, 1), (18, .iaload, 1), (19, .aload_n 0, 1), (20, .aload_n 1, 1), (21, .aload 4, 2), (23, .iload_n 3, 1), (24, .invokevirtual 58, 3), (27, .iastore, 1), (28, .aload_n 1, 1), (29, .getfield 47, 3), (32, .iload_n 2, 1), (33, .iload_n 3, 1), (34, .iastore, 1), (35, .return_, 1)]
set_option maxRecDepth 100000 in
theorem t_Wo_go : ∀ q ∈ T_Wo_go, decode prog_9_method_9_code q.1 = .ok q.2 := by decide +kernel
theorem d_Wo_go_0 : decode prog_9_method_9_code 0 = .ok (.aload_n 0, 1) := q_tb t_Wo_go 0 rfl
theorem d_Wo_go_1 : decode prog_9_method_9_code 1 = .ok (.getfield 20, 3) := q_tb t_Wo_go 1 rfl
theorem d_Wo_go_4 : decode prog_9_method_9_code 4 = .ok (.iload_n 2, 1) := q_tb t_Wo_go 2 rfl
theorem d_Wo_go_5 : decode prog_9_method_9_code 5 = .ok (.aaload, 1) := q_tb t_Wo_go 3 rfl
theorem d_Wo_go_6 : decode prog_9_method_9_code 6 = .ok (.astore 4, 2) := q_tb t_Wo_go 4 rfl
theorem d_Wo_go_8 : decode prog_9_method_9_code 8 = .ok (.aload_n 1, 1) := q_tb t_Wo_go 5 rfl
theorem d_Wo_go_9 : decode prog_9_method_9_code 9 = .ok (.getfield 52, 3) := q_tb t_Wo_go 6 rfl
theorem d_Wo_go_12 : decode prog_9_method_9_code 12 = .ok (.aload 4, 2) := q_tb t_Wo_go 7 rfl
theorem d_Wo_go_14 : decode prog_9_method_9_code 14 = .ok (.getfield 62, 3) := q_tb t_Wo_go 8 rfl
theorem d_Wo_go_17 : decode prog_9_method_9_code 17 = .ok (.iload_n 3, 1) := q_tb t_Wo_go 9 rfl
theorem d_Wo_go_18 : decode prog_9_method_9_code 18 = .ok (.iaload, 1) := q_tb t_Wo_go 10 rfl
theorem d_Wo_go_19 : decode prog_9_method_9_code 19 = .ok (.aload_n 0, 1) := q_tb t_Wo_go 11 rfl
theorem d_Wo_go_20 : decode prog_9_method_9_code 20 = .ok (.aload_n 1, 1) := q_tb t_Wo_go 12 rfl
theorem d_Wo_go_21 : decode prog_9_method_9_code 21 = .ok (.aload 4, 2) := q_tb t_Wo_go 13 rfl
theorem d_Wo_go_23 : decode prog_9_method_9_code 23 = .ok (.iload_n 3, 1) := q_tb t_Wo_go 14 rfl
theorem d_Wo_go_24 : decode prog_9_method_9_code 24 = .ok (.invokevirtual 58, 3) := q_tb t_Wo_go 15 rfl
theorem d_Wo_go_27 : decode prog_9_method_9_code 27 = .ok (.iastore, 1) := q_tb t_Wo_go 16 rfl
theorem d_Wo_go_28 : decode prog_9_method_9_code 28 = .ok (.aload_n 1, 1) := q_tb t_Wo_go 17 rfl
theorem d_Wo_go_29 : decode prog_9_method_9_code 29 = .ok (.getfield 47, 3) := q_tb t_Wo_go 18 rfl
theorem d_Wo_go_32 : decode prog_9_method_9_code 32 = .ok (.iload_n 2, 1) := q_tb t_Wo_go 19 rfl
theorem d_Wo_go_33 : decode prog_9_method_9_code 33 = .ok (.iload_n 3, 1) := q_tb t_Wo_go 20 rfl
theorem d_Wo_go_34 : decode prog_9_method_9_code 34 = .ok (.iastore, 1) := q_tb t_Wo_go 21 rfl
theorem d_Wo_go_35 : decode prog_9_method_9_code 35 = .ok (.return_, 1) := q_tb t_Wo_go 22 rfl
def T_Se_findFalling : List (Nat × Instr × Nat) := [(0, .aload_n 0, 1), (1, .invokevirtual 86, 3), (4, .aload_n 0, 1), (5, .getfield 49, 3), (8, .ifCond .eq 4, 3), (11, .return_, 1), (12, .aload_n 0, 1), (13, .getfield 21, 3), (16, .aload_n 0, 1), (17, .getfield 18, 3), (20, .invokevirtual 89, 3), (23, .aload_n 0, 1), (24, .getfield 24, 3), (27, .aload_n 0, 1), (28, .getfield 18, 3), (31, .invokevirtual 89, 3), (34, .iconst 0, 1), (35, .istore_n 1, 1), (36, .iload_n 1, 1), (37, .sipush 30000, 3), (40, .if_icmp .ge 30, 3), (43, .aload_n 0, 1), (44, .getfield 24, 3), (47, .invokevirtual 79, 3), (50, .istore_n 2, 1), (51, .iload_n 2, 1), (52, .iconst (-1), 1), (53, .if_icmp .ne 6, 3), (56, .goto 14, 3), (59, .aload_n 0, 1), (60, .iload_n 2, 1), (61, .invokevirtual 93, 3), (64, .iinc 1 1, 3), (67, .goto (-31), 3), (70, .aload_n 0, 1), (71, .iconst 1, 1), (72, .putfield 49, 3), (75, .return_, 1)]
set_option maxRecDepth 100000 in
theorem t_Se_findFalling : ∀ q ∈ T_Se_findFalling, decode prog_4_method_4_code q.1 = .ok q.2 := by decide +kernel
theorem d_Se_findFalling_0 : decode prog_4_method_4_code 0 = .ok (.aload_n 0, 1) := q_tb t_Se_findFalling 0 rfl
theorem d_Se_findFalling_1 : decode prog_4_method_4_code 1 = .ok (.invokevirtual 86, 3) := q_tb t_Se_findFalling 1 rfl
theorem d_Se_findFalling_4 : decode prog_4_method_4_code 4 = .ok (.aload_n 0, 1) := q_tb t_Se_findFalling 2 rfl
theorem d_Se_findFalling_5 : decode prog_4_method_4_code 5 = .ok (.getfield 49, 3) := q_tb t_Se_findFalling 3 rfl
theorem d_Se_findFalling_8 : decode prog_4_method_4_code 8 = .ok (.ifCond .eq 4, 3) := q_tb t_Se_findFalling 4 rfl
theorem d_Se_findFalling_11 : decode prog_4_method_4_code 11 = .ok (.return_, 1) := q_tb t_Se_findFalling 5 rfl
theorem d_Se_findFalling_12 : decode prog_4_method_4_code 12 = .ok (.aload_n 0, 1) := q_tb t_Se_findFalling 6 rfl
theorem d_Se_findFalling_13 : decode prog_4_method_4_code 13 = .ok (.getfield 21, 3) := q_tb t_Se_findFalling 7 rfl
theorem d_Se_findFalling_16 : decode prog_4_method_4_code 16 = .ok (.aload_n 0, 1) := q_tb t_Se_findFalling 8 rfl
theorem d_Se_findFalling_17 : decode prog_4_method_4_code 17 = .ok (.getfield 18, 3) := q_tb t_Se_findFalling 9 rfl
theorem d_Se_findFalling_20 : decode prog_4_method_4_code 20 = .ok (.invokevirtual 89, 3) := q_tb t_Se_findFalling 10 rfl
theorem d_Se_findFalling_23 : decode prog_4_method_4_code 23 = .ok (.aload_n 0, 1) := q_tb t_Se_findFalling 11 rfl
theorem d_Se_findFalling_24 : decode prog_4_method_4_code 24 = .ok (.getfield 24, 3) := q_tb t_Se_findFalling 12 rfl
theorem d_Se_findFalling_27 : decode prog_4_method_4_code 27 = .ok (.aload_n 0, 1) := q_tb t_Se_findFalling 13 rfl
theorem d_Se_findFalling_28 : decode prog_4_method_4_code 28 = .ok (.getfield 18, 3) := q_tb t_Se_findFalling 14 rfl
theorem d_Se_findFalling_31 : decode prog_4_method_4_code 31 = .ok (.invokevirtual 89, 3) := q_tb t_Se_findFalling 15 rfl
theorem d_Se_findFalling_34 : decode prog_4_method_4_code 34 = .ok (.iconst 0, 1) := q_tb t_Se_findFalling 16 rfl
theorem d_Se_findFalling_35 : decode prog_4_method_4_code 35 = .ok (.istore_n 1, 1) := q_tb t_Se_findFalling 17 rfl
theorem d_Se_findFalling_36 : decode prog_4_method_4_code 36 = .ok (.iload_n 1, 1) := q_tb t_Se_findFalling 18 rfl
theorem d_Se_findFalling_37 : decode prog_4_method_4_code 37 = .ok (.sipush 30000, 3) := q_tb t_Se_findFalling 19 rfl
theorem d_Se_findFalling_40 : decode prog_4_method_4_code 40 = .ok (.if_icmp .ge 30, 3) := q_tb t_Se_findFalling 20 rfl
theorem d_Se_findFalling_43 : decode prog_4_method_4_code 43 = .ok (.aload_n 0, 1) := q_tb t_Se_findFalling 21 rfl
theorem d_Se_findFalling_44 : decode prog_4_method_4_code 44 = .ok (.getfield 24, 3) := q_tb t_Se_findFalling 22 rfl
theorem d_Se_findFalling_47 : decode prog_4_method_4_code 47 = .ok (.invokevirtual 79, 3) := q_tb t_Se_findFalling 23 rfl
theorem d_Se_findFalling_50 : decode prog_4_method_4_code 50 = .ok (.istore_n 2, 1) := q_tb t_Se_findFalling 24 rfl
theorem d_Se_findFalling_51 : decode prog_4_method_4_code 51 = .ok (.iload_n 2, 1) := q_tb t_Se_findFalling 25 rfl
theorem d_Se_findFalling_52 : decode prog_4_method_4_code 52 = .ok (.iconst (-1), 1) := q_tb t_Se_findFalling 26 rfl
theorem d_Se_findFalling_53 : decode prog_4_method_4_code 53 = .ok (.if_icmp .ne 6, 3) := q_tb t_Se_findFalling 27 rfl
theorem d_Se_findFalling_56 : decode prog_4_method_4_code 56 = .ok (.goto 14, 3) := q_tb t_Se_findFalling 28 rfl
theorem d_Se_findFalling_59 : decode prog_4_method_4_code 59 = .ok (.aload_n 0, 1) := q_tb t_Se_findFalling 29 rfl
theorem d_Se_findFalling_60 : decode prog_4_method_4_code 60 = .ok (.iload_n 2, 1) := q_tb t_Se_findFalling 30 rfl
theorem d_Se_findFalling_61 : decode prog_4_method_4_code 61 = .ok (.invokevirtual 93, 3) := q_tb t_Se_findFalling 31 rfl
theorem d_Se_findFalling_64 : decode prog_4_method_4_code 64 = .ok (.iinc 1 1, 3) := q_tb t_Se_findFalling 32 rfl
theorem d_Se_findFalling_67 : decode prog_4_method_4_code 67 = .ok (.goto (-31), 3) := q_tb t_Se_findFalling 33 rfl
theorem d_Se_findFalling_70 : decode prog_4_method_4_code 70 = .ok (.aload_n 0, 1) := q_tb t_Se_findFalling 34 rfl
theorem d_Se_findFalling_71 : decode prog_4_method_4_code 71 = .ok (.iconst 1, 1) := q_tb t_Se_findFalling 35 rfl
theorem d_Se_findFalling_72 : decode prog_4_method_4_code 72 = .ok (.putfield 49, 3) := q_tb t_Se_findFalling 36 rfl
theorem d_Se_findFalling_75 : decode prog_4_method_4_code 75 = .ok (.return_, 1) := q_tb t_Se_findFalling 37 rfl
def T_Ss_copyFrom : List (Nat × Instr × Nat) := [(0, .aload_n 1, 1), (1, .getfield 11, 3), (4, .iconst 0, 1), (5, .aload_n 0, 1), (6, .getfield 11, 3), (9, .iconst 0, 1), (10, .sipush 469, 3), (13, .invokestatic 25, 3), (16, .aload_n 0, 1), (17, .iconst 0, 1), (18, .putfield 15, 3), (21, .return_, 1)]
set_option maxRecDepth 100000 in
theorem t_Ss_copyFrom : ∀ q ∈ T_Ss_copyFrom, decode prog_6_method_3_code q.1 = .ok q.2 := by decide +kernel
theorem d_Ss_copyFrom_0 : decode prog_6_method_3_code 0 = .ok (.aload_n 1, 1) := q_tb t_Ss_copyFrom 0 rfl
theorem d_Ss_copyFrom_1 : decode prog_6_method_3_code 1 = .ok (.getfield 11, 3) := q_tb t_Ss_copyFrom 1 rfl
theorem d_Ss_copyFrom_4 : decode prog_6_method_3_code 4 = .ok (.iconst 0, 1) := q_tb t_Ss_copyFrom 2 rfl
theorem d_Ss_copyFrom_5 : decode prog_6_method_3_code 5 = .ok (.aload_n 0, 1) := q_tb t_Ss_copyFrom 3 rfl
theorem d_Ss_copyFrom_6 : decode prog_6_method_3_code 6 = .ok (.getfield 11, 3) := q_tb t_Ss_copyFrom 4 rfl
theorem d_Ss_copyFrom_9 : decode prog_6_method_3_code 9 = .ok (.iconst 0, 1) := q_tb t_Ss_copyFrom 5 rfl
theorem d_Ss_copyFrom_10 : decode prog_6_method_3_code 10 = .ok (.sipush 469, 3) := q_tb t_Ss_copyFrom 6 rfl
theorem d_Ss_copyFrom_13 : decode prog_6_method_3_code 13 = .ok (.invokestatic 25, 3) := q_tb t_Ss_copyFrom 7 rfl
theorem d_Ss_copyFrom_16 : decode prog_6_method_3_code 16 = .ok (.aload_n 0, 1) := q_tb t_Ss_copyFrom 8 rfl
theorem d_Ss_copyFrom_17 : decode prog_6_method_3_code 17 = .ok (.iconst 0, 1) := q_tb t_Ss_copyFrom 9 rfl
theorem d_Ss_copyFrom_18 : decode prog_6_method_3_code 18 = .ok (.putfield 15, 3) := q_tb t_Ss_copyFrom 10 rfl
theorem d_Ss_copyFrom_21 : decode prog_6_method_3_code 21 = .ok (.return_, 1) := q_tb t_Ss_copyFrom 11 rfl
def T_Se_lookBack : List (Nat × Instr × Nat) := [(0, .aload_n 0, 1), (1, .getfield 41, 3), (4, .iload_n 1, 1), (5, .aload_n 0, 1), (6, .getfield 30, 3), (9, .invokevirtual 100, 3), (12, .iconst 0, 1), (13, .istore_n 2, 1), (14, .iload_n 2, 1), (15, .aload_n 0, 1), (16, .getfield 41, 3), (19, .getfield 107, 3), (22, .if_icmp .ge 30, 3), (25, .aload_n 0, 1), (26, .getfield 30, 3), (29, .getfield 148, 3), (32, .iload_n 2, 1), (33, .iaload, 1), (34, .istore_n 3, 1), (35, .iload_n 3, 1), (36, .ifCond .eq 10, 3), (39, .aload_n 0, 1), (40, .iload_n 1, 1), (41, .iload_n 2, 1), (42, .iload_n 3, 1), (43, .invokevirtual 151, 3), (46, .iinc 2 1, 3), (49, .goto (-35), 3), (52, .return_, 1)]
set_option maxRecDepth 100000 in
theorem t_Se_lookBack : ∀ q ∈ T_Se_lookBack, decode prog_4_method_10_code q.1 = .ok q.2 := by decide +kernel
theorem d_Se_lookBack_0 : decode prog_4_method_10_code 0 = .ok (.aload_n 0, 1) := q_tb t_Se_lookBack 0 rfl
theorem d_Se_lookBack_1 : decode prog_4_method_10_code 1 = .ok (.getfield 41, 3) := q_tb t_Se_lookBack 1 rfl
theorem d_Se_lookBack_4 : decode prog_4_method_10_code 4 = .ok (.iload_n 1, 1) := q_tb t_Se_lookBack 2 rfl
theorem d_Se_lookBack_5 : decode prog_4_method_10_code 5 = .ok (.aload_n 0, 1) := q_tb t_Se_lookBack 3 rfl
theorem d_Se_lookBack_6 : decode prog_4_method_10_code 6 = .ok (.getfield 30, 3) := q_tb t_Se_lookBack 4 rfl
theorem d_Se_lookBack_9 : decode prog_4_method_10_code 9 = .ok (.invokevirtual 100, 3) := q_tb t_Se_lookBack 5 rfl
theorem d_Se_lookBack_12 : decode prog_4_method_10_code 12 = .ok (.iconst 0, 1) := q_tb t_Se_lookBack 6 rfl
theorem d_Se_lookBack_13 : decode prog_4_method_10_code 13 = .ok (.istore_n 2, 1) := q_tb t_Se_lookBack 7 rfl
theorem d_Se_lookBack_14 : decode prog_4_method_10_code 14 = .ok (.iload_n 2, 1) := q_tb t_Se_lookBack 8 rfl
theorem d_Se_lookBack_15 : decode prog_4_method_10_code 15 = .ok (.aload_n 0, 1) := q_tb t_Se_lookBack 9 rfl
theorem d_Se_lookBack_16 : decode prog_4_method_10_code 16 = .ok (.getfield 41, 3) := q_tb t_Se_lookBack 10 rfl
theorem d_Se_lookBack_19 : decode prog_4_method_10_code 19 = .ok (.getfield 107, 3) := q_tb t_Se_lookBack 11 rfl
theorem d_Se_lookBack_22 : decode prog_4_method_10_code 22 = .ok (.if_icmp .ge 30, 3) := q_tb t_Se_lookBack 12 rfl
theorem d_Se_lookBack_25 : decode prog_4_method_10_code 25 = .ok (.aload_n 0, 1) := q_tb t_Se_lookBack 13 rfl
theorem d_Se_lookBack_26 : decode prog_4_method_10_code 26 = .ok (.getfield 30, 3) := q_tb t_Se_lookBack 14 rfl
theorem d_Se_lookBack_29 : decode prog_4_method_10_code 29 = .ok (.getfield 148, 3) := q_tb t_Se_lookBack 15 rfl
theorem d_Se_lookBack_32 : decode prog_4_method_10_code 32 = .ok (.iload_n 2, 1) := q_tb t_Se_lookBack 16 rfl
theorem d_Se_lookBack_33 : decode prog_4_method_10_code 33 = .ok (.iaload, 1) := q_tb t_Se_lookBack 17 rfl
theorem d_Se_lookBack_34 : decode prog_4_method_10_code 34 = .ok (.istore_n 3, 1) := q_tb t_Se_lookBack 18 rfl
theorem d_Se_lookBack_35 : decode prog_4_method_10_code 35 = .ok (.iload_n 3, 1) := q_tb t_Se_lookBack 19 rfl
theorem d_Se_lookBack_36 : decode prog_4_method_10_code 36 = .ok (.ifCond .eq 10, 3) := q_tb t_Se_lookBack 20 rfl
theorem d_Se_lookBack_39 : decode prog_4_method_10_code 39 = .ok (.aload_n 0, 1) := q_tb t_Se_lookBack 21 rfl
theorem d_Se_lookBack_40 : decode prog_4_method_10_code 40 = .ok (.iload_n 1, 1) := q_tb t_Se_lookBack 22 rfl
theorem d_Se_lookBack_41 : decode prog_4_method_10_code 41 = .ok (.iload_n 2, 1) := q_tb t_Se_lookBack 23 rfl
theorem d_Se_lookBack_42 : decode prog_4_method_10_code 42 = .ok (.iload_n 3, 1) := q_tb t_Se_lookBack 24 rfl
theorem d_Se_lookBack_43 : decode prog_4_method_10_code 43 = .ok (.invokevirtual 151, 3) := q_tb t_Se_lookBack 25 rfl
theorem d_Se_lookBack_46 : decode prog_4_method_10_code 46 = .ok (.iinc 2 1, 3) := q_tb t_Se_lookBack 26 rfl
theorem d_Se_lookBack_49 : decode prog_4_method_10_code 49 = .ok (.goto (-35), 3) := q_tb t_Se_lookBack 27 rfl
theorem d_Se_lookBack_52 : decode prog_4_method_10_code 52 = .ok (.return_, 1) := q_tb t_Se_lookBack 28 rfl
def T_Se_undoAct0 : List (Nat × Instr × Nat) := [(0, .aload_n 0, 1), (1, .getfield 41, 3), (4, .getfield 110, 3), (7, .iload_n 2, 1), (8, .aaload, 1), (9, .astore 4, 2), (11, .aload 4, 2), (13, .getfield 138, 3), (16, .iload_n 3, 1), (17, .iaload, 1), (18, .istore 5, 2), (20, .aload_n 0, 1), (21, .getfield 30, 3), (24, .getfield 145, 3), (27, .iload 5, 2), (29, .iaload, 1), (30, .istore 6, 2), (32, .aload_n 0, 1), (33, .getfield 41, 3), (36, .getfield 104, 3), (39, .iload 5, 2), (41, .iaload, 1), (42, .istore 7, 2), (44, .iconst 0, 1), (45, .istore 8, 2), (47, .iload 8, 2), (49, .iload 7, 2), (51, .if_icmp .ge 45, 3), (54, .aload 4, 2), (56, .iload_n 3, 1), (57, .iload 8, 2), (59, .iload 7, 2), (61, .invokevirtual 154, 3), (64, .iload 6, 2), (66, .if_icmp .ne 24, 3), (69, .aload_n 0, 1), (70, .iload_n 1, 1), (71, .iload 8, 2), (73, .iload 6, 2), (75, .isub, 1)]
set_option maxRecDepth 100000 in
theorem t_Se_undoAct0 : ∀ q ∈ T_Se_undoAct0, decode prog_4_method_11_code q.1 = .ok q.2 := by decide +kernel
theorem d_Se_undoAct_0 : decode prog_4_method_11_code 0 = .ok (.aload_n 0, 1) := q_tb t_Se_undoAct0 0 rfl
theorem d_Se_undoAct_1 : decode prog_4_method_11_code 1 = .ok (.getfield 41, 3) := q_tb t_Se_undoAct0 1 rfl
theorem d_Se_undoAct_4 : decode prog_4_method_11_code 4 = .ok (.getfield 110, 3) := q_tb t_Se_undoAct0 2 rfl
theorem d_Se_undoAct_7 : decode prog_4_method_11_code 7 = .ok (.iload_n 2, 1) := q_tb t_Se_undoAct0 3 rfl
theorem d_Se_undoAct_8 : decode prog_4_method_11_code 8 = .ok (.aaload, 1) := q_tb t_Se_undoAct0 4 rfl
theorem d_Se_undoAct_9 : decode prog_4_method_11_code 9 = .ok (.astore 4, 2) := q_tb t_Se_undoAct0 5 rfl
theorem d_Se_undoAct_11 : decode prog_4_method_11_code 11 = .ok (.aload 4, 2) := q_tb t_Se_undoAct0 6 rfl
theorem d_Se_undoAct_13 : decode prog_4_method_11_code 13 = .ok (.getfield 138, 3) := q_tb t_Se_undoAct0 7 rfl
theorem d_Se_undoAct_16 : decode prog_4_method_11_code 16 = .ok (.iload_n 3, 1) := q_tb t_Se_undoAct0 8 rfl
theorem d_Se_undoAct_17 : decode prog_4_method_11_code 17 = .ok (.iaload, 1) := q_tb t_Se_undoAct0 9 rfl
theorem d_Se_undoAct_18 : decode prog_4_method_11_code 18 = .ok (.istore 5, 2) := q_tb t_Se_undoAct0 10 rfl
theorem d_Se_undoAct_20 : decode prog_4_method_11_code 20 = .ok (.aload_n 0, 1) := q_tb t_Se_undoAct0 11 rfl
theorem d_Se_undoAct_21 : decode prog_4_method_11_code 21 = .ok (.getfield 30, 3) := q_tb t_Se_undoAct0 12 rfl
theorem d_Se_undoAct_24 : decode prog_4_method_11_code 24 = .ok (.getfield 145, 3) := q_tb t_Se_undoAct0 13 rfl
theorem d_Se_undoAct_27 : decode prog_4_method_11_code 27 = .ok (.iload 5, 2) := q_tb t_Se_undoAct0 14 rfl
theorem d_Se_undoAct_29 : decode prog_4_method_11_code 29 = .ok (.iaload, 1) := q_tb t_Se_undoAct0 15 rfl
theorem d_Se_undoAct_30 : decode prog_4_method_11_code 30 = .ok (.istore 6, 2) := q_tb t_Se_undoAct0 16 rfl
theorem d_Se_undoAct_32 : decode prog_4_method_11_code 32 = .ok (.aload_n 0, 1) := q_tb t_Se_undoAct0 17 rfl
theorem d_Se_undoAct_33 : decode prog_4_method_11_code 33 = .ok (.getfield 41, 3) := q_tb t_Se_undoAct0 18 rfl
theorem d_Se_undoAct_36 : decode prog_4_method_11_code 36 = .ok (.getfield 104, 3) := q_tb t_Se_undoAct0 19 rfl
theorem d_Se_undoAct_39 : decode prog_4_method_11_code 39 = .ok (.iload 5, 2) := q_tb t_Se_undoAct0 20 rfl
theorem d_Se_undoAct_41 : decode prog_4_method_11_code 41 = .ok (.iaload, 1) := q_tb t_Se_undoAct0 21 rfl
theorem d_Se_undoAct_42 : decode prog_4_method_11_code 42 = .ok (.istore 7, 2) := q_tb t_Se_undoAct0 22 rfl
theorem d_Se_undoAct_44 : decode prog_4_method_11_code 44 = .ok (.iconst 0, 1) := q_tb t_Se_undoAct0 23 rfl
theorem d_Se_undoAct_45 : decode prog_4_method_11_code 45 = .ok (.istore 8, 2) := q_tb t_Se_undoAct0 24 rfl
theorem d_Se_undoAct_47 : decode prog_4_method_11_code 47 = .ok (.iload 8, 2) := q_tb t_Se_undoAct0 25 rfl
theorem d_Se_undoAct_49 : decode prog_4_method_11_code 49 = .ok (.iload 7, 2) := q_tb t_Se_undoAct0 26 rfl
theorem d_Se_undoAct_51 : decode prog_4_method_11_code 51 = .ok (.if_icmp .ge 45, 3) := q_tb t_Se_undoAct0 27 rfl
theorem d_Se_undoAct_54 : decode prog_4_method_11_code 54 = .ok (.aload 4, 2) := q_tb t_Se_undoAct0 28 rfl
theorem d_Se_undoAct_56 : decode prog_4_method_11_code 56 = .ok (.iload_n 3, 1) := q_tb t_Se_undoAct0 29 rfl
theorem d_Se_undoAct_57 : decode prog_4_method_11_code 57 = .ok (.iload 8, 2) := q_tb t_Se_undoAct0 30 rfl
theorem d_Se_undoAct_59 : decode prog_4_method_11_code 59 = .ok (.iload 7, 2) := q_tb t_Se_undoAct0 31 rfl
theorem d_Se_undoAct_61 : decode prog_4_method_11_code 61 = .ok (.invokevirtual 154, 3) := q_tb t_Se_undoAct0 32 rfl
theorem d_Se_undoAct_64 : decode prog_4_method_11_code 64 = .ok (.iload 6, 2) := q_tb t_Se_undoAct0 33 rfl
theorem d_Se_undoAct_66 : decode prog_4_method_11_code 66 = .ok (.if_icmp .ne 24, 3) := q_tb t_Se_undoAct0 34 rfl
theorem d_Se_undoAct_69 : decode prog_4_method_11_code 69 = .ok (.aload_n 0, 1) := q_tb t_Se_undoAct0 35 rfl
theorem d_Se_undoAct_70 : decode prog_4_method_11_code 70 = .ok (.iload_n 1, 1) := q_tb t_Se_undoAct0 36 rfl
theorem d_Se_undoAct_71 : decode prog_4_method_11_code 71 = .ok (.iload 8, 2) := q_tb t_Se_undoAct0 37 rfl
theorem d_Se_undoAct_73 : decode prog_4_method_11_code 73 = .ok (.iload 6, 2) := q_tb t_Se_undoAct0 38 rfl
theorem d_Se_undoAct_75 : decode prog_4_method_11_code 75 = .ok (.isub, 1) := q_tb t_Se_undoAct0 39 rfl
def T_Se_undoAct1 : List (Nat × Instr × Nat) := [(76, .aload_n 0, 1), (77, .getfield 38, 3), (80, .iload 5, 2), (82, .iaload, 1), (83, .imul, 1), (84, .iadd, 1), (85, .iload_n 2, 1), (86, .iload_n 3, 1), (87, .invokevirtual 157, 3), (90, .iinc 8 1, 3), (93, .goto (-46), 3), (96, .return_, 1)]
set_option maxRecDepth 100000 in
theorem t_Se_undoAct1 : ∀ q ∈ T_Se_undoAct1, decode prog_4_method_11_code q.1 = .ok q.2 := by decide +kernel
theorem d_Se_undoAct_76 : decode prog_4_method_11_code 76 = .ok (.aload_n 0, 1) := q_tb t_Se_undoAct1 0 rfl
theorem d_Se_undoAct_77 : decode prog_4_method_11_code 77 = .ok (.getfield 38, 3) := q_tb t_Se_undoAct1 1 rfl
theorem d_Se_undoAct_80 : decode prog_4_method_11_code 80 = .ok (.iload 5, 2) := q_tb t_Se_undoAct1 2 rfl
theorem d_Se_undoAct_82 : decode prog_4_method_11_code 82 = .ok (.iaload, 1) := q_tb t_Se_undoAct1 3 rfl
theorem d_Se_undoAct_83 : decode prog_4_method_11_code 83 = .ok (.imul, 1) := q_tb t_Se_undoAct1 4 rfl
theorem d_Se_undoAct_84 : decode prog_4_method_11_code 84 = .ok (.iadd, 1) := q_tb t_Se_undoAct1 5 rfl
theorem d_Se_undoAct_85 : decode prog_4_method_11_code 85 = .ok (.iload_n 2, 1) := q_tb t_Se_undoAct1 6 rfl
theorem d_Se_undoAct_86 : decode prog_4_method_11_code 86 = .ok (.iload_n 3, 1) := q_tb t_Se_undoAct1 7 rfl
theorem d_Se_undoAct_87 : decode prog_4_method_11_code 87 = .ok (.invokevirtual 157, 3) := q_tb t_Se_undoAct1 8 rfl
theorem d_Se_undoAct_90 : decode prog_4_method_11_code 90 = .ok (.iinc 8 1, 3) := q_tb t_Se_undoAct1 9 rfl
theorem d_Se_undoAct_93 : decode prog_4_method_11_code 93 = .ok (.goto (-46), 3) := q_tb t_Se_undoAct1 10 rfl
theorem d_Se_undoAct_96 : decode prog_4_method_11_code 96 = .ok (.return_, 1) := q_tb t_Se_undoAct1 11 rfl
def T_Se_undoStep : List (Nat × Instr × Nat) := [(0, .aload_n 0, 1), (1, .getfield 41, 3), (4, .getfield 110, 3), (7, .iload_n 2, 1), (8, .aaload, 1), (9, .astore 4, 2), (11, .iconst 0, 1), (12, .istore 5, 2), (14, .iload 5, 2), (16, .aload 4, 2), (18, .getfield 114, 3), (21, .if_icmp .ge 41, 3), (24, .aload 4, 2), (26, .getfield 160, 3), (29, .iload 5, 2), (31, .iaload, 1), (32, .iload_n 3, 1), (33, .ishr, 1), (34, .iconst 1, 1), (35, .iand, 1), (36, .ifCond .eq 20, 3), (39, .aload_n 0, 1), (40, .iload_n 1, 1), (41, .iload 5, 2), (43, .iload_n 3, 1), (44, .isub, 1), (45, .aload_n 0, 1), (46, .getfield 34, 3), (49, .iload_n 2, 1), (50, .iaload, 1), (51, .imul, 1), (52, .iadd, 1), (53, .invokevirtual 163, 3), (56, .iinc 5 1, 3), (59, .goto (-45), 3), (62, .return_, 1)]
set_option maxRecDepth 100000 in
theorem t_Se_undoStep : ∀ q ∈ T_Se_undoStep, decode prog_4_method_12_code q.1 = .ok q.2 := by decide +kernel
theorem d_Se_undoStep_0 : decode prog_4_method_12_code 0 = .ok (.aload_n 0, 1) := q_tb t_Se_undoStep 0 rfl
theorem d_Se_undoStep_1 : decode prog_4_method_12_code 1 = .ok (.getfield 41, 3) := q_tb t_Se_undoStep 1 rfl
theorem d_Se_undoStep_4 : decode prog_4_method_12_code 4 = .ok (.getfield 110, 3) := q_tb t_Se_undoStep 2 rfl
theorem d_Se_undoStep_7 : decode prog_4_method_12_code 7 = .ok (.iload_n 2, 1) := q_tb t_Se_undoStep 3 rfl
theorem d_Se_undoStep_8 : decode prog_4_method_12_code 8 = .ok (.aaload, 1) := q_tb t_Se_undoStep 4 rfl
theorem d_Se_undoStep_9 : decode prog_4_method_12_code 9 = .ok (.astore 4, 2) := q_tb t_Se_undoStep 5 rfl
theorem d_Se_undoStep_11 : decode prog_4_method_12_code 11 = .ok (.iconst 0, 1) := q_tb t_Se_undoStep 6 rfl
theorem d_Se_undoStep_12 : decode prog_4_method_12_code 12 = .ok (.istore 5, 2) := q_tb t_Se_undoStep 7 rfl
theorem d_Se_undoStep_14 : decode prog_4_method_12_code 14 = .ok (.iload 5, 2) := q_tb t_Se_undoStep 8 rfl
theorem d_Se_undoStep_16 : decode prog_4_method_12_code 16 = .ok (.aload 4, 2) := q_tb t_Se_undoStep 9 rfl
theorem d_Se_undoStep_18 : decode prog_4_method_12_code 18 = .ok (.getfield 114, 3) := q_tb t_Se_undoStep 10 rfl
theorem d_Se_undoStep_21 : decode prog_4_method_12_code 21 = .ok (.if_icmp .ge 41, 3) := q_tb t_Se_undoStep 11 rfl
theorem d_Se_undoStep_24 : decode prog_4_method_12_code 24 = .ok (.aload 4, 2) := q_tb t_Se_undoStep 12 rfl
theorem d_Se_undoStep_26 : decode prog_4_method_12_code 26 = .ok (.getfield 160, 3) := q_tb t_Se_undoStep 13 rfl
theorem d_Se_undoStep_29 : decode prog_4_method_12_code 29 = .ok (.iload 5, 2) := q_tb t_Se_undoStep 14 rfl
theorem d_Se_undoStep_31 : decode prog_4_method_12_code 31 = .ok (.iaload, 1) := q_tb t_Se_undoStep 15 rfl
theorem d_Se_undoStep_32 : decode prog_4_method_12_code 32 = .ok (.iload_n 3, 1) := q_tb t_Se_undoStep 16 rfl
theorem d_Se_undoStep_33 : decode prog_4_method_12_code 33 = .ok (.ishr, 1) := q_tb t_Se_undoStep 17 rfl
theorem d_Se_undoStep_34 : decode prog_4_method_12_code 34 = .ok (.iconst 1, 1) := q_tb t_Se_undoStep 18 rfl
theorem d_Se_undoStep_35 : decode prog_4_method_12_code 35 = .ok (.iand, 1) := q_tb t_Se_undoStep 19 rfl
theorem d_Se_undoStep_36 : decode prog_4_method_12_code 36 = .ok (.ifCond .eq 20, 3) := q_tb t_Se_undoStep 20 rfl
theorem d_Se_undoStep_39 : decode prog_4_method_12_code 39 = .ok (.aload_n 0, 1) := q_tb t_Se_undoStep 21 rfl
theorem d_Se_undoStep_40 : decode prog_4_method_12_code 40 = .ok (.iload_n 1, 1) := q_tb t_Se_undoStep 22 rfl
theorem d_Se_undoStep_41 : decode prog_4_method_12_code 41 = .ok (.iload 5, 2) := q_tb t_Se_undoStep 23 rfl
theorem d_Se_undoStep_43 : decode prog_4_method_12_code 43 = .ok (.iload_n 3, 1) := q_tb t_Se_undoStep 24 rfl
theorem d_Se_undoStep_44 : decode prog_4_method_12_code 44 = .ok (.isub, 1) := q_tb t_Se_undoStep 25 rfl
theorem d_Se_undoStep_45 : decode prog_4_method_12_code 45 = .ok (.aload_n 0, 1) := q_tb t_Se_undoStep 26 rfl
theorem d_Se_undoStep_46 : decode prog_4_method_12_code 46 = .ok (.getfield 34, 3) := q_tb t_Se_undoStep 27 rfl
theorem d_Se_undoStep_49 : decode prog_4_method_12_code 49 = .ok (.iload_n 2, 1) := q_tb t_Se_undoStep 28 rfl
theorem d_Se_undoStep_50 : decode prog_4_method_12_code 50 = .ok (.iaload, 1) := q_tb t_Se_undoStep 29 rfl
theorem d_Se_undoStep_51 : decode prog_4_method_12_code 51 = .ok (.imul, 1) := q_tb t_Se_undoStep 30 rfl
theorem d_Se_undoStep_52 : decode prog_4_method_12_code 52 = .ok (.iadd, 1) := q_tb t_Se_undoStep 31 rfl
theorem d_Se_undoStep_53 : decode prog_4_method_12_code 53 = .ok (.invokevirtual 163, 3) := q_tb t_Se_undoStep 32 rfl
theorem d_Se_undoStep_56 : decode prog_4_method_12_code 56 = .ok (.iinc 5 1, 3) := q_tb t_Se_undoStep 33 rfl
theorem d_Se_undoStep_59 : decode prog_4_method_12_code 59 = .ok (.goto (-45), 3) := q_tb t_Se_undoStep 34 rfl
theorem d_Se_undoStep_62 : decode prog_4_method_12_code 62 = .ok (.return_, 1) := q_tb t_Se_undoStep 35 rfl
def T_Se_fall : List (Nat × Instr × Nat) := [(0, .aload_n 0, 1), (1, .getfield 12, 3), (4, .iload_n 1, 1), (5, .invokevirtual 119, 3), (8, .ifCond .eq 30, 3), (11, .aload_n 0, 1), (12, .getfield 21, 3), (15, .iload_n 1, 1), (16, .invokevirtual 119, 3), (19, .ifCond .ne 19, 3), (22, .aload_n 0, 1), (23, .getfield 21, 3), (26, .iload_n 1, 1), (27, .invokevirtual 123, 3), (30, .aload_n 0, 1), (31, .getfield 24, 3), (34, .iload_n 1, 1), (35, .invokevirtual 123, 3), (38, .return_, 1)]
set_option maxRecDepth 100000 in
theorem t_Se_fall : ∀ q ∈ T_Se_fall, decode prog_4_method_13_code q.1 = .ok q.2 := by decide +kernel
theorem d_Se_fall_0 : decode prog_4_method_13_code 0 = .ok (.aload_n 0, 1) := q_tb t_Se_fall 0 rfl
theorem d_Se_fall_1 : decode prog_4_method_13_code 1 = .ok (.getfield 12, 3) := q_tb t_Se_fall 1 rfl
theorem d_Se_fall_4 : decode prog_4_method_13_code 4 = .ok (.iload_n 1, 1) := q_tb t_Se_fall 2 rfl
theorem d_Se_fall_5 : decode prog_4_method_13_code 5 = .ok (.invokevirtual 119, 3) := q_tb t_Se_fall 3 rfl
theorem d_Se_fall_8 : decode prog_4_method_13_code 8 = .ok (.ifCond .eq 30, 3) := q_tb t_Se_fall 4 rfl
theorem d_Se_fall_11 : decode prog_4_method_13_code 11 = .ok (.aload_n 0, 1) := q_tb t_Se_fall 5 rfl
theorem d_Se_fall_12 : decode prog_4_method_13_code 12 = .ok (.getfield 21, 3) := q_tb t_Se_fall 6 rfl
theorem d_Se_fall_15 : decode prog_4_method_13_code 15 = .ok (.iload_n 1, 1) := q_tb t_Se_fall 7 rfl
theorem d_Se_fall_16 : decode prog_4_method_13_code 16 = .ok (.invokevirtual 119, 3) := q_tb t_Se_fall 8 rfl
theorem d_Se_fall_19 : decode prog_4_method_13_code 19 = .ok (.ifCond .ne 19, 3) := q_tb t_Se_fall 9 rfl
theorem d_Se_fall_22 : decode prog_4_method_13_code 22 = .ok (.aload_n 0, 1) := q_tb t_Se_fall 10 rfl
theorem d_Se_fall_23 : decode prog_4_method_13_code 23 = .ok (.getfield 21, 3) := q_tb t_Se_fall 11 rfl
theorem d_Se_fall_26 : decode prog_4_method_13_code 26 = .ok (.iload_n 1, 1) := q_tb t_Se_fall 12 rfl
theorem d_Se_fall_27 : decode prog_4_method_13_code 27 = .ok (.invokevirtual 123, 3) := q_tb t_Se_fall 13 rfl
theorem d_Se_fall_30 : decode prog_4_method_13_code 30 = .ok (.aload_n 0, 1) := q_tb t_Se_fall 14 rfl
theorem d_Se_fall_31 : decode prog_4_method_13_code 31 = .ok (.getfield 24, 3) := q_tb t_Se_fall 15 rfl
theorem d_Se_fall_34 : decode prog_4_method_13_code 34 = .ok (.iload_n 1, 1) := q_tb t_Se_fall 16 rfl
theorem d_Se_fall_35 : decode prog_4_method_13_code 35 = .ok (.invokevirtual 123, 3) := q_tb t_Se_fall 17 rfl
theorem d_Se_fall_38 : decode prog_4_method_13_code 38 = .ok (.return_, 1) := q_tb t_Se_fall 18 rfl
end NAMES3
