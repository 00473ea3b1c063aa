/-! names, 3c: decode tables, printed by gen/names2.py -/
section NAMES3
def T_S_init : List (Nat × Instr × Nat) := [(0, .aload_n 0, 1), (1, .invokespecial 1, 3), (4, .aload_n 0, 1), (5, .new 7, 3), (8, .dup, 1), (9, .invokespecial 9, 3), (12, .putfield 10, 3), (15, .aload_n 0, 1), (16, .new 16, 3), (19, .dup, 1), (20, .invokespecial 18, 3), (23, .putfield 19, 3), (26, .aload_n 0, 1), (27, .new 23, 3), (30, .dup, 1), (31, .aload_n 0, 1), (32, .getfield 10, 3), (35, .aload_n 0, 1), (36, .getfield 19, 3), (39, .invokespecial 25, 3), (42, .putfield 28, 3), (45, .aload_n 0, 1), (46, .new 32, 3), (49, .dup, 1), (50, .aload_n 0, 1), (51, .getfield 19, 3), (54, .invokespecial 34, 3), (57, .putfield 37, 3), (60, .aload_n 0, 1), (61, .new 41, 3), (64, .dup, 1), (65, .invokespecial 43, 3), (68, .putfield 44, 3), (71, .return_, 1)]
set_option maxRecDepth 100000 in
theorem t_S_init : ∀ q ∈ T_S_init, decode prog_1_method_1_code q.1 = .ok q.2 := by decide +kernel
theorem d_S_init_0 : decode prog_1_method_1_code 0 = .ok (.aload_n 0, 1) := q_tb t_S_init 0 rfl
theorem d_S_init_1 : decode prog_1_method_1_code 1 = .ok (.invokespecial 1, 3) := q_tb t_S_init 1 rfl
theorem d_S_init_4 : decode prog_1_method_1_code 4 = .ok (.aload_n 0, 1) := q_tb t_S_init 2 rfl
theorem d_S_init_5 : decode prog_1_method_1_code 5 = .ok (.new 7, 3) := q_tb t_S_init 3 rfl
theorem d_S_init_8 : decode prog_1_method_1_code 8 = .ok (.dup, 1) := q_tb t_S_init 4 rfl
theorem d_S_init_9 : decode prog_1_method_1_code 9 = .ok (.invokespecial 9, 3) := q_tb t_S_init 5 rfl
theorem d_S_init_12 : decode prog_1_method_1_code 12 = .ok (.putfield 10, 3) := q_tb t_S_init 6 rfl
theorem d_S_init_15 : decode prog_1_method_1_code 15 = .ok (.aload_n 0, 1) := q_tb t_S_init 7 rfl
theorem d_S_init_16 : decode prog_1_method_1_code 16 = .ok (.new 16, 3) := q_tb t_S_init 8 rfl
theorem d_S_init_19 : decode prog_1_method_1_code 19 = .ok (.dup, 1) := q_tb t_S_init 9 rfl
theorem d_S_init_20 : decode prog_1_method_1_code 20 = .ok (.invokespecial 18, 3) := q_tb t_S_init 10 rfl
theorem d_S_init_23 : decode prog_1_method_1_code 23 = .ok (.putfield 19, 3) := q_tb t_S_init 11 rfl
theorem d_S_init_26 : decode prog_1_method_1_code 26 = .ok (.aload_n 0, 1) := q_tb t_S_init 12 rfl
theorem d_S_init_27 : decode prog_1_method_1_code 27 = .ok (.new 23, 3) := q_tb t_S_init 13 rfl
theorem d_S_init_30 : decode prog_1_method_1_code 30 = .ok (.dup, 1) := q_tb t_S_init 14 rfl
theorem d_S_init_31 : decode prog_1_method_1_code 31 = .ok (.aload_n 0, 1) := q_tb t_S_init 15 rfl
theorem d_S_init_32 : decode prog_1_method_1_code 32 = .ok (.getfield 10, 3) := q_tb t_S_init 16 rfl
theorem d_S_init_35 : decode prog_1_method_1_code 35 = .ok (.aload_n 0, 1) := q_tb t_S_init 17 rfl
theorem d_S_init_36 : decode prog_1_method_1_code 36 = .ok (.getfield 19, 3) := q_tb t_S_init 18 rfl
theorem d_S_init_39 : decode prog_1_method_1_code 39 = .ok (.invokespecial 25, 3) := q_tb t_S_init 19 rfl
theorem d_S_init_42 : decode prog_1_method_1_code 42 = .ok (.putfield 28, 3) := q_tb t_S_init 20 rfl
theorem d_S_init_45 : decode prog_1_method_1_code 45 = .ok (.aload_n 0, 1) := q_tb t_S_init 21 rfl
theorem d_S_init_46 : decode prog_1_method_1_code 46 = .ok (.new 32, 3) := q_tb t_S_init 22 rfl
theorem d_S_init_49 : decode prog_1_method_1_code 49 = .ok (.dup, 1) := q_tb t_S_init 23 rfl
theorem d_S_init_50 : decode prog_1_method_1_code 50 = .ok (.aload_n 0, 1) := q_tb t_S_init 24 rfl
theorem d_S_init_51 : decode prog_1_method_1_code 51 = .ok (.getfield 19, 3) := q_tb t_S_init 25 rfl
theorem d_S_init_54 : decode prog_1_method_1_code 54 = .ok (.invokespecial 34, 3) := q_tb t_S_init 26 rfl
theorem d_S_init_57 : decode prog_1_method_1_code 57 = .ok (.putfield 37, 3) := q_tb t_S_init 27 rfl
theorem d_S_init_60 : decode prog_1_method_1_code 60 = .ok (.aload_n 0, 1) := q_tb t_S_init 28 rfl
theorem d_S_init_61 : decode prog_1_method_1_code 61 = .ok (.new 41, 3) := q_tb t_S_init 29 rfl
theorem d_S_init_64 : decode prog_1_method_1_code 64 = .ok (.dup, 1) := q_tb t_S_init 30 rfl
theorem d_S_init_65 : decode prog_1_method_1_code 65 = .ok (.invokespecial 43, 3) := q_tb t_S_init 31 rfl
theorem d_S_init_68 : decode prog_1_method_1_code 68 = .ok (.putfield 44, 3) := q_tb t_S_init 32 rfl
theorem d_S_init_71 : decode prog_1_method_1_code 71 = .ok (.return_, 1) := q_tb t_S_init 33 rfl
def T_Ar_fillI : List (Nat × Instr × Nat) := [(0, .iconst 0, 1), (1, .istore_n 2, 1), (2, .aload_n 0, 1), (3, .arraylength, 1), (4, .istore_n 3, 1), (5, .iload_n 2, 1), (6, .iload_n 3, 1), (7, .if_icmp .ge 13, 3), (10, .aload_n 0, 1), (11, .iload_n 2, 1), (12, .iload_n 1, 1), (13, .iastore, 1), (14, .iinc 2 1, 3), (17, .goto (-12), 3), (20, .return_, 1)]
set_option maxRecDepth 100000 in
theorem t_Ar_fillI : ∀ q ∈ T_Ar_fillI, decode prog_23_method_103_code q.1 = .ok q.2 := by decide +kernel
theorem d_Ar_fillI_0 : decode prog_23_method_103_code 0 = .ok (.iconst 0, 1) := q_tb t_Ar_fillI 0 rfl
theorem d_Ar_fillI_1 : decode prog_23_method_103_code 1 = .ok (.istore_n 2, 1) := q_tb t_Ar_fillI 1 rfl
theorem d_Ar_fillI_2 : decode prog_23_method_103_code 2 = .ok (.aload_n 0, 1) := q_tb t_Ar_fillI 2 rfl
theorem d_Ar_fillI_3 : decode prog_23_method_103_code 3 = .ok (.arraylength, 1) := q_tb t_Ar_fillI 3 rfl
theorem d_Ar_fillI_4 : decode prog_23_method_103_code 4 = .ok (.istore_n 3, 1) := q_tb t_Ar_fillI 4 rfl
theorem d_Ar_fillI_5 : decode prog_23_method_103_code 5 = .ok (.iload_n 2, 1) := q_tb t_Ar_fillI 5 rfl
theorem d_Ar_fillI_6 : decode prog_23_method_103_code 6 = .ok (.iload_n 3, 1) := q_tb t_Ar_fillI 6 rfl
theorem d_Ar_fillI_7 : decode prog_23_method_103_code 7 = .ok (.if_icmp .ge 13, 3) := q_tb t_Ar_fillI 7 rfl
theorem d_Ar_fillI_10 : decode prog_23_method_103_code 10 = .ok (.aload_n 0, 1) := q_tb t_Ar_fillI 8 rfl
theorem d_Ar_fillI_11 : decode prog_23_method_103_code 11 = .ok (.iload_n 2, 1) := q_tb t_Ar_fillI 9 rfl
theorem d_Ar_fillI_12 : decode prog_23_method_103_code 12 = .ok (.iload_n 1, 1) := q_tb t_Ar_fillI 10 rfl
theorem d_Ar_fillI_13 : decode prog_23_method_103_code 13 = .ok (.iastore, 1) := q_tb t_Ar_fillI 11 rfl
theorem d_Ar_fillI_14 : decode prog_23_method_103_code 14 = .ok (.iinc 2 1, 3) := q_tb t_Ar_fillI 12 rfl
theorem d_Ar_fillI_17 : decode prog_23_method_103_code 17 = .ok (.goto (-12), 3) := q_tb t_Ar_fillI 13 rfl
theorem d_Ar_fillI_20 : decode prog_23_method_103_code 20 = .ok (.return_, 1) := q_tb t_Ar_fillI 14 rfl
def T_S_wipe : List (Nat × Instr × Nat) := [(0, .aload_n 0, 1), (1, .getfield 10, 3), (4, .getfield 59, 3), (7, .istore_n 1, 1), (8, .aload_n 0, 1), (9, .getfield 10, 3), (12, .iconst 0, 1), (13, .putfield 59, 3), (16, .iload_n 1, 1), (17, .ireturn, 1)]
set_option maxRecDepth 100000 in
theorem t_S_wipe : ∀ q ∈ T_S_wipe, decode prog_1_method_3_code q.1 = .ok q.2 := by decide +kernel
theorem d_S_wipe_0 : decode prog_1_method_3_code 0 = .ok (.aload_n 0, 1) := q_tb t_S_wipe 0 rfl
theorem d_S_wipe_1 : decode prog_1_method_3_code 1 = .ok (.getfield 10, 3) := q_tb t_S_wipe 1 rfl
theorem d_S_wipe_4 : decode prog_1_method_3_code 4 = .ok (.getfield 59, 3) := q_tb t_S_wipe 2 rfl
theorem d_S_wipe_7 : decode prog_1_method_3_code 7 = .ok (.istore_n 1, 1) := q_tb t_S_wipe 3 rfl
theorem d_S_wipe_8 : decode prog_1_method_3_code 8 = .ok (.aload_n 0, 1) := q_tb t_S_wipe 4 rfl
theorem d_S_wipe_9 : decode prog_1_method_3_code 9 = .ok (.getfield 10, 3) := q_tb t_S_wipe 5 rfl
theorem d_S_wipe_12 : decode prog_1_method_3_code 12 = .ok (.iconst 0, 1) := q_tb t_S_wipe 6 rfl
theorem d_S_wipe_13 : decode prog_1_method_3_code 13 = .ok (.putfield 59, 3) := q_tb t_S_wipe 7 rfl
theorem d_S_wipe_16 : decode prog_1_method_3_code 16 = .ok (.iload_n 1, 1) := q_tb t_S_wipe 8 rfl
theorem d_S_wipe_17 : decode prog_1_method_3_code 17 = .ok (.ireturn, 1) := q_tb t_S_wipe 9 rfl
def T_S_process : List (Nat × Instr × Nat) := [(0, .aload_n 0, 1), (1, .getfield 19, 3), (4, .getfield 75, 3), (7, .bipush 6, 2), (9, .if_icmp .lt 5, 3), (12, .iconst (-1), 1), (13, .ireturn, 1), (14, .aload_n 0, 1), (15, .getfield 28, 3), (18, .aload_n 0, 1), (19, .getfield 19, 3), (22, .getfield 78, 3), (25, .aload_n 0, 1), (26, .getfield 19, 3), (29, .getfield 75, 3), (32, .aaload, 1), (33, .invokevirtual 82, 3), (36, .ifCond .ne 5, 3), (39, .iconst (-1), 1), (40, .ireturn, 1), (41, .aload_n 0, 1), (42, .getfield 19, 3), (45, .dup, 1), (46, .getfield 75, 3), (49, .iconst 1, 1), (50, .iadd, 1), (51, .putfield 75, 3), (54, .aload_n 0, 1), (55, .invokevirtual 72, 3), (58, .aload_n 0, 1), (59, .getfield 19, 3), (62, .getfield 75, 3), (65, .iconst 1, 1), (66, .isub, 1), (67, .ireturn, 1)]
set_option maxRecDepth 100000 in
theorem t_S_process : ∀ q ∈ T_S_process, decode prog_1_method_5_code q.1 = .ok q.2 := by decide +kernel
theorem d_S_process_0 : decode prog_1_method_5_code 0 = .ok (.aload_n 0, 1) := q_tb t_S_process 0 rfl
theorem d_S_process_1 : decode prog_1_method_5_code 1 = .ok (.getfield 19, 3) := q_tb t_S_process 1 rfl
theorem d_S_process_4 : decode prog_1_method_5_code 4 = .ok (.getfield 75, 3) := q_tb t_S_process 2 rfl
theorem d_S_process_7 : decode prog_1_method_5_code 7 = .ok (.bipush 6, 2) := q_tb t_S_process 3 rfl
theorem d_S_process_9 : decode prog_1_method_5_code 9 = .ok (.if_icmp .lt 5, 3) := q_tb t_S_process 4 rfl
theorem d_S_process_12 : decode prog_1_method_5_code 12 = .ok (.iconst (-1), 1) := q_tb t_S_process 5 rfl
theorem d_S_process_13 : decode prog_1_method_5_code 13 = .ok (.ireturn, 1) := q_tb t_S_process 6 rfl
theorem d_S_process_14 : decode prog_1_method_5_code 14 = .ok (.aload_n 0, 1) := q_tb t_S_process 7 rfl
theorem d_S_process_15 : decode prog_1_method_5_code 15 = .ok (.getfield 28, 3) := q_tb t_S_process 8 rfl
theorem d_S_process_18 : decode prog_1_method_5_code 18 = .ok (.aload_n 0, 1) := q_tb t_S_process 9 rfl
theorem d_S_process_19 : decode prog_1_method_5_code 19 = .ok (.getfield 19, 3) := q_tb t_S_process 10 rfl
theorem d_S_process_22 : decode prog_1_method_5_code 22 = .ok (.getfield 78, 3) := q_tb t_S_process 11 rfl
theorem d_S_process_25 : decode prog_1_method_5_code 25 = .ok (.aload_n 0, 1) := q_tb t_S_process 12 rfl
theorem d_S_process_26 : decode prog_1_method_5_code 26 = .ok (.getfield 19, 3) := q_tb t_S_process 13 rfl
theorem d_S_process_29 : decode prog_1_method_5_code 29 = .ok (.getfield 75, 3) := q_tb t_S_process 14 rfl
theorem d_S_process_32 : decode prog_1_method_5_code 32 = .ok (.aaload, 1) := q_tb t_S_process 15 rfl
theorem d_S_process_33 : decode prog_1_method_5_code 33 = .ok (.invokevirtual 82, 3) := q_tb t_S_process 16 rfl
theorem d_S_process_36 : decode prog_1_method_5_code 36 = .ok (.ifCond .ne 5, 3) := q_tb t_S_process 17 rfl
theorem d_S_process_39 : decode prog_1_method_5_code 39 = .ok (.iconst (-1), 1) := q_tb t_S_process 18 rfl
theorem d_S_process_40 : decode prog_1_method_5_code 40 = .ok (.ireturn, 1) := q_tb t_S_process 19 rfl
theorem d_S_process_41 : decode prog_1_method_5_code 41 = .ok (.aload_n 0, 1) := q_tb t_S_process 20 rfl
theorem d_S_process_42 : decode prog_1_method_5_code 42 = .ok (.getfield 19, 3) := q_tb t_S_process 21 rfl
theorem d_S_process_45 : decode prog_1_method_5_code 45 = .ok (.dup, 1) := q_tb t_S_process 22 rfl
theorem d_S_process_46 : decode prog_1_method_5_code 46 = .ok (.getfield 75, 3) := q_tb t_S_process 23 rfl
theorem d_S_process_49 : decode prog_1_method_5_code 49 = .ok (.iconst 1, 1) := q_tb t_S_process 24 rfl
theorem d_S_process_50 : decode prog_1_method_5_code 50 = .ok (.iadd, 1) := q_tb t_S_process 25 rfl
theorem d_S_process_51 : decode prog_1_method_5_code 51 = .ok (.putfield 75, 3) := q_tb t_S_process 26 rfl
theorem d_S_process_54 : decode prog_1_method_5_code 54 = .ok (.aload_n 0, 1) := q_tb t_S_process 27 rfl
theorem d_S_process_55 : decode prog_1_method_5_code 55 = .ok (.invokevirtual 72, 3) := q_tb t_S_process 28 rfl
theorem d_S_process_58 : decode prog_1_method_5_code 58 = .ok (.aload_n 0, 1) := q_tb t_S_process 29 rfl
theorem d_S_process_59 : decode prog_1_method_5_code 59 = .ok (.getfield 19, 3) := q_tb t_S_process 30 rfl
theorem d_S_process_62 : decode prog_1_method_5_code 62 = .ok (.getfield 75, 3) := q_tb t_S_process 31 rfl
theorem d_S_process_65 : decode prog_1_method_5_code 65 = .ok (.iconst 1, 1) := q_tb t_S_process 32 rfl
theorem d_S_process_66 : decode prog_1_method_5_code 66 = .ok (.isub, 1) := q_tb t_S_process 33 rfl
theorem d_S_process_67 : decode prog_1_method_5_code 67 = .ok (.ireturn, 1) := q_tb t_S_process 34 rfl
def T_S_beginAnew : List (Nat × Instr × Nat) := [(0, .aload_n 0, 1), (1, .getfield 37, 3), (4, .invokevirtual 189, 3), (7, .aload_n 0, 1), (8, .invokevirtual 169, 3), (11, .return_, 1)]
set_option maxRecDepth 100000 in
theorem t_S_beginAnew : ∀ q ∈ T_S_beginAnew, decode prog_1_method_21_code q.1 = .ok q.2 := by decide +kernel
theorem d_S_beginAnew_0 : decode prog_1_method_21_code 0 = .ok (.aload_n 0, 1) := q_tb t_S_beginAnew 0 rfl
theorem d_S_beginAnew_1 : decode prog_1_method_21_code 1 = .ok (.getfield 37, 3) := q_tb t_S_beginAnew 1 rfl
theorem d_S_beginAnew_4 : decode prog_1_method_21_code 4 = .ok (.invokevirtual 189, 3) := q_tb t_S_beginAnew 2 rfl
theorem d_S_beginAnew_7 : decode prog_1_method_21_code 7 = .ok (.aload_n 0, 1) := q_tb t_S_beginAnew 3 rfl
theorem d_S_beginAnew_8 : decode prog_1_method_21_code 8 = .ok (.invokevirtual 169, 3) := q_tb t_S_beginAnew 4 rfl
theorem d_S_beginAnew_11 : decode prog_1_method_21_code 11 = .ok (.return_, 1) := q_tb t_S_beginAnew 5 rfl
def T_S_returnToFirst : List (Nat × Instr × Nat) := [(0, .aload_n 0, 1), (1, .getfield 19, 3), (4, .aload_n 0, 1), (5, .getfield 44, 3), (8, .invokevirtual 192, 3), (11, .aload_n 0, 1), (12, .iconst 0, 1), (13, .putfield 161, 3), (16, .return_, 1)]
set_option maxRecDepth 100000 in
theorem t_S_returnToFirst : ∀ q ∈ T_S_returnToFirst, decode prog_1_method_22_code q.1 = .ok q.2 := by decide +kernel
theorem d_S_returnToFirst_0 : decode prog_1_method_22_code 0 = .ok (.aload_n 0, 1) := q_tb t_S_returnToFirst 0 rfl
theorem d_S_returnToFirst_1 : decode prog_1_method_22_code 1 = .ok (.getfield 19, 3) := q_tb t_S_returnToFirst 1 rfl
theorem d_S_returnToFirst_4 : decode prog_1_method_22_code 4 = .ok (.aload_n 0, 1) := q_tb t_S_returnToFirst 2 rfl
theorem d_S_returnToFirst_5 : decode prog_1_method_22_code 5 = .ok (.getfield 44, 3) := q_tb t_S_returnToFirst 3 rfl
theorem d_S_returnToFirst_8 : decode prog_1_method_22_code 8 = .ok (.invokevirtual 192, 3) := q_tb t_S_returnToFirst 4 rfl
theorem d_S_returnToFirst_11 : decode prog_1_method_22_code 11 = .ok (.aload_n 0, 1) := q_tb t_S_returnToFirst 5 rfl
theorem d_S_returnToFirst_12 : decode prog_1_method_22_code 12 = .ok (.iconst 0, 1) := q_tb t_S_returnToFirst 6 rfl
theorem d_S_returnToFirst_13 : decode prog_1_method_22_code 13 = .ok (.putfield 161, 3) := q_tb t_S_returnToFirst 7 rfl
theorem d_S_returnToFirst_16 : decode prog_1_method_22_code 16 = .ok (.return_, 1) := q_tb t_S_returnToFirst 8 rfl
def T_S_fault : List (Nat × Instr × Nat) := [(0, .aload_n 0, 1), (1, .getfield 28, 3), (4, .getfield 86, 3), (7, .ireturn, 1)]
set_option maxRecDepth 100000 in
theorem t_S_fault : ∀ q ∈ T_S_fault, decode prog_1_method_6_code q.1 = .ok q.2 := by decide +kernel
theorem d_S_fault_0 : decode prog_1_method_6_code 0 = .ok (.aload_n 0, 1) := q_tb t_S_fault 0 rfl
theorem d_S_fault_1 : decode prog_1_method_6_code 1 = .ok (.getfield 28, 3) := q_tb t_S_fault 1 rfl
theorem d_S_fault_4 : decode prog_1_method_6_code 4 = .ok (.getfield 86, 3) := q_tb t_S_fault 2 rfl
theorem d_S_fault_7 : decode prog_1_method_6_code 7 = .ok (.ireturn, 1) := q_tb t_S_fault 3 rfl
def T_S_faultAt : List (Nat × Instr × Nat) := [(0, .aload_n 0, 1), (1, .getfield 28, 3), (4, .getfield 89, 3), (7, .ireturn, 1)]
set_option maxRecDepth 100000 in
theorem t_S_faultAt : ∀ q ∈ T_S_faultAt, decode prog_1_method_7_code q.1 = .ok q.2 := by decide +kernel
theorem d_S_faultAt_0 : decode prog_1_method_7_code 0 = .ok (.aload_n 0, 1) := q_tb t_S_faultAt 0 rfl
theorem d_S_faultAt_1 : decode prog_1_method_7_code 1 = .ok (.getfield 28, 3) := q_tb t_S_faultAt 1 rfl
theorem d_S_faultAt_4 : decode prog_1_method_7_code 4 = .ok (.getfield 89, 3) := q_tb t_S_faultAt 2 rfl
theorem d_S_faultAt_7 : decode prog_1_method_7_code 7 = .ok (.ireturn, 1) := q_tb t_S_faultAt 3 rfl
def T_S_clear : List (Nat × Instr × Nat) := [(0, .aload_n 0, 1), (1, .getfield 19, 3), (4, .getfield 75, 3), (7, .istore_n 1, 1), (8, .aload_n 0, 1), (9, .getfield 19, 3), (12, .invokevirtual 92, 3), (15, .aload_n 0, 1), (16, .invokevirtual 72, 3), (19, .iload_n 1, 1), (20, .ireturn, 1)]
set_option maxRecDepth 100000 in
theorem t_S_clear : ∀ q ∈ T_S_clear, decode prog_1_method_8_code q.1 = .ok q.2 := by decide +kernel
theorem d_S_clear_0 : decode prog_1_method_8_code 0 = .ok (.aload_n 0, 1) := q_tb t_S_clear 0 rfl
theorem d_S_clear_1 : decode prog_1_method_8_code 1 = .ok (.getfield 19, 3) := q_tb t_S_clear 1 rfl
theorem d_S_clear_4 : decode prog_1_method_8_code 4 = .ok (.getfield 75, 3) := q_tb t_S_clear 2 rfl
theorem d_S_clear_7 : decode prog_1_method_8_code 7 = .ok (.istore_n 1, 1) := q_tb t_S_clear 3 rfl
theorem d_S_clear_8 : decode prog_1_method_8_code 8 = .ok (.aload_n 0, 1) := q_tb t_S_clear 4 rfl
theorem d_S_clear_9 : decode prog_1_method_8_code 9 = .ok (.getfield 19, 3) := q_tb t_S_clear 5 rfl
theorem d_S_clear_12 : decode prog_1_method_8_code 12 = .ok (.invokevirtual 92, 3) := q_tb t_S_clear 6 rfl
theorem d_S_clear_15 : decode prog_1_method_8_code 15 = .ok (.aload_n 0, 1) := q_tb t_S_clear 7 rfl
theorem d_S_clear_16 : decode prog_1_method_8_code 16 = .ok (.invokevirtual 72, 3) := q_tb t_S_clear 8 rfl
theorem d_S_clear_19 : decode prog_1_method_8_code 19 = .ok (.iload_n 1, 1) := q_tb t_S_clear 9 rfl
theorem d_S_clear_20 : decode prog_1_method_8_code 20 = .ok (.ireturn, 1) := q_tb t_S_clear 10 rfl
def T_S_product : List (Nat × Instr × Nat) := [(0, .aload_n 0, 1), (1, .getfield 19, 3), (4, .invokevirtual 118, 3), (7, .ifCond .eq 14, 3), (10, .aload_n 0, 1), (11, .getfield 19, 3), (14, .invokevirtual 122, 3), (17, .l2i, 1), (18, .goto 5, 3), (21, .bipush (-2), 2), (23, .ireturn, 1)]
set_option maxRecDepth 100000 in
theorem t_S_product : ∀ q ∈ T_S_product, decode prog_1_method_10_code q.1 = .ok q.2 := by decide +kernel
theorem d_S_product_0 : decode prog_1_method_10_code 0 = .ok (.aload_n 0, 1) := q_tb t_S_product 0 rfl
theorem d_S_product_1 : decode prog_1_method_10_code 1 = .ok (.getfield 19, 3) := q_tb t_S_product 1 rfl
theorem d_S_product_4 : decode prog_1_method_10_code 4 = .ok (.invokevirtual 118, 3) := q_tb t_S_product 2 rfl
theorem d_S_product_7 : decode prog_1_method_10_code 7 = .ok (.ifCond .eq 14, 3) := q_tb t_S_product 3 rfl
theorem d_S_product_10 : decode prog_1_method_10_code 10 = .ok (.aload_n 0, 1) := q_tb t_S_product 4 rfl
theorem d_S_product_11 : decode prog_1_method_10_code 11 = .ok (.getfield 19, 3) := q_tb t_S_product 5 rfl
theorem d_S_product_14 : decode prog_1_method_10_code 14 = .ok (.invokevirtual 122, 3) := q_tb t_S_product 6 rfl
theorem d_S_product_17 : decode prog_1_method_10_code 17 = .ok (.l2i, 1) := q_tb t_S_product 7 rfl
theorem d_S_product_18 : decode prog_1_method_10_code 18 = .ok (.goto 5, 3) := q_tb t_S_product 8 rfl
theorem d_S_product_21 : decode prog_1_method_10_code 21 = .ok (.bipush (-2), 2) := q_tb t_S_product 9 rfl
theorem d_S_product_23 : decode prog_1_method_10_code 23 = .ok (.ireturn, 1) := q_tb t_S_product 10 rfl
def T_S_stuck : List (Nat × Instr × Nat) := [(0, .aload_n 0, 1), (1, .getfield 19, 3), (4, .invokevirtual 118, 3), (7, .ifCond .ne 6, 3), (10, .bipush (-2), 2), (12, .ireturn, 1), (13, .aload_n 0, 1), (14, .getfield 37, 3), (17, .invokevirtual 126, 3), (20, .aload_n 0, 1), (21, .getfield 37, 3), (24, .getfield 129, 3), (27, .ireturn, 1)]
set_option maxRecDepth 100000 in
theorem t_S_stuck : ∀ q ∈ T_S_stuck, decode prog_1_method_11_code q.1 = .ok q.2 := by decide +kernel
theorem d_S_stuck_0 : decode prog_1_method_11_code 0 = .ok (.aload_n 0, 1) := q_tb t_S_stuck 0 rfl
theorem d_S_stuck_1 : decode prog_1_method_11_code 1 = .ok (.getfield 19, 3) := q_tb t_S_stuck 1 rfl
theorem d_S_stuck_4 : decode prog_1_method_11_code 4 = .ok (.invokevirtual 118, 3) := q_tb t_S_stuck 2 rfl
theorem d_S_stuck_7 : decode prog_1_method_11_code 7 = .ok (.ifCond .ne 6, 3) := q_tb t_S_stuck 3 rfl
theorem d_S_stuck_10 : decode prog_1_method_11_code 10 = .ok (.bipush (-2), 2) := q_tb t_S_stuck 4 rfl
theorem d_S_stuck_12 : decode prog_1_method_11_code 12 = .ok (.ireturn, 1) := q_tb t_S_stuck 5 rfl
theorem d_S_stuck_13 : decode prog_1_method_11_code 13 = .ok (.aload_n 0, 1) := q_tb t_S_stuck 6 rfl
theorem d_S_stuck_14 : decode prog_1_method_11_code 14 = .ok (.getfield 37, 3) := q_tb t_S_stuck 7 rfl
theorem d_S_stuck_17 : decode prog_1_method_11_code 17 = .ok (.invokevirtual 126, 3) := q_tb t_S_stuck 8 rfl
theorem d_S_stuck_20 : decode prog_1_method_11_code 20 = .ok (.aload_n 0, 1) := q_tb t_S_stuck 9 rfl
theorem d_S_stuck_21 : decode prog_1_method_11_code 21 = .ok (.getfield 37, 3) := q_tb t_S_stuck 10 rfl
theorem d_S_stuck_24 : decode prog_1_method_11_code 24 = .ok (.getfield 129, 3) := q_tb t_S_stuck 11 rfl
theorem d_S_stuck_27 : decode prog_1_method_11_code 27 = .ok (.ireturn, 1) := q_tb t_S_stuck 12 rfl
def T_Ar_fillJ : List (Nat × Instr × Nat) := [(0, .iconst 0, 1), (1, .istore_n 3, 1), (2, .aload_n 0, 1), (3, .arraylength, 1), (4, .istore 4, 2), (6, .iload_n 3, 1), (7, .iload 4, 2), (9, .if_icmp .ge 13, 3), (12, .aload_n 0, 1), (13, .iload_n 3, 1), (14, .lload_n 1, 1), (15, .lastore, 1), (16, .iinc 3 1, 3), (19, .goto (-13), 3), (22, .return_, 1)]
set_option maxRecDepth 100000 in
theorem t_Ar_fillJ : ∀ q ∈ T_Ar_fillJ, decode prog_23_method_101_code q.1 = .ok q.2 := by decide +kernel
theorem d_Ar_fillJ_0 : decode prog_23_method_101_code 0 = .ok (.iconst 0, 1) := q_tb t_Ar_fillJ 0 rfl
theorem d_Ar_fillJ_1 : decode prog_23_method_101_code 1 = .ok (.istore_n 3, 1) := q_tb t_Ar_fillJ 1 rfl
theorem d_Ar_fillJ_2 : decode prog_23_method_101_code 2 = .ok (.aload_n 0, 1) := q_tb t_Ar_fillJ 2 rfl
theorem d_Ar_fillJ_3 : decode prog_23_method_101_code 3 = .ok (.arraylength, 1) := q_tb t_Ar_fillJ 3 rfl
theorem d_Ar_fillJ_4 : decode prog_23_method_101_code 4 = .ok (.istore 4, 2) := q_tb t_Ar_fillJ 4 rfl
theorem d_Ar_fillJ_6 : decode prog_23_method_101_code 6 = .ok (.iload_n 3, 1) := q_tb t_Ar_fillJ 5 rfl
theorem d_Ar_fillJ_7 : decode prog_23_method_101_code 7 = .ok (.iload 4, 2) := q_tb t_Ar_fillJ 6 rfl
theorem d_Ar_fillJ_9 : decode prog_23_method_101_code 9 = .ok (.if_icmp .ge 13, 3) := q_tb t_Ar_fillJ 7 rfl
theorem d_Ar_fillJ_12 : decode prog_23_method_101_code 12 = .ok (.aload_n 0, 1) := q_tb t_Ar_fillJ 8 rfl
theorem d_Ar_fillJ_13 : decode prog_23_method_101_code 13 = .ok (.iload_n 3, 1) := q_tb t_Ar_fillJ 9 rfl
theorem d_Ar_fillJ_14 : decode prog_23_method_101_code 14 = .ok (.lload_n 1, 1) := q_tb t_Ar_fillJ 10 rfl
theorem d_Ar_fillJ_15 : decode prog_23_method_101_code 15 = .ok (.lastore, 1) := q_tb t_Ar_fillJ 11 rfl
theorem d_Ar_fillJ_16 : decode prog_23_method_101_code 16 = .ok (.iinc 3 1, 3) := q_tb t_Ar_fillJ 12 rfl
theorem d_Ar_fillJ_19 : decode prog_23_method_101_code 19 = .ok (.goto (-13), 3) := q_tb t_Ar_fillJ 13 rfl
theorem d_Ar_fillJ_22 : decode prog_23_method_101_code 22 = .ok (.return_, 1) := q_tb t_Ar_fillJ 14 rfl
def T_S_nthBit : List (Nat × Instr × Nat) := [(0, .lload_n 0, 1), (1, .lstore_n 3, 1), (2, .iconst 0, 1), (3, .istore 5, 2), (5, .iload 5, 2), (7, .iload_n 2, 1), (8, .if_icmp .ge 15, 3), (11, .lload_n 3, 1), (12, .lload_n 3, 1), (13, .lconst 1, 1), (14, .lsub, 1), (15, .land, 1), (16, .lstore_n 3, 1), (17, .iinc 5 1, 3), (20, .goto (-15), 3), (23, .lload_n 3, 1), (24, .lload_n 3, 1), (25, .lneg, 1), (26, .land, 1), (27, .lconst 1, 1), (28, .lsub, 1), (29, .invokestatic 203, 3), (32, .ireturn, 1)]
set_option maxRecDepth 100000 in
theorem t_S_nthBit : ∀ q ∈ T_S_nthBit, decode prog_1_method_25_code q.1 = .ok q.2 := by decide +kernel
theorem d_S_nthBit_0 : decode prog_1_method_25_code 0 = .ok (.lload_n 0, 1) := q_tb t_S_nthBit 0 rfl
theorem d_S_nthBit_1 : decode prog_1_method_25_code 1 = .ok (.lstore_n 3, 1) := q_tb t_S_nthBit 1 rfl
theorem d_S_nthBit_2 : decode prog_1_method_25_code 2 = .ok (.iconst 0, 1) := q_tb t_S_nthBit 2 rfl
theorem d_S_nthBit_3 : decode prog_1_method_25_code 3 = .ok (.istore 5, 2) := q_tb t_S_nthBit 3 rfl
theorem d_S_nthBit_5 : decode prog_1_method_25_code 5 = .ok (.iload 5, 2) := q_tb t_S_nthBit 4 rfl
theorem d_S_nthBit_7 : decode prog_1_method_25_code 7 = .ok (.iload_n 2, 1) := q_tb t_S_nthBit 5 rfl
theorem d_S_nthBit_8 : decode prog_1_method_25_code 8 = .ok (.if_icmp .ge 15, 3) := q_tb t_S_nthBit 6 rfl
theorem d_S_nthBit_11 : decode prog_1_method_25_code 11 = .ok (.lload_n 3, 1) := q_tb t_S_nthBit 7 rfl
theorem d_S_nthBit_12 : decode prog_1_method_25_code 12 = .ok (.lload_n 3, 1) := q_tb t_S_nthBit 8 rfl
theorem d_S_nthBit_13 : decode prog_1_method_25_code 13 = .ok (.lconst 1, 1) := q_tb t_S_nthBit 9 rfl
theorem d_S_nthBit_14 : decode prog_1_method_25_code 14 = .ok (.lsub, 1) := q_tb t_S_nthBit 10 rfl
theorem d_S_nthBit_15 : decode prog_1_method_25_code 15 = .ok (.land, 1) := q_tb t_S_nthBit 11 rfl
theorem d_S_nthBit_16 : decode prog_1_method_25_code 16 = .ok (.lstore_n 3, 1) := q_tb t_S_nthBit 12 rfl
theorem d_S_nthBit_17 : decode prog_1_method_25_code 17 = .ok (.iinc 5 1, 3) := q_tb t_S_nthBit 13 rfl
theorem d_S_nthBit_20 : decode prog_1_method_25_code 20 = .ok (.goto (-15), 3) := q_tb t_S_nthBit 14 rfl
theorem d_S_nthBit_23 : decode prog_1_method_25_code 23 = .ok (.lload_n 3, 1) := q_tb t_S_nthBit 15 rfl
theorem d_S_nthBit_24 : decode prog_1_method_25_code 24 = .ok (.lload_n 3, 1) := q_tb t_S_nthBit 16 rfl
theorem d_S_nthBit_25 : decode prog_1_method_25_code 25 = .ok (.lneg, 1) := q_tb t_S_nthBit 17 rfl
theorem d_S_nthBit_26 : decode prog_1_method_25_code 26 = .ok (.land, 1) := q_tb t_S_nthBit 18 rfl
theorem d_S_nthBit_27 : decode prog_1_method_25_code 27 = .ok (.lconst 1, 1) := q_tb t_S_nthBit 19 rfl
theorem d_S_nthBit_28 : decode prog_1_method_25_code 28 = .ok (.lsub, 1) := q_tb t_S_nthBit 20 rfl
theorem d_S_nthBit_29 : decode prog_1_method_25_code 29 = .ok (.invokestatic 203, 3) := q_tb t_S_nthBit 21 rfl
theorem d_S_nthBit_32 : decode prog_1_method_25_code 32 = .ok (.ireturn, 1) := q_tb t_S_nthBit 22 rfl
def T_Lo_bitCount0 : List (Nat × Instr × Nat) := [(0, .lload_n 0, 1), (1, .lload_n 0, 1), (2, .iconst 1, 1), (3, .lushr, 1), (4, .ldc2_w 314, 3), (7, .land, 1), (8, .lsub, 1), (9, .lstore_n 0, 1), (10, .lload_n 0, 1), (11, .ldc2_w 316, 3), (14, .land, 1), (15, .lload_n 0, 1), (16, .iconst 2, 1), (17, .lushr, 1), (18, .ldc2_w 316, 3), (21, .land, 1), (22, .ladd, 1), (23, .lstore_n 0, 1), (24, .lload_n 0, 1), (25, .lload_n 0, 1), (26, .iconst 4, 1), (27, .lushr, 1), (28, .ladd, 1), (29, .ldc2_w 318, 3), (32, .land, 1), (33, .lstore_n 0, 1), (34, .lload_n 0, 1), (35, .lload_n 0, 1), (36, .bipush 8, 2), (38, .lushr, 1), (39, .ladd, 1), (40, .lstore_n 0, 1), (41, .lload_n 0, 1), (42, .lload_n 0, 1), (43, .bipush 16, 2), (45, .lushr, 1), (46, .ladd, 1), (47, .lstore_n 0, 1), (48, .lload_n 0, 1), (49, .lload_n 0, 1)]
set_option maxRecDepth 100000 in
theorem t_Lo_bitCount0 : ∀ q ∈ T_Lo_bitCount0, decode prog_17_method_50_code q.1 = .ok q.2 := by decide +kernel
theorem d_Lo_bitCount_0 : decode prog_17_method_50_code 0 = .ok (.lload_n 0, 1) := q_tb t_Lo_bitCount0 0 rfl
theorem d_Lo_bitCount_1 : decode prog_17_method_50_code 1 = .ok (.lload_n 0, 1) := q_tb t_Lo_bitCount0 1 rfl
theorem d_Lo_bitCount_2 : decode prog_17_method_50_code 2 = .ok (.iconst 1, 1) := q_tb t_Lo_bitCount0 2 rfl
theorem d_Lo_bitCount_3 : decode prog_17_method_50_code 3 = .ok (.lushr, 1) := q_tb t_Lo_bitCount0 3 rfl
theorem d_Lo_bitCount_4 : decode prog_17_method_50_code 4 = .ok (.ldc2_w 314, 3) := q_tb t_Lo_bitCount0 4 rfl
theorem d_Lo_bitCount_7 : decode prog_17_method_50_code 7 = .ok (.land, 1) := q_tb t_Lo_bitCount0 5 rfl
theorem d_Lo_bitCount_8 : decode prog_17_method_50_code 8 = .ok (.lsub, 1) := q_tb t_Lo_bitCount0 6 rfl
theorem d_Lo_bitCount_9 : decode prog_17_method_50_code 9 = .ok (.lstore_n 0, 1) := q_tb t_Lo_bitCount0 7 rfl
theorem d_Lo_bitCount_10 : decode prog_17_method_50_code 10 = .ok (.lload_n 0, 1) := q_tb t_Lo_bitCount0 8 rfl
theorem d_Lo_bitCount_11 : decode prog_17_method_50_code 11 = .ok (.ldc2_w 316, 3) := q_tb t_Lo_bitCount0 9 rfl
theorem d_Lo_bitCount_14 : decode prog_17_method_50_code 14 = .ok (.land, 1) := q_tb t_Lo_bitCount0 10 rfl
theorem d_Lo_bitCount_15 : decode prog_17_method_50_code 15 = .ok (.lload_n 0, 1) := q_tb t_Lo_bitCount0 11 rfl
theorem d_Lo_bitCount_16 : decode prog_17_method_50_code 16 = .ok (.iconst 2, 1) := q_tb t_Lo_bitCount0 12 rfl
theorem d_Lo_bitCount_17 : decode prog_17_method_50_code 17 = .ok (.lushr, 1) := q_tb t_Lo_bitCount0 13 rfl
theorem d_Lo_bitCount_18 : decode prog_17_method_50_code 18 = .ok (.ldc2_w 316, 3) := q_tb t_Lo_bitCount0 14 rfl
theorem d_Lo_bitCount_21 : decode prog_17_method_50_code 21 = .ok (.land, 1) := q_tb t_Lo_bitCount0 15 rfl
theorem d_Lo_bitCount_22 : decode prog_17_method_50_code 22 = .ok (.ladd, 1) := q_tb t_Lo_bitCount0 16 rfl
theorem d_Lo_bitCount_23 : decode prog_17_method_50_code 23 = .ok (.lstore_n 0, 1) := q_tb t_Lo_bitCount0 17 rfl
theorem d_Lo_bitCount_24 : decode prog_17_method_50_code 24 = .ok (.lload_n 0, 1) := q_tb t_Lo_bitCount0 18 rfl
theorem d_Lo_bitCount_25 : decode prog_17_method_50_code 25 = .ok (.lload_n 0, 1) := q_tb t_Lo_bitCount0 19 rfl
theorem d_Lo_bitCount_26 : decode prog_17_method_50_code 26 = .ok (.iconst 4, 1) := q_tb t_Lo_bitCount0 20 rfl
theorem d_Lo_bitCount_27 : decode prog_17_method_50_code 27 = .ok (.lushr, 1) := q_tb t_Lo_bitCount0 21 rfl
theorem d_Lo_bitCount_28 : decode prog_17_method_50_code 28 = .ok (.ladd, 1) := q_tb t_Lo_bitCount0 22 rfl
theorem d_Lo_bitCount_29 : decode prog_17_method_50_code 29 = .ok (.ldc2_w 318, 3) := q_tb t_Lo_bitCount0 23 rfl
theorem d_Lo_bitCount_32 : decode prog_17_method_50_code 32 = .ok (.land, 1) := q_tb t_Lo_bitCount0 24 rfl
theorem d_Lo_bitCount_33 : decode prog_17_method_50_code 33 = .ok (.lstore_n 0, 1) := q_tb t_Lo_bitCount0 25 rfl
theorem d_Lo_bitCount_34 : decode prog_17_method_50_code 34 = .ok (.lload_n 0, 1) := q_tb t_Lo_bitCount0 26 rfl
theorem d_Lo_bitCount_35 : decode prog_17_method_50_code 35 = .ok (.lload_n 0, 1) := q_tb t_Lo_bitCount0 27 rfl
theorem d_Lo_bitCount_36 : decode prog_17_method_50_code 36 = .ok (.bipush 8, 2) := q_tb t_Lo_bitCount0 28 rfl
theorem d_Lo_bitCount_38 : decode prog_17_method_50_code 38 = .ok (.lushr, 1) := q_tb t_Lo_bitCount0 29 rfl
theorem d_Lo_bitCount_39 : decode prog_17_method_50_code 39 = .ok (.ladd, 1) := q_tb t_Lo_bitCount0 30 rfl
theorem d_Lo_bitCount_40 : decode prog_17_method_50_code 40 = .ok (.lstore_n 0, 1) := q_tb t_Lo_bitCount0 31 rfl
theorem d_Lo_bitCount_41 : decode prog_17_method_50_code 41 = .ok (.lload_n 0, 1) := q_tb t_Lo_bitCount0 32 rfl
theorem d_Lo_bitCount_42 : decode prog_17_method_50_code 42 = .ok (.lload_n 0, 1) := q_tb t_Lo_bitCount0 33 rfl
theorem d_Lo_bitCount_43 : decode prog_17_method_50_code 43 = .ok (.bipush 16, 2) := q_tb t_Lo_bitCount0 34 rfl
theorem d_Lo_bitCount_45 : decode prog_17_method_50_code 45 = .ok (.lushr, 1) := q_tb t_Lo_bitCount0 35 rfl
theorem d_Lo_bitCount_46 : decode prog_17_method_50_code 46 = .ok (.ladd, 1) := q_tb t_Lo_bitCount0 36 rfl
theorem d_Lo_bitCount_47 : decode prog_17_method_50_code 47 = .ok (.lstore_n 0, 1) := q_tb t_Lo_bitCount0 37 rfl
theorem d_Lo_bitCount_48 : decode prog_17_method_50_code 48 = .ok (.lload_n 0, 1) := q_tb t_Lo_bitCount0 38 rfl
theorem d_Lo_bitCount_49 : decode prog_17_method_50_code 49 = .ok (.lload_n 0, 1) := q_tb t_Lo_bitCount0 39 rfl
def T_Lo_bitCount1 : List (Nat × Instr × Nat) := [(50, .bipush 32, 2), (52, .lushr, 1), (53, .ladd, 1), (54, .lstore_n 0, 1), (55, .lload_n 0, 1), (56, .l2i, 1), (57, .bipush 127, 2), (59, .iand, 1), (60, .ireturn, 1)]
set_option maxRecDepth 100000 in
theorem t_Lo_bitCount1 : ∀ q ∈ T_Lo_bitCount1, decode prog_17_method_50_code q.1 = .ok q.2 := by decide +kernel
theorem d_Lo_bitCount_50 : decode prog_17_method_50_code 50 = .ok (.bipush 32, 2) := q_tb t_Lo_bitCount1 0 rfl
theorem d_Lo_bitCount_52 : decode prog_17_method_50_code 52 = .ok (.lushr, 1) := q_tb t_Lo_bitCount1 1 rfl
theorem d_Lo_bitCount_53 : decode prog_17_method_50_code 53 = .ok (.ladd, 1) := q_tb t_Lo_bitCount1 2 rfl
theorem d_Lo_bitCount_54 : decode prog_17_method_50_code 54 = .ok (.lstore_n 0, 1) := q_tb t_Lo_bitCount1 3 rfl
theorem d_Lo_bitCount_55 : decode prog_17_method_50_code 55 = .ok (.lload_n 0, 1) := q_tb t_Lo_bitCount1 4 rfl
theorem d_Lo_bitCount_56 : decode prog_17_method_50_code 56 = .ok (.l2i, 1) := q_tb t_Lo_bitCount1 5 rfl
theorem d_Lo_bitCount_57 : decode prog_17_method_50_code 57 = .ok (.bipush 127, 2) := q_tb t_Lo_bitCount1 6 rfl
theorem d_Lo_bitCount_59 : decode prog_17_method_50_code 59 = .ok (.iand, 1) := q_tb t_Lo_bitCount1 7 rfl
theorem d_Lo_bitCount_60 : decode prog_17_method_50_code 60 = .ok (.ireturn, 1) := q_tb t_Lo_bitCount1 8 rfl
def T_Ma_max : List (Nat × Instr × Nat) := [(0, .iload_n 0, 1), (1, .iload_n 1, 1), (2, .if_icmp .lt 7, 3), (5, .iload_n 0, 1), (6, .goto 4, 3), (9, .iload_n 1, 1), (10, .ireturn, 1)]
set_option maxRecDepth 100000 in
theorem t_Ma_max : ∀ q ∈ T_Ma_max, decode prog_18_method_65_code q.1 = .ok q.2 := by decide +kernel
theorem d_Ma_max_0 : decode prog_18_method_65_code 0 = .ok (.iload_n 0, 1) := q_tb t_Ma_max 0 rfl
theorem d_Ma_max_1 : decode prog_18_method_65_code 1 = .ok (.iload_n 1, 1) := q_tb t_Ma_max 1 rfl
theorem d_Ma_max_2 : decode prog_18_method_65_code 2 = .ok (.if_icmp .lt 7, 3) := q_tb t_Ma_max 2 rfl
theorem d_Ma_max_5 : decode prog_18_method_65_code 5 = .ok (.iload_n 0, 1) := q_tb t_Ma_max 3 rfl
theorem d_Ma_max_6 : decode prog_18_method_65_code 6 = .ok (.goto 4, 3) := q_tb t_Ma_max 4 rfl
theorem d_Ma_max_9 : decode prog_18_method_65_code 9 = .ok (.iload_n 1, 1) := q_tb t_Ma_max 5 rfl
theorem d_Ma_max_10 : decode prog_18_method_65_code 10 = .ok (.ireturn, 1) := q_tb t_Ma_max 6 rfl
def T_S_ended : List (Nat × Instr × Nat) := [(0, .aload_n 0, 1), (1, .getfield 19, 3), (4, .invokevirtual 118, 3), (7, .ifCond .ne 6, 3), (10, .bipush (-2), 2), (12, .ireturn, 1), (13, .aload_n 0, 1), (14, .getfield 37, 3), (17, .invokevirtual 126, 3), (20, .aload_n 0, 1), (21, .getfield 37, 3), (24, .getfield 132, 3), (27, .ireturn, 1)]
set_option maxRecDepth 100000 in
theorem t_S_ended : ∀ q ∈ T_S_ended, decode prog_1_method_12_code q.1 = .ok q.2 := by decide +kernel
theorem d_S_ended_0 : decode prog_1_method_12_code 0 = .ok (.aload_n 0, 1) := q_tb t_S_ended 0 rfl
theorem d_S_ended_1 : decode prog_1_method_12_code 1 = .ok (.getfield 19, 3) := q_tb t_S_ended 1 rfl
theorem d_S_ended_4 : decode prog_1_method_12_code 4 = .ok (.invokevirtual 118, 3) := q_tb t_S_ended 2 rfl
theorem d_S_ended_7 : decode prog_1_method_12_code 7 = .ok (.ifCond .ne 6, 3) := q_tb t_S_ended 3 rfl
theorem d_S_ended_10 : decode prog_1_method_12_code 10 = .ok (.bipush (-2), 2) := q_tb t_S_ended 4 rfl
theorem d_S_ended_12 : decode prog_1_method_12_code 12 = .ok (.ireturn, 1) := q_tb t_S_ended 5 rfl
theorem d_S_ended_13 : decode prog_1_method_12_code 13 = .ok (.aload_n 0, 1) := q_tb t_S_ended 6 rfl
theorem d_S_ended_14 : decode prog_1_method_12_code 14 = .ok (.getfield 37, 3) := q_tb t_S_ended 7 rfl
theorem d_S_ended_17 : decode prog_1_method_12_code 17 = .ok (.invokevirtual 126, 3) := q_tb t_S_ended 8 rfl
theorem d_S_ended_20 : decode prog_1_method_12_code 20 = .ok (.aload_n 0, 1) := q_tb t_S_ended 9 rfl
theorem d_S_ended_21 : decode prog_1_method_12_code 21 = .ok (.getfield 37, 3) := q_tb t_S_ended 10 rfl
theorem d_S_ended_24 : decode prog_1_method_12_code 24 = .ok (.getfield 132, 3) := q_tb t_S_ended 11 rfl
theorem d_S_ended_27 : decode prog_1_method_12_code 27 = .ok (.ireturn, 1) := q_tb t_S_ended 12 rfl
def T_S_moves : List (Nat × Instr × Nat) := [(0, .iconst 0, 1), (1, .istore_n 1, 1), (2, .iconst 0, 1), (3, .istore_n 2, 1), (4, .iload_n 2, 1), (5, .aload_n 0, 1), (6, .getfield 19, 3), (9, .getfield 75, 3), (12, .if_icmp .ge 27, 3), (15, .iload_n 1, 1), (16, .aload_n 0, 1), (17, .getfield 19, 3), (20, .aload_n 0, 1), (21, .getfield 44, 3), (24, .iload_n 2, 1), (25, .invokevirtual 149, 3), (28, .invokestatic 110, 3), (31, .iadd, 1), (32, .istore_n 1, 1), (33, .iinc 2 1, 3), (36, .goto (-32), 3), (39, .iload_n 1, 1), (40, .ireturn, 1)]
set_option maxRecDepth 100000 in
theorem t_S_moves : ∀ q ∈ T_S_moves, decode prog_1_method_15_code q.1 = .ok q.2 := by decide +kernel
theorem d_S_moves_0 : decode prog_1_method_15_code 0 = .ok (.iconst 0, 1) := q_tb t_S_moves 0 rfl
theorem d_S_moves_1 : decode prog_1_method_15_code 1 = .ok (.istore_n 1, 1) := q_tb t_S_moves 1 rfl
theorem d_S_moves_2 : decode prog_1_method_15_code 2 = .ok (.iconst 0, 1) := q_tb t_S_moves 2 rfl
theorem d_S_moves_3 : decode prog_1_method_15_code 3 = .ok (.istore_n 2, 1) := q_tb t_S_moves 3 rfl
theorem d_S_moves_4 : decode prog_1_method_15_code 4 = .ok (.iload_n 2, 1) := q_tb t_S_moves 4 rfl
theorem d_S_moves_5 : decode prog_1_method_15_code 5 = .ok (.aload_n 0, 1) := q_tb t_S_moves 5 rfl
theorem d_S_moves_6 : decode prog_1_method_15_code 6 = .ok (.getfield 19, 3) := q_tb t_S_moves 6 rfl
theorem d_S_moves_9 : decode prog_1_method_15_code 9 = .ok (.getfield 75, 3) := q_tb t_S_moves 7 rfl
theorem d_S_moves_12 : decode prog_1_method_15_code 12 = .ok (.if_icmp .ge 27, 3) := q_tb t_S_moves 8 rfl
theorem d_S_moves_15 : decode prog_1_method_15_code 15 = .ok (.iload_n 1, 1) := q_tb t_S_moves 9 rfl
theorem d_S_moves_16 : decode prog_1_method_15_code 16 = .ok (.aload_n 0, 1) := q_tb t_S_moves 10 rfl
theorem d_S_moves_17 : decode prog_1_method_15_code 17 = .ok (.getfield 19, 3) := q_tb t_S_moves 11 rfl
theorem d_S_moves_20 : decode prog_1_method_15_code 20 = .ok (.aload_n 0, 1) := q_tb t_S_moves 12 rfl
theorem d_S_moves_21 : decode prog_1_method_15_code 21 = .ok (.getfield 44, 3) := q_tb t_S_moves 13 rfl
theorem d_S_moves_24 : decode prog_1_method_15_code 24 = .ok (.iload_n 2, 1) := q_tb t_S_moves 14 rfl
theorem d_S_moves_25 : decode prog_1_method_15_code 25 = .ok (.invokevirtual 149, 3) := q_tb t_S_moves 15 rfl
theorem d_S_moves_28 : decode prog_1_method_15_code 28 = .ok (.invokestatic 110, 3) := q_tb t_S_moves 16 rfl
theorem d_S_moves_31 : decode prog_1_method_15_code 31 = .ok (.iadd, 1) := q_tb t_S_moves 17 rfl
theorem d_S_moves_32 : decode prog_1_method_15_code 32 = .ok (.istore_n 1, 1) := q_tb t_S_moves 18 rfl
theorem d_S_moves_33 : decode prog_1_method_15_code 33 = .ok (.iinc 2 1, 3) := q_tb t_S_moves 19 rfl
theorem d_S_moves_36 : decode prog_1_method_15_code 36 = .ok (.goto (-32), 3) := q_tb t_S_moves 20 rfl
theorem d_S_moves_39 : decode prog_1_method_15_code 39 = .ok (.iload_n 1, 1) := q_tb t_S_moves 21 rfl
theorem d_S_moves_40 : decode prog_1_method_15_code 40 = .ok (.ireturn, 1) := q_tb t_S_moves 22 rfl
def T_In_bitCount0 : List (Nat × Instr × Nat) := [(0, .iload_n 0, 1), (1, .iload_n 0, 1), (2, .iconst 1, 1), (3, .iushr, 1), (4, .ldc_w 265, 3), (7, .iand, 1), (8, .isub, 1), (9, .istore_n 0, 1), (10, .iload_n 0, 1), (11, .ldc_w 266, 3), (14, .iand, 1), (15, .iload_n 0, 1), (16, .iconst 2, 1), (17, .iushr, 1), (18, .ldc_w 266, 3), (21, .iand, 1), (22, .iadd, 1), (23, .istore_n 0, 1), (24, .iload_n 0, 1), (25, .iload_n 0, 1), (26, .iconst 4, 1), (27, .iushr, 1), (28, .iadd, 1), (29, .ldc_w 267, 3), (32, .iand, 1), (33, .istore_n 0, 1), (34, .iload_n 0, 1), (35, .iload_n 0, 1), (36, .bipush 8, 2), (38, .iushr, 1), (39, .iadd, 1), (40, .istore_n 0, 1), (41, .iload_n 0, 1), (42, .iload_n 0, 1), (43, .bipush 16, 2), (45, .iushr, 1), (46, .iadd, 1), (47, .istore_n 0, 1), (48, .iload_n 0, 1), (49, .bipush 63, 2)]
set_option maxRecDepth 100000 in
theorem t_In_bitCount0 : ∀ q ∈ T_In_bitCount0, decode prog_16_method_49_code q.1 = .ok q.2 := by decide +kernel
theorem d_In_bitCount_0 : decode prog_16_method_49_code 0 = .ok (.iload_n 0, 1) := q_tb t_In_bitCount0 0 rfl
theorem d_In_bitCount_1 : decode prog_16_method_49_code 1 = .ok (.iload_n 0, 1) := q_tb t_In_bitCount0 1 rfl
theorem d_In_bitCount_2 : decode prog_16_method_49_code 2 = .ok (.iconst 1, 1) := q_tb t_In_bitCount0 2 rfl
theorem d_In_bitCount_3 : decode prog_16_method_49_code 3 = .ok (.iushr, 1) := q_tb t_In_bitCount0 3 rfl
theorem d_In_bitCount_4 : decode prog_16_method_49_code 4 = .ok (.ldc_w 265, 3) := q_tb t_In_bitCount0 4 rfl
theorem d_In_bitCount_7 : decode prog_16_method_49_code 7 = .ok (.iand, 1) := q_tb t_In_bitCount0 5 rfl
theorem d_In_bitCount_8 : decode prog_16_method_49_code 8 = .ok (.isub, 1) := q_tb t_In_bitCount0 6 rfl
theorem d_In_bitCount_9 : decode prog_16_method_49_code 9 = .ok (.istore_n 0, 1) := q_tb t_In_bitCount0 7 rfl
theorem d_In_bitCount_10 : decode prog_16_method_49_code 10 = .ok (.iload_n 0, 1) := q_tb t_In_bitCount0 8 rfl
theorem d_In_bitCount_11 : decode prog_16_method_49_code 11 = .ok (.ldc_w 266, 3) := q_tb t_In_bitCount0 9 rfl
theorem d_In_bitCount_14 : decode prog_16_method_49_code 14 = .ok (.iand, 1) := q_tb t_In_bitCount0 10 rfl
theorem d_In_bitCount_15 : decode prog_16_method_49_code 15 = .ok (.iload_n 0, 1) := q_tb t_In_bitCount0 11 rfl
theorem d_In_bitCount_16 : decode prog_16_method_49_code 16 = .ok (.iconst 2, 1) := q_tb t_In_bitCount0 12 rfl
theorem d_In_bitCount_17 : decode prog_16_method_49_code 17 = .ok (.iushr, 1) := q_tb t_In_bitCount0 13 rfl
theorem d_In_bitCount_18 : decode prog_16_method_49_code 18 = .ok (.ldc_w 266, 3) := q_tb t_In_bitCount0 14 rfl
theorem d_In_bitCount_21 : decode prog_16_method_49_code 21 = .ok (.iand, 1) := q_tb t_In_bitCount0 15 rfl
theorem d_In_bitCount_22 : decode prog_16_method_49_code 22 = .ok (.iadd, 1) := q_tb t_In_bitCount0 16 rfl
theorem d_In_bitCount_23 : decode prog_16_method_49_code 23 = .ok (.istore_n 0, 1) := q_tb t_In_bitCount0 17 rfl
theorem d_In_bitCount_24 : decode prog_16_method_49_code 24 = .ok (.iload_n 0, 1) := q_tb t_In_bitCount0 18 rfl
theorem d_In_bitCount_25 : decode prog_16_method_49_code 25 = .ok (.iload_n 0, 1) := q_tb t_In_bitCount0 19 rfl
theorem d_In_bitCount_26 : decode prog_16_method_49_code 26 = .ok (.iconst 4, 1) := q_tb t_In_bitCount0 20 rfl
theorem d_In_bitCount_27 : decode prog_16_method_49_code 27 = .ok (.iushr, 1) := q_tb t_In_bitCount0 21 rfl
theorem d_In_bitCount_28 : decode prog_16_method_49_code 28 = .ok (.iadd, 1) := q_tb t_In_bitCount0 22 rfl
theorem d_In_bitCount_29 : decode prog_16_method_49_code 29 = .ok (.ldc_w 267, 3) := q_tb t_In_bitCount0 23 rfl
theorem d_In_bitCount_32 : decode prog_16_method_49_code 32 = .ok (.iand, 1) := q_tb t_In_bitCount0 24 rfl
theorem d_In_bitCount_33 : decode prog_16_method_49_code 33 = .ok (.istore_n 0, 1) := q_tb t_In_bitCount0 25 rfl
theorem d_In_bitCount_34 : decode prog_16_method_49_code 34 = .ok (.iload_n 0, 1) := q_tb t_In_bitCount0 26 rfl
theorem d_In_bitCount_35 : decode prog_16_method_49_code 35 = .ok (.iload_n 0, 1) := q_tb t_In_bitCount0 27 rfl
theorem d_In_bitCount_36 : decode prog_16_method_49_code 36 = .ok (.bipush 8, 2) := q_tb t_In_bitCount0 28 rfl
theorem d_In_bitCount_38 : decode prog_16_method_49_code 38 = .ok (.iushr, 1) := q_tb t_In_bitCount0 29 rfl
theorem d_In_bitCount_39 : decode prog_16_method_49_code 39 = .ok (.iadd, 1) := q_tb t_In_bitCount0 30 rfl
theorem d_In_bitCount_40 : decode prog_16_method_49_code 40 = .ok (.istore_n 0, 1) := q_tb t_In_bitCount0 31 rfl
theorem d_In_bitCount_41 : decode prog_16_method_49_code 41 = .ok (.iload_n 0, 1) := q_tb t_In_bitCount0 32 rfl
theorem d_In_bitCount_42 : decode prog_16_method_49_code 42 = .ok (.iload_n 0, 1) := q_tb t_In_bitCount0 33 rfl
theorem d_In_bitCount_43 : decode prog_16_method_49_code 43 = .ok (.bipush 16, 2) := q_tb t_In_bitCount0 34 rfl
theorem d_In_bitCount_45 : decode prog_16_method_49_code 45 = .ok (.iushr, 1) := q_tb t_In_bitCount0 35 rfl
theorem d_In_bitCount_46 : decode prog_16_method_49_code 46 = .ok (.iadd, 1) := q_tb t_In_bitCount0 36 rfl
theorem d_In_bitCount_47 : decode prog_16_method_49_code 47 = .ok (.istore_n 0, 1) := q_tb t_In_bitCount0 37 rfl
theorem d_In_bitCount_48 : decode prog_16_method_49_code 48 = .ok (.iload_n 0, 1) := q_tb t_In_bitCount0 38 rfl
theorem d_In_bitCount_49 : decode prog_16_method_49_code 49 = .ok (.bipush 63, 2) := q_tb t_In_bitCount0 39 rfl
def T_In_bitCount1 : List (Nat × Instr × Nat) := [(51, .iand, 1), (52, .ireturn, 1)]
set_option maxRecDepth 100000 in
theorem t_In_bitCount1 : ∀ q ∈ T_In_bitCount1, decode prog_16_method_49_code q.1 = .ok q.2 := by decide +kernel
theorem d_In_bitCount_51 : decode prog_16_method_49_code 51 = .ok (.iand, 1) := q_tb t_In_bitCount1 0 rfl
theorem d_In_bitCount_52 : decode prog_16_method_49_code 52 = .ok (.ireturn, 1) := q_tb t_In_bitCount1 1 rfl
def T_S_restart : List (Nat × Instr × Nat) := [(0, .aload_n 0, 1), (1, .getfield 161, 3), (4, .istore_n 1, 1), (5, .aload_n 0, 1), (6, .invokevirtual 169, 3), (9, .iload_n 1, 1), (10, .ireturn, 1)]
set_option maxRecDepth 100000 in
theorem t_S_restart : ∀ q ∈ T_S_restart, decode prog_1_method_17_code q.1 = .ok q.2 := by decide +kernel
theorem d_S_restart_0 : decode prog_1_method_17_code 0 = .ok (.aload_n 0, 1) := q_tb t_S_restart 0 rfl
theorem d_S_restart_1 : decode prog_1_method_17_code 1 = .ok (.getfield 161, 3) := q_tb t_S_restart 1 rfl
theorem d_S_restart_4 : decode prog_1_method_17_code 4 = .ok (.istore_n 1, 1) := q_tb t_S_restart 2 rfl
theorem d_S_restart_5 : decode prog_1_method_17_code 5 = .ok (.aload_n 0, 1) := q_tb t_S_restart 3 rfl
theorem d_S_restart_6 : decode prog_1_method_17_code 6 = .ok (.invokevirtual 169, 3) := q_tb t_S_restart 4 rfl
theorem d_S_restart_9 : decode prog_1_method_17_code 9 = .ok (.iload_n 1, 1) := q_tb t_S_restart 5 rfl
theorem d_S_restart_10 : decode prog_1_method_17_code 10 = .ok (.ireturn, 1) := q_tb t_S_restart 6 rfl
def T_S_feed : List (Nat × Instr × Nat) := [(0, .iload_n 1, 1), (1, .iconst 1, 1), (2, .if_icmp .lt 9, 3), (5, .iload_n 1, 1), (6, .bipush 8, 2), (8, .if_icmp .le 13, 3), (11, .new 48, 3), (14, .dup, 1), (15, .ldc 50, 2), (17, .invokespecial 52, 3), (20, .athrow, 1), (21, .aload_n 0, 1), (22, .getfield 10, 3), (25, .iload_n 1, 1), (26, .lload_n 2, 1), (27, .invokevirtual 55, 3), (30, .ifCond .eq 13, 3), (33, .aload_n 0, 1), (34, .getfield 10, 3), (37, .getfield 59, 3), (40, .goto 4, 3), (43, .iconst (-1), 1), (44, .ireturn, 1)]
set_option maxRecDepth 100000 in
theorem t_S_feed : ∀ q ∈ T_S_feed, decode prog_1_method_2_code q.1 = .ok q.2 := by decide +kernel
theorem d_S_feed_0 : decode prog_1_method_2_code 0 = .ok (.iload_n 1, 1) := q_tb t_S_feed 0 rfl
theorem d_S_feed_1 : decode prog_1_method_2_code 1 = .ok (.iconst 1, 1) := q_tb t_S_feed 1 rfl
theorem d_S_feed_2 : decode prog_1_method_2_code 2 = .ok (.if_icmp .lt 9, 3) := q_tb t_S_feed 2 rfl
theorem d_S_feed_5 : decode prog_1_method_2_code 5 = .ok (.iload_n 1, 1) := q_tb t_S_feed 3 rfl
theorem d_S_feed_6 : decode prog_1_method_2_code 6 = .ok (.bipush 8, 2) := q_tb t_S_feed 4 rfl
theorem d_S_feed_8 : decode prog_1_method_2_code 8 = .ok (.if_icmp .le 13, 3) := q_tb t_S_feed 5 rfl
theorem d_S_feed_11 : decode prog_1_method_2_code 11 = .ok (.new 48, 3) := q_tb t_S_feed 6 rfl
theorem d_S_feed_14 : decode prog_1_method_2_code 14 = .ok (.dup, 1) := q_tb t_S_feed 7 rfl
theorem d_S_feed_15 : decode prog_1_method_2_code 15 = .ok (.ldc 50, 2) := q_tb t_S_feed 8 rfl
theorem d_S_feed_17 : decode prog_1_method_2_code 17 = .ok (.invokespecial 52, 3) := q_tb t_S_feed 9 rfl
theorem d_S_feed_20 : decode prog_1_method_2_code 20 = .ok (.athrow, 1) := q_tb t_S_feed 10 rfl
theorem d_S_feed_21 : decode prog_1_method_2_code 21 = .ok (.aload_n 0, 1) := q_tb t_S_feed 11 rfl
theorem d_S_feed_22 : decode prog_1_method_2_code 22 = .ok (.getfield 10, 3) := q_tb t_S_feed 12 rfl
theorem d_S_feed_25 : decode prog_1_method_2_code 25 = .ok (.iload_n 1, 1) := q_tb t_S_feed 13 rfl
theorem d_S_feed_26 : decode prog_1_method_2_code 26 = .ok (.lload_n 2, 1) := q_tb t_S_feed 14 rfl
theorem d_S_feed_27 : decode prog_1_method_2_code 27 = .ok (.invokevirtual 55, 3) := q_tb t_S_feed 15 rfl
theorem d_S_feed_30 : decode prog_1_method_2_code 30 = .ok (.ifCond .eq 13, 3) := q_tb t_S_feed 16 rfl
theorem d_S_feed_33 : decode prog_1_method_2_code 33 = .ok (.aload_n 0, 1) := q_tb t_S_feed 17 rfl
theorem d_S_feed_34 : decode prog_1_method_2_code 34 = .ok (.getfield 10, 3) := q_tb t_S_feed 18 rfl
theorem d_S_feed_37 : decode prog_1_method_2_code 37 = .ok (.getfield 59, 3) := q_tb t_S_feed 19 rfl
theorem d_S_feed_40 : decode prog_1_method_2_code 40 = .ok (.goto 4, 3) := q_tb t_S_feed 20 rfl
theorem d_S_feed_43 : decode prog_1_method_2_code 43 = .ok (.iconst (-1), 1) := q_tb t_S_feed 21 rfl
theorem d_S_feed_44 : decode prog_1_method_2_code 44 = .ok (.ireturn, 1) := q_tb t_S_feed 22 rfl
def T_S_variable : List (Nat × Instr × Nat) := [(0, .iload_n 1, 1), (1, .iconst 2, 1), (2, .if_icmp .lt 17, 3), (5, .iload_n 1, 1), (6, .iconst 5, 1), (7, .if_icmp .gt 12, 3), (10, .iload_n 2, 1), (11, .ifCond .lt 8, 3), (14, .iload_n 2, 1), (15, .iload_n 1, 1), (16, .if_icmp .lt 13, 3), (19, .new 48, 3), (22, .dup, 1), (23, .ldc 63, 2), (25, .invokespecial 52, 3), (28, .athrow, 1), (29, .aload_n 0, 1), (30, .getfield 19, 3), (33, .getfield 65, 3), (36, .iconst 5, 1), (37, .if_icmp .lt 5, 3), (40, .iconst (-1), 1), (41, .ireturn, 1), (42, .aload_n 0, 1), (43, .getfield 19, 3), (46, .iload_n 1, 1), (47, .iload_n 2, 1), (48, .invokevirtual 68, 3), (51, .aload_n 0, 1), (52, .invokevirtual 72, 3), (55, .aload_n 0, 1), (56, .getfield 19, 3), (59, .getfield 65, 3), (62, .iconst 1, 1), (63, .isub, 1), (64, .ireturn, 1)]
set_option maxRecDepth 100000 in
theorem t_S_variable : ∀ q ∈ T_S_variable, decode prog_1_method_4_code q.1 = .ok q.2 := by decide +kernel
theorem d_S_variable_0 : decode prog_1_method_4_code 0 = .ok (.iload_n 1, 1) := q_tb t_S_variable 0 rfl
theorem d_S_variable_1 : decode prog_1_method_4_code 1 = .ok (.iconst 2, 1) := q_tb t_S_variable 1 rfl
theorem d_S_variable_2 : decode prog_1_method_4_code 2 = .ok (.if_icmp .lt 17, 3) := q_tb t_S_variable 2 rfl
theorem d_S_variable_5 : decode prog_1_method_4_code 5 = .ok (.iload_n 1, 1) := q_tb t_S_variable 3 rfl
theorem d_S_variable_6 : decode prog_1_method_4_code 6 = .ok (.iconst 5, 1) := q_tb t_S_variable 4 rfl
theorem d_S_variable_7 : decode prog_1_method_4_code 7 = .ok (.if_icmp .gt 12, 3) := q_tb t_S_variable 5 rfl
theorem d_S_variable_10 : decode prog_1_method_4_code 10 = .ok (.iload_n 2, 1) := q_tb t_S_variable 6 rfl
theorem d_S_variable_11 : decode prog_1_method_4_code 11 = .ok (.ifCond .lt 8, 3) := q_tb t_S_variable 7 rfl
theorem d_S_variable_14 : decode prog_1_method_4_code 14 = .ok (.iload_n 2, 1) := q_tb t_S_variable 8 rfl
theorem d_S_variable_15 : decode prog_1_method_4_code 15 = .ok (.iload_n 1, 1) := q_tb t_S_variable 9 rfl
theorem d_S_variable_16 : decode prog_1_method_4_code 16 = .ok (.if_icmp .lt 13, 3) := q_tb t_S_variable 10 rfl
theorem d_S_variable_19 : decode prog_1_method_4_code 19 = .ok (.new 48, 3) := q_tb t_S_variable 11 rfl
theorem d_S_variable_22 : decode prog_1_method_4_code 22 = .ok (.dup, 1) := q_tb t_S_variable 12 rfl
theorem d_S_variable_23 : decode prog_1_method_4_code 23 = .ok (.ldc 63, 2) := q_tb t_S_variable 13 rfl
theorem d_S_variable_25 : decode prog_1_method_4_code 25 = .ok (.invokespecial 52, 3) := q_tb t_S_variable 14 rfl
theorem d_S_variable_28 : decode prog_1_method_4_code 28 = .ok (.athrow, 1) := q_tb t_S_variable 15 rfl
theorem d_S_variable_29 : decode prog_1_method_4_code 29 = .ok (.aload_n 0, 1) := q_tb t_S_variable 16 rfl
theorem d_S_variable_30 : decode prog_1_method_4_code 30 = .ok (.getfield 19, 3) := q_tb t_S_variable 17 rfl
theorem d_S_variable_33 : decode prog_1_method_4_code 33 = .ok (.getfield 65, 3) := q_tb t_S_variable 18 rfl
theorem d_S_variable_36 : decode prog_1_method_4_code 36 = .ok (.iconst 5, 1) := q_tb t_S_variable 19 rfl
theorem d_S_variable_37 : decode prog_1_method_4_code 37 = .ok (.if_icmp .lt 5, 3) := q_tb t_S_variable 20 rfl
theorem d_S_variable_40 : decode prog_1_method_4_code 40 = .ok (.iconst (-1), 1) := q_tb t_S_variable 21 rfl
theorem d_S_variable_41 : decode prog_1_method_4_code 41 = .ok (.ireturn, 1) := q_tb t_S_variable 22 rfl
theorem d_S_variable_42 : decode prog_1_method_4_code 42 = .ok (.aload_n 0, 1) := q_tb t_S_variable 23 rfl
theorem d_S_variable_43 : decode prog_1_method_4_code 43 = .ok (.getfield 19, 3) := q_tb t_S_variable 24 rfl
theorem d_S_variable_46 : decode prog_1_method_4_code 46 = .ok (.iload_n 1, 1) := q_tb t_S_variable 25 rfl
theorem d_S_variable_47 : decode prog_1_method_4_code 47 = .ok (.iload_n 2, 1) := q_tb t_S_variable 26 rfl
theorem d_S_variable_48 : decode prog_1_method_4_code 48 = .ok (.invokevirtual 68, 3) := q_tb t_S_variable 27 rfl
theorem d_S_variable_51 : decode prog_1_method_4_code 51 = .ok (.aload_n 0, 1) := q_tb t_S_variable 28 rfl
theorem d_S_variable_52 : decode prog_1_method_4_code 52 = .ok (.invokevirtual 72, 3) := q_tb t_S_variable 29 rfl
theorem d_S_variable_55 : decode prog_1_method_4_code 55 = .ok (.aload_n 0, 1) := q_tb t_S_variable 30 rfl
theorem d_S_variable_56 : decode prog_1_method_4_code 56 = .ok (.getfield 19, 3) := q_tb t_S_variable 31 rfl
theorem d_S_variable_59 : decode prog_1_method_4_code 59 = .ok (.getfield 65, 3) := q_tb t_S_variable 32 rfl
theorem d_S_variable_62 : decode prog_1_method_4_code 62 = .ok (.iconst 1, 1) := q_tb t_S_variable 33 rfl
theorem d_S_variable_63 : decode prog_1_method_4_code 63 = .ok (.isub, 1) := q_tb t_S_variable 34 rfl
theorem d_S_variable_64 : decode prog_1_method_4_code 64 = .ok (.ireturn, 1) := q_tb t_S_variable 35 rfl
def T_S_told : List (Nat × Instr × Nat) := [(0, .iload_n 1, 1), (1, .aload_n 0, 1), (2, .getfield 19, 3), (5, .getfield 75, 3), (8, .invokestatic 95, 3), (11, .aload_n 0, 1), (12, .getfield 19, 3), (15, .getfield 78, 3), (18, .iload_n 1, 1), (19, .aaload, 1), (20, .astore_n 3, 1), (21, .iload_n 2, 1), (22, .tableswitch 44 0 2 #[26, 31, 36], 26), (48, .aload_n 3, 1), (49, .getfield 98, 3), (52, .ireturn, 1), (53, .aload_n 3, 1), (54, .invokevirtual 103, 3), (57, .ireturn, 1), (58, .aload_n 3, 1), (59, .getfield 107, 3), (62, .invokestatic 110, 3), (65, .ireturn, 1), (66, .new 48, 3), (69, .dup, 1), (70, .ldc 116, 2), (72, .invokespecial 52, 3), (75, .athrow, 1)]
set_option maxRecDepth 100000 in
theorem t_S_told : ∀ q ∈ T_S_told, decode prog_1_method_9_code q.1 = .ok q.2 := by decide +kernel
theorem d_S_told_0 : decode prog_1_method_9_code 0 = .ok (.iload_n 1, 1) := q_tb t_S_told 0 rfl
theorem d_S_told_1 : decode prog_1_method_9_code 1 = .ok (.aload_n 0, 1) := q_tb t_S_told 1 rfl
theorem d_S_told_2 : decode prog_1_method_9_code 2 = .ok (.getfield 19, 3) := q_tb t_S_told 2 rfl
theorem d_S_told_5 : decode prog_1_method_9_code 5 = .ok (.getfield 75, 3) := q_tb t_S_told 3 rfl
theorem d_S_told_8 : decode prog_1_method_9_code 8 = .ok (.invokestatic 95, 3) := q_tb t_S_told 4 rfl
theorem d_S_told_11 : decode prog_1_method_9_code 11 = .ok (.aload_n 0, 1) := q_tb t_S_told 5 rfl
theorem d_S_told_12 : decode prog_1_method_9_code 12 = .ok (.getfield 19, 3) := q_tb t_S_told 6 rfl
theorem d_S_told_15 : decode prog_1_method_9_code 15 = .ok (.getfield 78, 3) := q_tb t_S_told 7 rfl
theorem d_S_told_18 : decode prog_1_method_9_code 18 = .ok (.iload_n 1, 1) := q_tb t_S_told 8 rfl
theorem d_S_told_19 : decode prog_1_method_9_code 19 = .ok (.aaload, 1) := q_tb t_S_told 9 rfl
theorem d_S_told_20 : decode prog_1_method_9_code 20 = .ok (.astore_n 3, 1) := q_tb t_S_told 10 rfl
theorem d_S_told_21 : decode prog_1_method_9_code 21 = .ok (.iload_n 2, 1) := q_tb t_S_told 11 rfl
theorem d_S_told_22 : decode prog_1_method_9_code 22 = .ok (.tableswitch 44 0 2 #[26, 31, 36], 26) := q_tb t_S_told 12 rfl
theorem d_S_told_48 : decode prog_1_method_9_code 48 = .ok (.aload_n 3, 1) := q_tb t_S_told 13 rfl
theorem d_S_told_49 : decode prog_1_method_9_code 49 = .ok (.getfield 98, 3) := q_tb t_S_told 14 rfl
theorem d_S_told_52 : decode prog_1_method_9_code 52 = .ok (.ireturn, 1) := q_tb t_S_told 15 rfl
theorem d_S_told_53 : decode prog_1_method_9_code 53 = .ok (.aload_n 3, 1) := q_tb t_S_told 16 rfl
theorem d_S_told_54 : decode prog_1_method_9_code 54 = .ok (.invokevirtual 103, 3) := q_tb t_S_told 17 rfl
theorem d_S_told_57 : decode prog_1_method_9_code 57 = .ok (.ireturn, 1) := q_tb t_S_told 18 rfl
theorem d_S_told_58 : decode prog_1_method_9_code 58 = .ok (.aload_n 3, 1) := q_tb t_S_told 19 rfl
theorem d_S_told_59 : decode prog_1_method_9_code 59 = .ok (.getfield 107, 3) := q_tb t_S_told 20 rfl
theorem d_S_told_62 : decode prog_1_method_9_code 62 = .ok (.invokestatic 110, 3) := q_tb t_S_told 21 rfl
theorem d_S_told_65 : decode prog_1_method_9_code 65 = .ok (.ireturn, 1) := q_tb t_S_told 22 rfl
theorem d_S_told_66 : decode prog_1_method_9_code 66 = .ok (.new 48, 3) := q_tb t_S_told 23 rfl
theorem d_S_told_69 : decode prog_1_method_9_code 69 = .ok (.dup, 1) := q_tb t_S_told 24 rfl
theorem d_S_told_70 : decode prog_1_method_9_code 70 = .ok (.ldc 116, 2) := q_tb t_S_told 25 rfl
theorem d_S_told_72 : decode prog_1_method_9_code 72 = .ok (.invokespecial 52, 3) := q_tb t_S_told 26 rfl
theorem d_S_told_75 : decode prog_1_method_9_code 75 = .ok (.athrow, 1) := q_tb t_S_told 27 rfl
def T_S_checkIndex : List (Nat × Instr × Nat) := [(0, .iload_n 0, 1), (1, .ifCond .lt 8, 3), (4, .iload_n 0, 1), (5, .iload_n 1, 1), (6, .if_icmp .lt 13, 3), (9, .new 164, 3), (12, .dup, 1), (13, .ldc 201, 2), (15, .invokespecial 168, 3), (18, .athrow, 1), (19, .return_, 1)]
set_option maxRecDepth 100000 in
theorem t_S_checkIndex : ∀ q ∈ T_S_checkIndex, decode prog_1_method_24_code q.1 = .ok q.2 := by decide +kernel
theorem d_S_checkIndex_0 : decode prog_1_method_24_code 0 = .ok (.iload_n 0, 1) := q_tb t_S_checkIndex 0 rfl
theorem d_S_checkIndex_1 : decode prog_1_method_24_code 1 = .ok (.ifCond .lt 8, 3) := q_tb t_S_checkIndex 1 rfl
theorem d_S_checkIndex_4 : decode prog_1_method_24_code 4 = .ok (.iload_n 0, 1) := q_tb t_S_checkIndex 2 rfl
theorem d_S_checkIndex_5 : decode prog_1_method_24_code 5 = .ok (.iload_n 1, 1) := q_tb t_S_checkIndex 3 rfl
theorem d_S_checkIndex_6 : decode prog_1_method_24_code 6 = .ok (.if_icmp .lt 13, 3) := q_tb t_S_checkIndex 4 rfl
theorem d_S_checkIndex_9 : decode prog_1_method_24_code 9 = .ok (.new 164, 3) := q_tb t_S_checkIndex 5 rfl
theorem d_S_checkIndex_12 : decode prog_1_method_24_code 12 = .ok (.dup, 1) := q_tb t_S_checkIndex 6 rfl
theorem d_S_checkIndex_13 : decode prog_1_method_24_code 13 = .ok (.ldc 201, 2) := q_tb t_S_checkIndex 7 rfl
theorem d_S_checkIndex_15 : decode prog_1_method_24_code 15 = .ok (.invokespecial 168, 3) := q_tb t_S_checkIndex 8 rfl
theorem d_S_checkIndex_18 : decode prog_1_method_24_code 18 = .ok (.athrow, 1) := q_tb t_S_checkIndex 9 rfl
theorem d_S_checkIndex_19 : decode prog_1_method_24_code 19 = .ok (.return_, 1) := q_tb t_S_checkIndex 10 rfl
def T_S_place : List (Nat × Instr × Nat) := [(0, .aload_n 0, 1), (1, .invokevirtual 135, 3), (4, .aload_n 0, 1), (5, .getfield 37, 3), (8, .invokevirtual 126, 3), (11, .iload_n 1, 1), (12, .aload_n 0, 1), (13, .getfield 37, 3), (16, .getfield 129, 3), (19, .invokestatic 95, 3), (22, .iload_n 2, 1), (23, .aload_n 0, 1), (24, .getfield 19, 3), (27, .getfield 75, 3), (30, .invokestatic 95, 3), (33, .aload_n 0, 1), (34, .getfield 37, 3), (37, .iload_n 1, 1), (38, .invokevirtual 138, 3), (41, .getfield 142, 3), (44, .iload_n 2, 1), (45, .iaload, 1), (46, .ireturn, 1)]
set_option maxRecDepth 100000 in
theorem t_S_place : ∀ q ∈ T_S_place, decode prog_1_method_13_code q.1 = .ok q.2 := by decide +kernel
theorem d_S_place_0 : decode prog_1_method_13_code 0 = .ok (.aload_n 0, 1) := q_tb t_S_place 0 rfl
theorem d_S_place_1 : decode prog_1_method_13_code 1 = .ok (.invokevirtual 135, 3) := q_tb t_S_place 1 rfl
theorem d_S_place_4 : decode prog_1_method_13_code 4 = .ok (.aload_n 0, 1) := q_tb t_S_place 2 rfl
theorem d_S_place_5 : decode prog_1_method_13_code 5 = .ok (.getfield 37, 3) := q_tb t_S_place 3 rfl
theorem d_S_place_8 : decode prog_1_method_13_code 8 = .ok (.invokevirtual 126, 3) := q_tb t_S_place 4 rfl
theorem d_S_place_11 : decode prog_1_method_13_code 11 = .ok (.iload_n 1, 1) := q_tb t_S_place 5 rfl
theorem d_S_place_12 : decode prog_1_method_13_code 12 = .ok (.aload_n 0, 1) := q_tb t_S_place 6 rfl
theorem d_S_place_13 : decode prog_1_method_13_code 13 = .ok (.getfield 37, 3) := q_tb t_S_place 7 rfl
theorem d_S_place_16 : decode prog_1_method_13_code 16 = .ok (.getfield 129, 3) := q_tb t_S_place 8 rfl
theorem d_S_place_19 : decode prog_1_method_13_code 19 = .ok (.invokestatic 95, 3) := q_tb t_S_place 9 rfl
theorem d_S_place_22 : decode prog_1_method_13_code 22 = .ok (.iload_n 2, 1) := q_tb t_S_place 10 rfl
theorem d_S_place_23 : decode prog_1_method_13_code 23 = .ok (.aload_n 0, 1) := q_tb t_S_place 11 rfl
theorem d_S_place_24 : decode prog_1_method_13_code 24 = .ok (.getfield 19, 3) := q_tb t_S_place 12 rfl
theorem d_S_place_27 : decode prog_1_method_13_code 27 = .ok (.getfield 75, 3) := q_tb t_S_place 13 rfl
theorem d_S_place_30 : decode prog_1_method_13_code 30 = .ok (.invokestatic 95, 3) := q_tb t_S_place 14 rfl
theorem d_S_place_33 : decode prog_1_method_13_code 33 = .ok (.aload_n 0, 1) := q_tb t_S_place 15 rfl
theorem d_S_place_34 : decode prog_1_method_13_code 34 = .ok (.getfield 37, 3) := q_tb t_S_place 16 rfl
theorem d_S_place_37 : decode prog_1_method_13_code 37 = .ok (.iload_n 1, 1) := q_tb t_S_place 17 rfl
theorem d_S_place_38 : decode prog_1_method_13_code 38 = .ok (.invokevirtual 138, 3) := q_tb t_S_place 18 rfl
theorem d_S_place_41 : decode prog_1_method_13_code 41 = .ok (.getfield 142, 3) := q_tb t_S_place 19 rfl
theorem d_S_place_44 : decode prog_1_method_13_code 44 = .ok (.iload_n 2, 1) := q_tb t_S_place 20 rfl
theorem d_S_place_45 : decode prog_1_method_13_code 45 = .ok (.iaload, 1) := q_tb t_S_place 21 rfl
theorem d_S_place_46 : decode prog_1_method_13_code 46 = .ok (.ireturn, 1) := q_tb t_S_place 22 rfl
def T_S_checkSearchable : List (Nat × Instr × Nat) := [(0, .aload_n 0, 1), (1, .getfield 19, 3), (4, .invokevirtual 118, 3), (7, .ifCond .ne 13, 3), (10, .new 196, 3), (13, .dup, 1), (14, .ldc 198, 2), (16, .invokespecial 200, 3), (19, .athrow, 1), (20, .return_, 1)]
set_option maxRecDepth 100000 in
theorem t_S_checkSearchable : ∀ q ∈ T_S_checkSearchable, decode prog_1_method_23_code q.1 = .ok q.2 := by decide +kernel
theorem d_S_checkSearchable_0 : decode prog_1_method_23_code 0 = .ok (.aload_n 0, 1) := q_tb t_S_checkSearchable 0 rfl
theorem d_S_checkSearchable_1 : decode prog_1_method_23_code 1 = .ok (.getfield 19, 3) := q_tb t_S_checkSearchable 1 rfl
theorem d_S_checkSearchable_4 : decode prog_1_method_23_code 4 = .ok (.invokevirtual 118, 3) := q_tb t_S_checkSearchable 2 rfl
theorem d_S_checkSearchable_7 : decode prog_1_method_23_code 7 = .ok (.ifCond .ne 13, 3) := q_tb t_S_checkSearchable 3 rfl
theorem d_S_checkSearchable_10 : decode prog_1_method_23_code 10 = .ok (.new 196, 3) := q_tb t_S_checkSearchable 4 rfl
theorem d_S_checkSearchable_13 : decode prog_1_method_23_code 13 = .ok (.dup, 1) := q_tb t_S_checkSearchable 5 rfl
theorem d_S_checkSearchable_14 : decode prog_1_method_23_code 14 = .ok (.ldc 198, 2) := q_tb t_S_checkSearchable 6 rfl
theorem d_S_checkSearchable_16 : decode prog_1_method_23_code 16 = .ok (.invokespecial 200, 3) := q_tb t_S_checkSearchable 7 rfl
theorem d_S_checkSearchable_19 : decode prog_1_method_23_code 19 = .ok (.athrow, 1) := q_tb t_S_checkSearchable 8 rfl
theorem d_S_checkSearchable_20 : decode prog_1_method_23_code 20 = .ok (.return_, 1) := q_tb t_S_checkSearchable 9 rfl
def T_S_value : List (Nat × Instr × Nat) := [(0, .aload_n 0, 1), (1, .invokevirtual 135, 3), (4, .aload_n 0, 1), (5, .getfield 37, 3), (8, .invokevirtual 126, 3), (11, .iload_n 1, 1), (12, .aload_n 0, 1), (13, .getfield 37, 3), (16, .getfield 129, 3), (19, .invokestatic 95, 3), (22, .iload_n 2, 1), (23, .aload_n 0, 1), (24, .getfield 19, 3), (27, .getfield 65, 3), (30, .invokestatic 95, 3), (33, .aload_n 0, 1), (34, .getfield 37, 3), (37, .iload_n 1, 1), (38, .invokevirtual 138, 3), (41, .getfield 146, 3), (44, .iload_n 2, 1), (45, .iaload, 1), (46, .ireturn, 1)]
set_option maxRecDepth 100000 in
theorem t_S_value : ∀ q ∈ T_S_value, decode prog_1_method_14_code q.1 = .ok q.2 := by decide +kernel
theorem d_S_value_0 : decode prog_1_method_14_code 0 = .ok (.aload_n 0, 1) := q_tb t_S_value 0 rfl
theorem d_S_value_1 : decode prog_1_method_14_code 1 = .ok (.invokevirtual 135, 3) := q_tb t_S_value 1 rfl
theorem d_S_value_4 : decode prog_1_method_14_code 4 = .ok (.aload_n 0, 1) := q_tb t_S_value 2 rfl
theorem d_S_value_5 : decode prog_1_method_14_code 5 = .ok (.getfield 37, 3) := q_tb t_S_value 3 rfl
theorem d_S_value_8 : decode prog_1_method_14_code 8 = .ok (.invokevirtual 126, 3) := q_tb t_S_value 4 rfl
theorem d_S_value_11 : decode prog_1_method_14_code 11 = .ok (.iload_n 1, 1) := q_tb t_S_value 5 rfl
theorem d_S_value_12 : decode prog_1_method_14_code 12 = .ok (.aload_n 0, 1) := q_tb t_S_value 6 rfl
theorem d_S_value_13 : decode prog_1_method_14_code 13 = .ok (.getfield 37, 3) := q_tb t_S_value 7 rfl
theorem d_S_value_16 : decode prog_1_method_14_code 16 = .ok (.getfield 129, 3) := q_tb t_S_value 8 rfl
theorem d_S_value_19 : decode prog_1_method_14_code 19 = .ok (.invokestatic 95, 3) := q_tb t_S_value 9 rfl
theorem d_S_value_22 : decode prog_1_method_14_code 22 = .ok (.iload_n 2, 1) := q_tb t_S_value 10 rfl
theorem d_S_value_23 : decode prog_1_method_14_code 23 = .ok (.aload_n 0, 1) := q_tb t_S_value 11 rfl
theorem d_S_value_24 : decode prog_1_method_14_code 24 = .ok (.getfield 19, 3) := q_tb t_S_value 12 rfl
theorem d_S_value_27 : decode prog_1_method_14_code 27 = .ok (.getfield 65, 3) := q_tb t_S_value 13 rfl
theorem d_S_value_30 : decode prog_1_method_14_code 30 = .ok (.invokestatic 95, 3) := q_tb t_S_value 14 rfl
theorem d_S_value_33 : decode prog_1_method_14_code 33 = .ok (.aload_n 0, 1) := q_tb t_S_value 15 rfl
theorem d_S_value_34 : decode prog_1_method_14_code 34 = .ok (.getfield 37, 3) := q_tb t_S_value 16 rfl
theorem d_S_value_37 : decode prog_1_method_14_code 37 = .ok (.iload_n 1, 1) := q_tb t_S_value 17 rfl
theorem d_S_value_38 : decode prog_1_method_14_code 38 = .ok (.invokevirtual 138, 3) := q_tb t_S_value 18 rfl
theorem d_S_value_41 : decode prog_1_method_14_code 41 = .ok (.getfield 146, 3) := q_tb t_S_value 19 rfl
theorem d_S_value_44 : decode prog_1_method_14_code 44 = .ok (.iload_n 2, 1) := q_tb t_S_value 20 rfl
theorem d_S_value_45 : decode prog_1_method_14_code 45 = .ok (.iaload, 1) := q_tb t_S_value 21 rfl
theorem d_S_value_46 : decode prog_1_method_14_code 46 = .ok (.ireturn, 1) := q_tb t_S_value 22 rfl
def T_S_move0 : List (Nat × Instr × Nat) := [(0, .iload_n 1, 1), (1, .istore_n 2, 1), (2, .iconst 0, 1), (3, .istore_n 3, 1), (4, .iload_n 3, 1), (5, .aload_n 0, 1), (6, .getfield 19, 3), (9, .getfield 75, 3), (12, .if_icmp .ge 86, 3), (15, .iload_n 2, 1), (16, .ifCond .lt 82, 3), (19, .aload_n 0, 1), (20, .getfield 19, 3), (23, .aload_n 0, 1), (24, .getfield 44, 3), (27, .iload_n 3, 1), (28, .invokevirtual 149, 3), (31, .istore 4, 2), (33, .iload 4, 2), (35, .invokestatic 110, 3), (38, .istore 5, 2), (40, .iload_n 2, 1), (41, .iload 5, 2), (43, .if_icmp .ge 44, 3), (46, .iload 4, 2), (48, .i2l, 1), (49, .iload_n 2, 1), (50, .invokestatic 153, 3), (53, .istore 6, 2), (55, .aload_n 0, 1), (56, .getfield 19, 3), (59, .aload_n 0, 1), (60, .getfield 44, 3), (63, .iload_n 3, 1), (64, .iload 6, 2), (66, .invokevirtual 157, 3), (69, .aload_n 0, 1), (70, .dup, 1), (71, .getfield 161, 3), (74, .iconst 1, 1)]
set_option maxRecDepth 100000 in
theorem t_S_move0 : ∀ q ∈ T_S_move0, decode prog_1_method_16_code q.1 = .ok q.2 := by decide +kernel
theorem d_S_move_0 : decode prog_1_method_16_code 0 = .ok (.iload_n 1, 1) := q_tb t_S_move0 0 rfl
theorem d_S_move_1 : decode prog_1_method_16_code 1 = .ok (.istore_n 2, 1) := q_tb t_S_move0 1 rfl
theorem d_S_move_2 : decode prog_1_method_16_code 2 = .ok (.iconst 0, 1) := q_tb t_S_move0 2 rfl
theorem d_S_move_3 : decode prog_1_method_16_code 3 = .ok (.istore_n 3, 1) := q_tb t_S_move0 3 rfl
theorem d_S_move_4 : decode prog_1_method_16_code 4 = .ok (.iload_n 3, 1) := q_tb t_S_move0 4 rfl
theorem d_S_move_5 : decode prog_1_method_16_code 5 = .ok (.aload_n 0, 1) := q_tb t_S_move0 5 rfl
theorem d_S_move_6 : decode prog_1_method_16_code 6 = .ok (.getfield 19, 3) := q_tb t_S_move0 6 rfl
theorem d_S_move_9 : decode prog_1_method_16_code 9 = .ok (.getfield 75, 3) := q_tb t_S_move0 7 rfl
theorem d_S_move_12 : decode prog_1_method_16_code 12 = .ok (.if_icmp .ge 86, 3) := q_tb t_S_move0 8 rfl
theorem d_S_move_15 : decode prog_1_method_16_code 15 = .ok (.iload_n 2, 1) := q_tb t_S_move0 9 rfl
theorem d_S_move_16 : decode prog_1_method_16_code 16 = .ok (.ifCond .lt 82, 3) := q_tb t_S_move0 10 rfl
theorem d_S_move_19 : decode prog_1_method_16_code 19 = .ok (.aload_n 0, 1) := q_tb t_S_move0 11 rfl
theorem d_S_move_20 : decode prog_1_method_16_code 20 = .ok (.getfield 19, 3) := q_tb t_S_move0 12 rfl
theorem d_S_move_23 : decode prog_1_method_16_code 23 = .ok (.aload_n 0, 1) := q_tb t_S_move0 13 rfl
theorem d_S_move_24 : decode prog_1_method_16_code 24 = .ok (.getfield 44, 3) := q_tb t_S_move0 14 rfl
theorem d_S_move_27 : decode prog_1_method_16_code 27 = .ok (.iload_n 3, 1) := q_tb t_S_move0 15 rfl
theorem d_S_move_28 : decode prog_1_method_16_code 28 = .ok (.invokevirtual 149, 3) := q_tb t_S_move0 16 rfl
theorem d_S_move_31 : decode prog_1_method_16_code 31 = .ok (.istore 4, 2) := q_tb t_S_move0 17 rfl
theorem d_S_move_33 : decode prog_1_method_16_code 33 = .ok (.iload 4, 2) := q_tb t_S_move0 18 rfl
theorem d_S_move_35 : decode prog_1_method_16_code 35 = .ok (.invokestatic 110, 3) := q_tb t_S_move0 19 rfl
theorem d_S_move_38 : decode prog_1_method_16_code 38 = .ok (.istore 5, 2) := q_tb t_S_move0 20 rfl
theorem d_S_move_40 : decode prog_1_method_16_code 40 = .ok (.iload_n 2, 1) := q_tb t_S_move0 21 rfl
theorem d_S_move_41 : decode prog_1_method_16_code 41 = .ok (.iload 5, 2) := q_tb t_S_move0 22 rfl
theorem d_S_move_43 : decode prog_1_method_16_code 43 = .ok (.if_icmp .ge 44, 3) := q_tb t_S_move0 23 rfl
theorem d_S_move_46 : decode prog_1_method_16_code 46 = .ok (.iload 4, 2) := q_tb t_S_move0 24 rfl
theorem d_S_move_48 : decode prog_1_method_16_code 48 = .ok (.i2l, 1) := q_tb t_S_move0 25 rfl
theorem d_S_move_49 : decode prog_1_method_16_code 49 = .ok (.iload_n 2, 1) := q_tb t_S_move0 26 rfl
theorem d_S_move_50 : decode prog_1_method_16_code 50 = .ok (.invokestatic 153, 3) := q_tb t_S_move0 27 rfl
theorem d_S_move_53 : decode prog_1_method_16_code 53 = .ok (.istore 6, 2) := q_tb t_S_move0 28 rfl
theorem d_S_move_55 : decode prog_1_method_16_code 55 = .ok (.aload_n 0, 1) := q_tb t_S_move0 29 rfl
theorem d_S_move_56 : decode prog_1_method_16_code 56 = .ok (.getfield 19, 3) := q_tb t_S_move0 30 rfl
theorem d_S_move_59 : decode prog_1_method_16_code 59 = .ok (.aload_n 0, 1) := q_tb t_S_move0 31 rfl
theorem d_S_move_60 : decode prog_1_method_16_code 60 = .ok (.getfield 44, 3) := q_tb t_S_move0 32 rfl
theorem d_S_move_63 : decode prog_1_method_16_code 63 = .ok (.iload_n 3, 1) := q_tb t_S_move0 33 rfl
theorem d_S_move_64 : decode prog_1_method_16_code 64 = .ok (.iload 6, 2) := q_tb t_S_move0 34 rfl
theorem d_S_move_66 : decode prog_1_method_16_code 66 = .ok (.invokevirtual 157, 3) := q_tb t_S_move0 35 rfl
theorem d_S_move_69 : decode prog_1_method_16_code 69 = .ok (.aload_n 0, 1) := q_tb t_S_move0 36 rfl
theorem d_S_move_70 : decode prog_1_method_16_code 70 = .ok (.dup, 1) := q_tb t_S_move0 37 rfl
theorem d_S_move_71 : decode prog_1_method_16_code 71 = .ok (.getfield 161, 3) := q_tb t_S_move0 38 rfl
theorem d_S_move_74 : decode prog_1_method_16_code 74 = .ok (.iconst 1, 1) := q_tb t_S_move0 39 rfl
def T_S_move1 : List (Nat × Instr × Nat) := [(75, .iadd, 1), (76, .putfield 161, 3), (79, .bipush 16, 2), (81, .iload_n 3, 1), (82, .imul, 1), (83, .iload 6, 2), (85, .iadd, 1), (86, .ireturn, 1), (87, .iload_n 2, 1), (88, .iload 5, 2), (90, .isub, 1), (91, .istore_n 2, 1), (92, .iinc 3 1, 3), (95, .goto (-91), 3), (98, .new 164, 3), (101, .dup, 1), (102, .ldc 166, 2), (104, .invokespecial 168, 3), (107, .athrow, 1)]
set_option maxRecDepth 100000 in
theorem t_S_move1 : ∀ q ∈ T_S_move1, decode prog_1_method_16_code q.1 = .ok q.2 := by decide +kernel
theorem d_S_move_75 : decode prog_1_method_16_code 75 = .ok (.iadd, 1) := q_tb t_S_move1 0 rfl
theorem d_S_move_76 : decode prog_1_method_16_code 76 = .ok (.putfield 161, 3) := q_tb t_S_move1 1 rfl
theorem d_S_move_79 : decode prog_1_method_16_code 79 = .ok (.bipush 16, 2) := q_tb t_S_move1 2 rfl
theorem d_S_move_81 : decode prog_1_method_16_code 81 = .ok (.iload_n 3, 1) := q_tb t_S_move1 3 rfl
theorem d_S_move_82 : decode prog_1_method_16_code 82 = .ok (.imul, 1) := q_tb t_S_move1 4 rfl
theorem d_S_move_83 : decode prog_1_method_16_code 83 = .ok (.iload 6, 2) := q_tb t_S_move1 5 rfl
theorem d_S_move_85 : decode prog_1_method_16_code 85 = .ok (.iadd, 1) := q_tb t_S_move1 6 rfl
theorem d_S_move_86 : decode prog_1_method_16_code 86 = .ok (.ireturn, 1) := q_tb t_S_move1 7 rfl
theorem d_S_move_87 : decode prog_1_method_16_code 87 = .ok (.iload_n 2, 1) := q_tb t_S_move1 8 rfl
theorem d_S_move_88 : decode prog_1_method_16_code 88 = .ok (.iload 5, 2) := q_tb t_S_move1 9 rfl
theorem d_S_move_90 : decode prog_1_method_16_code 90 = .ok (.isub, 1) := q_tb t_S_move1 10 rfl
theorem d_S_move_91 : decode prog_1_method_16_code 91 = .ok (.istore_n 2, 1) := q_tb t_S_move1 11 rfl
theorem d_S_move_92 : decode prog_1_method_16_code 92 = .ok (.iinc 3 1, 3) := q_tb t_S_move1 12 rfl
theorem d_S_move_95 : decode prog_1_method_16_code 95 = .ok (.goto (-91), 3) := q_tb t_S_move1 13 rfl
theorem d_S_move_98 : decode prog_1_method_16_code 98 = .ok (.new 164, 3) := q_tb t_S_move1 14 rfl
theorem d_S_move_101 : decode prog_1_method_16_code 101 = .ok (.dup, 1) := q_tb t_S_move1 15 rfl
theorem d_S_move_102 : decode prog_1_method_16_code 102 = .ok (.ldc 166, 2) := q_tb t_S_move1 16 rfl
theorem d_S_move_104 : decode prog_1_method_16_code 104 = .ok (.invokespecial 168, 3) := q_tb t_S_move1 17 rfl
theorem d_S_move_107 : decode prog_1_method_16_code 107 = .ok (.athrow, 1) := q_tb t_S_move1 18 rfl
def T_S_now : List (Nat × Instr × Nat) := [(0, .iload_n 1, 1), (1, .aload_n 0, 1), (2, .getfield 19, 3), (5, .getfield 75, 3), (8, .invokestatic 95, 3), (11, .aload_n 0, 1), (12, .getfield 44, 3), (15, .getfield 142, 3), (18, .iload_n 1, 1), (19, .iaload, 1), (20, .ireturn, 1)]
set_option maxRecDepth 100000 in
theorem t_S_now : ∀ q ∈ T_S_now, decode prog_1_method_18_code q.1 = .ok q.2 := by decide +kernel
theorem d_S_now_0 : decode prog_1_method_18_code 0 = .ok (.iload_n 1, 1) := q_tb t_S_now 0 rfl
theorem d_S_now_1 : decode prog_1_method_18_code 1 = .ok (.aload_n 0, 1) := q_tb t_S_now 1 rfl
theorem d_S_now_2 : decode prog_1_method_18_code 2 = .ok (.getfield 19, 3) := q_tb t_S_now 2 rfl
theorem d_S_now_5 : decode prog_1_method_18_code 5 = .ok (.getfield 75, 3) := q_tb t_S_now 3 rfl
theorem d_S_now_8 : decode prog_1_method_18_code 8 = .ok (.invokestatic 95, 3) := q_tb t_S_now 4 rfl
theorem d_S_now_11 : decode prog_1_method_18_code 11 = .ok (.aload_n 0, 1) := q_tb t_S_now 5 rfl
theorem d_S_now_12 : decode prog_1_method_18_code 12 = .ok (.getfield 44, 3) := q_tb t_S_now 6 rfl
theorem d_S_now_15 : decode prog_1_method_18_code 15 = .ok (.getfield 142, 3) := q_tb t_S_now 7 rfl
theorem d_S_now_18 : decode prog_1_method_18_code 18 = .ok (.iload_n 1, 1) := q_tb t_S_now 8 rfl
theorem d_S_now_19 : decode prog_1_method_18_code 19 = .ok (.iaload, 1) := q_tb t_S_now 9 rfl
theorem d_S_now_20 : decode prog_1_method_18_code 20 = .ok (.ireturn, 1) := q_tb t_S_now 10 rfl
def T_S_has : List (Nat × Instr × Nat) := [(0, .iload_n 1, 1), (1, .aload_n 0, 1), (2, .getfield 19, 3), (5, .getfield 65, 3), (8, .invokestatic 95, 3), (11, .aload_n 0, 1), (12, .getfield 44, 3), (15, .getfield 146, 3), (18, .iload_n 1, 1), (19, .iaload, 1), (20, .ireturn, 1)]
set_option maxRecDepth 100000 in
theorem t_S_has : ∀ q ∈ T_S_has, decode prog_1_method_19_code q.1 = .ok q.2 := by decide +kernel
theorem d_S_has_0 : decode prog_1_method_19_code 0 = .ok (.iload_n 1, 1) := q_tb t_S_has 0 rfl
theorem d_S_has_1 : decode prog_1_method_19_code 1 = .ok (.aload_n 0, 1) := q_tb t_S_has 1 rfl
theorem d_S_has_2 : decode prog_1_method_19_code 2 = .ok (.getfield 19, 3) := q_tb t_S_has 2 rfl
theorem d_S_has_5 : decode prog_1_method_19_code 5 = .ok (.getfield 65, 3) := q_tb t_S_has 3 rfl
theorem d_S_has_8 : decode prog_1_method_19_code 8 = .ok (.invokestatic 95, 3) := q_tb t_S_has 4 rfl
theorem d_S_has_11 : decode prog_1_method_19_code 11 = .ok (.aload_n 0, 1) := q_tb t_S_has 5 rfl
theorem d_S_has_12 : decode prog_1_method_19_code 12 = .ok (.getfield 44, 3) := q_tb t_S_has 6 rfl
theorem d_S_has_15 : decode prog_1_method_19_code 15 = .ok (.getfield 146, 3) := q_tb t_S_has 7 rfl
theorem d_S_has_18 : decode prog_1_method_19_code 18 = .ok (.iload_n 1, 1) := q_tb t_S_has 8 rfl
theorem d_S_has_19 : decode prog_1_method_19_code 19 = .ok (.iaload, 1) := q_tb t_S_has 9 rfl
theorem d_S_has_20 : decode prog_1_method_19_code 20 = .ok (.ireturn, 1) := q_tb t_S_has 10 rfl
def T_S_falls : List (Nat × Instr × Nat) := [(0, .aload_n 0, 1), (1, .invokevirtual 135, 3), (4, .aload_n 0, 1), (5, .getfield 37, 3), (8, .invokevirtual 172, 3), (11, .aload_n 0, 1), (12, .getfield 37, 3), (15, .getfield 175, 3), (18, .aload_n 0, 1), (19, .getfield 19, 3), (22, .aload_n 0, 1), (23, .getfield 44, 3), (26, .invokevirtual 179, 3), (29, .invokevirtual 183, 3), (32, .ireturn, 1)]
set_option maxRecDepth 100000 in
theorem t_S_falls : ∀ q ∈ T_S_falls, decode prog_1_method_20_code q.1 = .ok q.2 := by decide +kernel
theorem d_S_falls_0 : decode prog_1_method_20_code 0 = .ok (.aload_n 0, 1) := q_tb t_S_falls 0 rfl
theorem d_S_falls_1 : decode prog_1_method_20_code 1 = .ok (.invokevirtual 135, 3) := q_tb t_S_falls 1 rfl
theorem d_S_falls_4 : decode prog_1_method_20_code 4 = .ok (.aload_n 0, 1) := q_tb t_S_falls 2 rfl
theorem d_S_falls_5 : decode prog_1_method_20_code 5 = .ok (.getfield 37, 3) := q_tb t_S_falls 3 rfl
theorem d_S_falls_8 : decode prog_1_method_20_code 8 = .ok (.invokevirtual 172, 3) := q_tb t_S_falls 4 rfl
theorem d_S_falls_11 : decode prog_1_method_20_code 11 = .ok (.aload_n 0, 1) := q_tb t_S_falls 5 rfl
theorem d_S_falls_12 : decode prog_1_method_20_code 12 = .ok (.getfield 37, 3) := q_tb t_S_falls 6 rfl
theorem d_S_falls_15 : decode prog_1_method_20_code 15 = .ok (.getfield 175, 3) := q_tb t_S_falls 7 rfl
theorem d_S_falls_18 : decode prog_1_method_20_code 18 = .ok (.aload_n 0, 1) := q_tb t_S_falls 8 rfl
theorem d_S_falls_19 : decode prog_1_method_20_code 19 = .ok (.getfield 19, 3) := q_tb t_S_falls 9 rfl
theorem d_S_falls_22 : decode prog_1_method_20_code 22 = .ok (.aload_n 0, 1) := q_tb t_S_falls 10 rfl
theorem d_S_falls_23 : decode prog_1_method_20_code 23 = .ok (.getfield 44, 3) := q_tb t_S_falls 11 rfl
theorem d_S_falls_26 : decode prog_1_method_20_code 26 = .ok (.invokevirtual 179, 3) := q_tb t_S_falls 12 rfl
theorem d_S_falls_29 : decode prog_1_method_20_code 29 = .ok (.invokevirtual 183, 3) := q_tb t_S_falls 13 rfl
theorem d_S_falls_32 : decode prog_1_method_20_code 32 = .ok (.ireturn, 1) := q_tb t_S_falls 14 rfl
end NAMES3
