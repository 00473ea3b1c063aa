/-! names, 3e: decode tables, printed by gen/names2.py -/
section NAMES3
def T_Mo_fault : List (Nat × Instr × Nat) := [(0, .aload_n 0, 1), (1, .iconst 0, 1), (2, .putfield 90, 3), (5, .aload_n 0, 1), (6, .getfield 114, 3), (9, .ireturn, 1)]
set_option maxRecDepth 100000 in
theorem t_Mo_fault : ∀ q ∈ T_Mo_fault, decode prog_11_method_19_code q.1 = .ok q.2 := by decide +kernel
theorem d_Mo_fault_0 : decode prog_11_method_19_code 0 = .ok (.aload_n 0, 1) := q_tb t_Mo_fault 0 rfl
theorem d_Mo_fault_1 : decode prog_11_method_19_code 1 = .ok (.iconst 0, 1) := q_tb t_Mo_fault 1 rfl
theorem d_Mo_fault_2 : decode prog_11_method_19_code 2 = .ok (.putfield 90, 3) := q_tb t_Mo_fault 2 rfl
theorem d_Mo_fault_5 : decode prog_11_method_19_code 5 = .ok (.aload_n 0, 1) := q_tb t_Mo_fault 3 rfl
theorem d_Mo_fault_6 : decode prog_11_method_19_code 6 = .ok (.getfield 114, 3) := q_tb t_Mo_fault 4 rfl
theorem d_Mo_fault_9 : decode prog_11_method_19_code 9 = .ok (.ireturn, 1) := q_tb t_Mo_fault 5 rfl
def T_Mo_faultAt : List (Nat × Instr × Nat) := [(0, .aload_n 0, 1), (1, .iconst 0, 1), (2, .putfield 90, 3), (5, .aload_n 0, 1), (6, .getfield 13, 3), (9, .ireturn, 1)]
set_option maxRecDepth 100000 in
theorem t_Mo_faultAt : ∀ q ∈ T_Mo_faultAt, decode prog_11_method_20_code q.1 = .ok q.2 := by decide +kernel
theorem d_Mo_faultAt_0 : decode prog_11_method_20_code 0 = .ok (.aload_n 0, 1) := q_tb t_Mo_faultAt 0 rfl
theorem d_Mo_faultAt_1 : decode prog_11_method_20_code 1 = .ok (.iconst 0, 1) := q_tb t_Mo_faultAt 1 rfl
theorem d_Mo_faultAt_2 : decode prog_11_method_20_code 2 = .ok (.putfield 90, 3) := q_tb t_Mo_faultAt 2 rfl
theorem d_Mo_faultAt_5 : decode prog_11_method_20_code 5 = .ok (.aload_n 0, 1) := q_tb t_Mo_faultAt 3 rfl
theorem d_Mo_faultAt_6 : decode prog_11_method_20_code 6 = .ok (.getfield 13, 3) := q_tb t_Mo_faultAt 4 rfl
theorem d_Mo_faultAt_9 : decode prog_11_method_20_code 9 = .ok (.ireturn, 1) := q_tb t_Mo_faultAt 5 rfl
def T_Mo_told0 : List (Nat × Instr × Nat) := [(0, .aload_n 0, 1), (1, .aload_n 0, 1), (2, .iload_n 1, 1), (3, .invokevirtual 168, 3), (6, .ifCond .eq 7, 3), (9, .iconst 1, 1), (10, .goto 17, 3), (13, .iload_n 2, 1), (14, .ifCond .lt 8, 3), (17, .iload_n 2, 1), (18, .iconst 2, 1), (19, .if_icmp .le 7, 3), (22, .iconst 2, 1), (23, .goto 4, 3), (26, .iconst 0, 1), (27, .putfield 90, 3), (30, .aload_n 0, 1), (31, .getfield 90, 3), (34, .ifCond .le 5, 3), (37, .iconst 0, 1), (38, .ireturn, 1), (39, .iconst 0, 1), (40, .istore_n 3, 1), (41, .iconst 0, 1), (42, .istore 4, 2), (44, .iload 4, 2), (46, .bipush 13, 2), (48, .if_icmp .ge 27, 3), (51, .iload_n 3, 1), (52, .aload_n 0, 1), (53, .getfield 29, 3), (56, .bipush 13, 2), (58, .iload_n 1, 1), (59, .imul, 1), (60, .iload 4, 2), (62, .iadd, 1), (63, .iaload, 1), (64, .invokestatic 172, 3), (67, .iadd, 1), (68, .istore_n 3, 1)]
set_option maxRecDepth 100000 in
theorem t_Mo_told0 : ∀ q ∈ T_Mo_told0, decode prog_11_method_23_code q.1 = .ok q.2 := by decide +kernel
theorem d_Mo_told_0 : decode prog_11_method_23_code 0 = .ok (.aload_n 0, 1) := q_tb t_Mo_told0 0 rfl
theorem d_Mo_told_1 : decode prog_11_method_23_code 1 = .ok (.aload_n 0, 1) := q_tb t_Mo_told0 1 rfl
theorem d_Mo_told_2 : decode prog_11_method_23_code 2 = .ok (.iload_n 1, 1) := q_tb t_Mo_told0 2 rfl
theorem d_Mo_told_3 : decode prog_11_method_23_code 3 = .ok (.invokevirtual 168, 3) := q_tb t_Mo_told0 3 rfl
theorem d_Mo_told_6 : decode prog_11_method_23_code 6 = .ok (.ifCond .eq 7, 3) := q_tb t_Mo_told0 4 rfl
theorem d_Mo_told_9 : decode prog_11_method_23_code 9 = .ok (.iconst 1, 1) := q_tb t_Mo_told0 5 rfl
theorem d_Mo_told_10 : decode prog_11_method_23_code 10 = .ok (.goto 17, 3) := q_tb t_Mo_told0 6 rfl
theorem d_Mo_told_13 : decode prog_11_method_23_code 13 = .ok (.iload_n 2, 1) := q_tb t_Mo_told0 7 rfl
theorem d_Mo_told_14 : decode prog_11_method_23_code 14 = .ok (.ifCond .lt 8, 3) := q_tb t_Mo_told0 8 rfl
theorem d_Mo_told_17 : decode prog_11_method_23_code 17 = .ok (.iload_n 2, 1) := q_tb t_Mo_told0 9 rfl
theorem d_Mo_told_18 : decode prog_11_method_23_code 18 = .ok (.iconst 2, 1) := q_tb t_Mo_told0 10 rfl
theorem d_Mo_told_19 : decode prog_11_method_23_code 19 = .ok (.if_icmp .le 7, 3) := q_tb t_Mo_told0 11 rfl
theorem d_Mo_told_22 : decode prog_11_method_23_code 22 = .ok (.iconst 2, 1) := q_tb t_Mo_told0 12 rfl
theorem d_Mo_told_23 : decode prog_11_method_23_code 23 = .ok (.goto 4, 3) := q_tb t_Mo_told0 13 rfl
theorem d_Mo_told_26 : decode prog_11_method_23_code 26 = .ok (.iconst 0, 1) := q_tb t_Mo_told0 14 rfl
theorem d_Mo_told_27 : decode prog_11_method_23_code 27 = .ok (.putfield 90, 3) := q_tb t_Mo_told0 15 rfl
theorem d_Mo_told_30 : decode prog_11_method_23_code 30 = .ok (.aload_n 0, 1) := q_tb t_Mo_told0 16 rfl
theorem d_Mo_told_31 : decode prog_11_method_23_code 31 = .ok (.getfield 90, 3) := q_tb t_Mo_told0 17 rfl
theorem d_Mo_told_34 : decode prog_11_method_23_code 34 = .ok (.ifCond .le 5, 3) := q_tb t_Mo_told0 18 rfl
theorem d_Mo_told_37 : decode prog_11_method_23_code 37 = .ok (.iconst 0, 1) := q_tb t_Mo_told0 19 rfl
theorem d_Mo_told_38 : decode prog_11_method_23_code 38 = .ok (.ireturn, 1) := q_tb t_Mo_told0 20 rfl
theorem d_Mo_told_39 : decode prog_11_method_23_code 39 = .ok (.iconst 0, 1) := q_tb t_Mo_told0 21 rfl
theorem d_Mo_told_40 : decode prog_11_method_23_code 40 = .ok (.istore_n 3, 1) := q_tb t_Mo_told0 22 rfl
theorem d_Mo_told_41 : decode prog_11_method_23_code 41 = .ok (.iconst 0, 1) := q_tb t_Mo_told0 23 rfl
theorem d_Mo_told_42 : decode prog_11_method_23_code 42 = .ok (.istore 4, 2) := q_tb t_Mo_told0 24 rfl
theorem d_Mo_told_44 : decode prog_11_method_23_code 44 = .ok (.iload 4, 2) := q_tb t_Mo_told0 25 rfl
theorem d_Mo_told_46 : decode prog_11_method_23_code 46 = .ok (.bipush 13, 2) := q_tb t_Mo_told0 26 rfl
theorem d_Mo_told_48 : decode prog_11_method_23_code 48 = .ok (.if_icmp .ge 27, 3) := q_tb t_Mo_told0 27 rfl
theorem d_Mo_told_51 : decode prog_11_method_23_code 51 = .ok (.iload_n 3, 1) := q_tb t_Mo_told0 28 rfl
theorem d_Mo_told_52 : decode prog_11_method_23_code 52 = .ok (.aload_n 0, 1) := q_tb t_Mo_told0 29 rfl
theorem d_Mo_told_53 : decode prog_11_method_23_code 53 = .ok (.getfield 29, 3) := q_tb t_Mo_told0 30 rfl
theorem d_Mo_told_56 : decode prog_11_method_23_code 56 = .ok (.bipush 13, 2) := q_tb t_Mo_told0 31 rfl
theorem d_Mo_told_58 : decode prog_11_method_23_code 58 = .ok (.iload_n 1, 1) := q_tb t_Mo_told0 32 rfl
theorem d_Mo_told_59 : decode prog_11_method_23_code 59 = .ok (.imul, 1) := q_tb t_Mo_told0 33 rfl
theorem d_Mo_told_60 : decode prog_11_method_23_code 60 = .ok (.iload 4, 2) := q_tb t_Mo_told0 34 rfl
theorem d_Mo_told_62 : decode prog_11_method_23_code 62 = .ok (.iadd, 1) := q_tb t_Mo_told0 35 rfl
theorem d_Mo_told_63 : decode prog_11_method_23_code 63 = .ok (.iaload, 1) := q_tb t_Mo_told0 36 rfl
theorem d_Mo_told_64 : decode prog_11_method_23_code 64 = .ok (.invokestatic 172, 3) := q_tb t_Mo_told0 37 rfl
theorem d_Mo_told_67 : decode prog_11_method_23_code 67 = .ok (.iadd, 1) := q_tb t_Mo_told0 38 rfl
theorem d_Mo_told_68 : decode prog_11_method_23_code 68 = .ok (.istore_n 3, 1) := q_tb t_Mo_told0 39 rfl
def T_Mo_told1 : List (Nat × Instr × Nat) := [(69, .iinc 4 1, 3), (72, .goto (-28), 3), (75, .iload_n 2, 1), (76, .ifCond .ne 12, 3), (79, .aload_n 0, 1), (80, .getfield 23, 3), (83, .iload_n 1, 1), (84, .iaload, 1), (85, .goto 21, 3), (88, .iload_n 2, 1), (89, .iconst 1, 1), (90, .if_icmp .ne 7, 3), (93, .iload_n 3, 1), (94, .goto 12, 3), (97, .aload_n 0, 1), (98, .getfield 26, 3), (101, .iload_n 1, 1), (102, .iaload, 1), (103, .invokestatic 172, 3), (106, .ireturn, 1)]
set_option maxRecDepth 100000 in
theorem t_Mo_told1 : ∀ q ∈ T_Mo_told1, decode prog_11_method_23_code q.1 = .ok q.2 := by decide +kernel
theorem d_Mo_told_69 : decode prog_11_method_23_code 69 = .ok (.iinc 4 1, 3) := q_tb t_Mo_told1 0 rfl
theorem d_Mo_told_72 : decode prog_11_method_23_code 72 = .ok (.goto (-28), 3) := q_tb t_Mo_told1 1 rfl
theorem d_Mo_told_75 : decode prog_11_method_23_code 75 = .ok (.iload_n 2, 1) := q_tb t_Mo_told1 2 rfl
theorem d_Mo_told_76 : decode prog_11_method_23_code 76 = .ok (.ifCond .ne 12, 3) := q_tb t_Mo_told1 3 rfl
theorem d_Mo_told_79 : decode prog_11_method_23_code 79 = .ok (.aload_n 0, 1) := q_tb t_Mo_told1 4 rfl
theorem d_Mo_told_80 : decode prog_11_method_23_code 80 = .ok (.getfield 23, 3) := q_tb t_Mo_told1 5 rfl
theorem d_Mo_told_83 : decode prog_11_method_23_code 83 = .ok (.iload_n 1, 1) := q_tb t_Mo_told1 6 rfl
theorem d_Mo_told_84 : decode prog_11_method_23_code 84 = .ok (.iaload, 1) := q_tb t_Mo_told1 7 rfl
theorem d_Mo_told_85 : decode prog_11_method_23_code 85 = .ok (.goto 21, 3) := q_tb t_Mo_told1 8 rfl
theorem d_Mo_told_88 : decode prog_11_method_23_code 88 = .ok (.iload_n 2, 1) := q_tb t_Mo_told1 9 rfl
theorem d_Mo_told_89 : decode prog_11_method_23_code 89 = .ok (.iconst 1, 1) := q_tb t_Mo_told1 10 rfl
theorem d_Mo_told_90 : decode prog_11_method_23_code 90 = .ok (.if_icmp .ne 7, 3) := q_tb t_Mo_told1 11 rfl
theorem d_Mo_told_93 : decode prog_11_method_23_code 93 = .ok (.iload_n 3, 1) := q_tb t_Mo_told1 12 rfl
theorem d_Mo_told_94 : decode prog_11_method_23_code 94 = .ok (.goto 12, 3) := q_tb t_Mo_told1 13 rfl
theorem d_Mo_told_97 : decode prog_11_method_23_code 97 = .ok (.aload_n 0, 1) := q_tb t_Mo_told1 14 rfl
theorem d_Mo_told_98 : decode prog_11_method_23_code 98 = .ok (.getfield 26, 3) := q_tb t_Mo_told1 15 rfl
theorem d_Mo_told_101 : decode prog_11_method_23_code 101 = .ok (.iload_n 1, 1) := q_tb t_Mo_told1 16 rfl
theorem d_Mo_told_102 : decode prog_11_method_23_code 102 = .ok (.iaload, 1) := q_tb t_Mo_told1 17 rfl
theorem d_Mo_told_103 : decode prog_11_method_23_code 103 = .ok (.invokestatic 172, 3) := q_tb t_Mo_told1 18 rfl
theorem d_Mo_told_106 : decode prog_11_method_23_code 106 = .ok (.ireturn, 1) := q_tb t_Mo_told1 19 rfl
def T_Mo_noProcess : List (Nat × Instr × Nat) := [(0, .iload_n 1, 1), (1, .ifCond .lt 11, 3), (4, .iload_n 1, 1), (5, .aload_n 0, 1), (6, .getfield 111, 3), (9, .if_icmp .lt 7, 3), (12, .iconst 1, 1), (13, .goto 4, 3), (16, .iconst 0, 1), (17, .ireturn, 1)]
set_option maxRecDepth 100000 in
theorem t_Mo_noProcess : ∀ q ∈ T_Mo_noProcess, decode prog_11_method_21_code q.1 = .ok q.2 := by decide +kernel
theorem d_Mo_noProcess_0 : decode prog_11_method_21_code 0 = .ok (.iload_n 1, 1) := q_tb t_Mo_noProcess 0 rfl
theorem d_Mo_noProcess_1 : decode prog_11_method_21_code 1 = .ok (.ifCond .lt 11, 3) := q_tb t_Mo_noProcess 1 rfl
theorem d_Mo_noProcess_4 : decode prog_11_method_21_code 4 = .ok (.iload_n 1, 1) := q_tb t_Mo_noProcess 2 rfl
theorem d_Mo_noProcess_5 : decode prog_11_method_21_code 5 = .ok (.aload_n 0, 1) := q_tb t_Mo_noProcess 3 rfl
theorem d_Mo_noProcess_6 : decode prog_11_method_21_code 6 = .ok (.getfield 111, 3) := q_tb t_Mo_noProcess 4 rfl
theorem d_Mo_noProcess_9 : decode prog_11_method_21_code 9 = .ok (.if_icmp .lt 7, 3) := q_tb t_Mo_noProcess 5 rfl
theorem d_Mo_noProcess_12 : decode prog_11_method_21_code 12 = .ok (.iconst 1, 1) := q_tb t_Mo_noProcess 6 rfl
theorem d_Mo_noProcess_13 : decode prog_11_method_21_code 13 = .ok (.goto 4, 3) := q_tb t_Mo_noProcess 7 rfl
theorem d_Mo_noProcess_16 : decode prog_11_method_21_code 16 = .ok (.iconst 0, 1) := q_tb t_Mo_noProcess 8 rfl
theorem d_Mo_noProcess_17 : decode prog_11_method_21_code 17 = .ok (.ireturn, 1) := q_tb t_Mo_noProcess 9 rfl
def T_Mo_ones : List (Nat × Instr × Nat) := [(0, .iconst 0, 1), (1, .istore_n 1, 1), (2, .iconst 0, 1), (3, .istore_n 2, 1), (4, .iload_n 2, 1), (5, .bipush 13, 2), (7, .if_icmp .ge 17, 3), (10, .iload_n 1, 1), (11, .iload_n 0, 1), (12, .iload_n 2, 1), (13, .ishr, 1), (14, .iconst 1, 1), (15, .iand, 1), (16, .iadd, 1), (17, .istore_n 1, 1), (18, .iinc 2 1, 3), (21, .goto (-17), 3), (24, .iload_n 1, 1), (25, .ireturn, 1)]
set_option maxRecDepth 100000 in
theorem t_Mo_ones : ∀ q ∈ T_Mo_ones, decode prog_11_method_22_code q.1 = .ok q.2 := by decide +kernel
theorem d_Mo_ones_0 : decode prog_11_method_22_code 0 = .ok (.iconst 0, 1) := q_tb t_Mo_ones 0 rfl
theorem d_Mo_ones_1 : decode prog_11_method_22_code 1 = .ok (.istore_n 1, 1) := q_tb t_Mo_ones 1 rfl
theorem d_Mo_ones_2 : decode prog_11_method_22_code 2 = .ok (.iconst 0, 1) := q_tb t_Mo_ones 2 rfl
theorem d_Mo_ones_3 : decode prog_11_method_22_code 3 = .ok (.istore_n 2, 1) := q_tb t_Mo_ones 3 rfl
theorem d_Mo_ones_4 : decode prog_11_method_22_code 4 = .ok (.iload_n 2, 1) := q_tb t_Mo_ones 4 rfl
theorem d_Mo_ones_5 : decode prog_11_method_22_code 5 = .ok (.bipush 13, 2) := q_tb t_Mo_ones 5 rfl
theorem d_Mo_ones_7 : decode prog_11_method_22_code 7 = .ok (.if_icmp .ge 17, 3) := q_tb t_Mo_ones 6 rfl
theorem d_Mo_ones_10 : decode prog_11_method_22_code 10 = .ok (.iload_n 1, 1) := q_tb t_Mo_ones 7 rfl
theorem d_Mo_ones_11 : decode prog_11_method_22_code 11 = .ok (.iload_n 0, 1) := q_tb t_Mo_ones 8 rfl
theorem d_Mo_ones_12 : decode prog_11_method_22_code 12 = .ok (.iload_n 2, 1) := q_tb t_Mo_ones 9 rfl
theorem d_Mo_ones_13 : decode prog_11_method_22_code 13 = .ok (.ishr, 1) := q_tb t_Mo_ones 10 rfl
theorem d_Mo_ones_14 : decode prog_11_method_22_code 14 = .ok (.iconst 1, 1) := q_tb t_Mo_ones 11 rfl
theorem d_Mo_ones_15 : decode prog_11_method_22_code 15 = .ok (.iand, 1) := q_tb t_Mo_ones 12 rfl
theorem d_Mo_ones_16 : decode prog_11_method_22_code 16 = .ok (.iadd, 1) := q_tb t_Mo_ones 13 rfl
theorem d_Mo_ones_17 : decode prog_11_method_22_code 17 = .ok (.istore_n 1, 1) := q_tb t_Mo_ones 14 rfl
theorem d_Mo_ones_18 : decode prog_11_method_22_code 18 = .ok (.iinc 2 1, 3) := q_tb t_Mo_ones 15 rfl
theorem d_Mo_ones_21 : decode prog_11_method_22_code 21 = .ok (.goto (-17), 3) := q_tb t_Mo_ones 16 rfl
theorem d_Mo_ones_24 : decode prog_11_method_22_code 24 = .ok (.iload_n 1, 1) := q_tb t_Mo_ones 17 rfl
theorem d_Mo_ones_25 : decode prog_11_method_22_code 25 = .ok (.ireturn, 1) := q_tb t_Mo_ones 18 rfl
def T_Mo_moves : List (Nat × Instr × Nat) := [(0, .aload_n 0, 1), (1, .iconst 0, 1), (2, .putfield 90, 3), (5, .aload_n 0, 1), (6, .invokevirtual 179, 3), (9, .aload_n 0, 1), (10, .invokevirtual 182, 3), (13, .ireturn, 1)]
set_option maxRecDepth 100000 in
theorem t_Mo_moves : ∀ q ∈ T_Mo_moves, decode prog_11_method_27_code q.1 = .ok q.2 := by decide +kernel
theorem d_Mo_moves_0 : decode prog_11_method_27_code 0 = .ok (.aload_n 0, 1) := q_tb t_Mo_moves 0 rfl
theorem d_Mo_moves_1 : decode prog_11_method_27_code 1 = .ok (.iconst 0, 1) := q_tb t_Mo_moves 1 rfl
theorem d_Mo_moves_2 : decode prog_11_method_27_code 2 = .ok (.putfield 90, 3) := q_tb t_Mo_moves 2 rfl
theorem d_Mo_moves_5 : decode prog_11_method_27_code 5 = .ok (.aload_n 0, 1) := q_tb t_Mo_moves 3 rfl
theorem d_Mo_moves_6 : decode prog_11_method_27_code 6 = .ok (.invokevirtual 179, 3) := q_tb t_Mo_moves 4 rfl
theorem d_Mo_moves_9 : decode prog_11_method_27_code 9 = .ok (.aload_n 0, 1) := q_tb t_Mo_moves 5 rfl
theorem d_Mo_moves_10 : decode prog_11_method_27_code 10 = .ok (.invokevirtual 182, 3) := q_tb t_Mo_moves 6 rfl
theorem d_Mo_moves_13 : decode prog_11_method_27_code 13 = .ok (.ireturn, 1) := q_tb t_Mo_moves 7 rfl
def T_Mo_fromNow : List (Nat × Instr × Nat) := [(0, .iconst 0, 1), (1, .istore_n 1, 1), (2, .iload_n 1, 1), (3, .bipush 11, 2), (5, .if_icmp .ge 21, 3), (8, .aload_n 0, 1), (9, .getfield 75, 3), (12, .iload_n 1, 1), (13, .aload_n 0, 1), (14, .getfield 72, 3), (17, .iload_n 1, 1), (18, .iaload, 1), (19, .iastore, 1), (20, .iinc 1 1, 3), (23, .goto (-21), 3), (26, .return_, 1)]
set_option maxRecDepth 100000 in
theorem t_Mo_fromNow : ∀ q ∈ T_Mo_fromNow, decode prog_11_method_26_code q.1 = .ok q.2 := by decide +kernel
theorem d_Mo_fromNow_0 : decode prog_11_method_26_code 0 = .ok (.iconst 0, 1) := q_tb t_Mo_fromNow 0 rfl
theorem d_Mo_fromNow_1 : decode prog_11_method_26_code 1 = .ok (.istore_n 1, 1) := q_tb t_Mo_fromNow 1 rfl
theorem d_Mo_fromNow_2 : decode prog_11_method_26_code 2 = .ok (.iload_n 1, 1) := q_tb t_Mo_fromNow 2 rfl
theorem d_Mo_fromNow_3 : decode prog_11_method_26_code 3 = .ok (.bipush 11, 2) := q_tb t_Mo_fromNow 3 rfl
theorem d_Mo_fromNow_5 : decode prog_11_method_26_code 5 = .ok (.if_icmp .ge 21, 3) := q_tb t_Mo_fromNow 4 rfl
theorem d_Mo_fromNow_8 : decode prog_11_method_26_code 8 = .ok (.aload_n 0, 1) := q_tb t_Mo_fromNow 5 rfl
theorem d_Mo_fromNow_9 : decode prog_11_method_26_code 9 = .ok (.getfield 75, 3) := q_tb t_Mo_fromNow 6 rfl
theorem d_Mo_fromNow_12 : decode prog_11_method_26_code 12 = .ok (.iload_n 1, 1) := q_tb t_Mo_fromNow 7 rfl
theorem d_Mo_fromNow_13 : decode prog_11_method_26_code 13 = .ok (.aload_n 0, 1) := q_tb t_Mo_fromNow 8 rfl
theorem d_Mo_fromNow_14 : decode prog_11_method_26_code 14 = .ok (.getfield 72, 3) := q_tb t_Mo_fromNow 9 rfl
theorem d_Mo_fromNow_17 : decode prog_11_method_26_code 17 = .ok (.iload_n 1, 1) := q_tb t_Mo_fromNow 10 rfl
theorem d_Mo_fromNow_18 : decode prog_11_method_26_code 18 = .ok (.iaload, 1) := q_tb t_Mo_fromNow 11 rfl
theorem d_Mo_fromNow_19 : decode prog_11_method_26_code 19 = .ok (.iastore, 1) := q_tb t_Mo_fromNow 12 rfl
theorem d_Mo_fromNow_20 : decode prog_11_method_26_code 20 = .ok (.iinc 1 1, 3) := q_tb t_Mo_fromNow 13 rfl
theorem d_Mo_fromNow_23 : decode prog_11_method_26_code 23 = .ok (.goto (-21), 3) := q_tb t_Mo_fromNow 14 rfl
theorem d_Mo_fromNow_26 : decode prog_11_method_26_code 26 = .ok (.return_, 1) := q_tb t_Mo_fromNow 15 rfl
def T_Mo_possible : List (Nat × Instr × Nat) := [(0, .iconst 0, 1), (1, .istore_n 1, 1), (2, .iconst 0, 1), (3, .istore_n 2, 1), (4, .iload_n 2, 1), (5, .aload_n 0, 1), (6, .getfield 111, 3), (9, .if_icmp .ge 40, 3), (12, .iconst 1, 1), (13, .istore_n 3, 1), (14, .iload_n 3, 1), (15, .bipush 13, 2), (17, .if_icmp .ge 26, 3), (20, .aload_n 0, 1), (21, .iload_n 2, 1), (22, .iload_n 3, 1), (23, .invokevirtual 175, 3), (26, .ifCond .eq 9, 3), (29, .iload_n 1, 1), (30, .iconst 1, 1), (31, .iadd, 1), (32, .goto 4, 3), (35, .iload_n 1, 1), (36, .istore_n 1, 1), (37, .iinc 3 1, 3), (40, .goto (-26), 3), (43, .iinc 2 1, 3), (46, .goto (-42), 3), (49, .iload_n 1, 1), (50, .ireturn, 1)]
set_option maxRecDepth 100000 in
theorem t_Mo_possible : ∀ q ∈ T_Mo_possible, decode prog_11_method_25_code q.1 = .ok q.2 := by decide +kernel
theorem d_Mo_possible_0 : decode prog_11_method_25_code 0 = .ok (.iconst 0, 1) := q_tb t_Mo_possible 0 rfl
theorem d_Mo_possible_1 : decode prog_11_method_25_code 1 = .ok (.istore_n 1, 1) := q_tb t_Mo_possible 1 rfl
theorem d_Mo_possible_2 : decode prog_11_method_25_code 2 = .ok (.iconst 0, 1) := q_tb t_Mo_possible 2 rfl
theorem d_Mo_possible_3 : decode prog_11_method_25_code 3 = .ok (.istore_n 2, 1) := q_tb t_Mo_possible 3 rfl
theorem d_Mo_possible_4 : decode prog_11_method_25_code 4 = .ok (.iload_n 2, 1) := q_tb t_Mo_possible 4 rfl
theorem d_Mo_possible_5 : decode prog_11_method_25_code 5 = .ok (.aload_n 0, 1) := q_tb t_Mo_possible 5 rfl
theorem d_Mo_possible_6 : decode prog_11_method_25_code 6 = .ok (.getfield 111, 3) := q_tb t_Mo_possible 6 rfl
theorem d_Mo_possible_9 : decode prog_11_method_25_code 9 = .ok (.if_icmp .ge 40, 3) := q_tb t_Mo_possible 7 rfl
theorem d_Mo_possible_12 : decode prog_11_method_25_code 12 = .ok (.iconst 1, 1) := q_tb t_Mo_possible 8 rfl
theorem d_Mo_possible_13 : decode prog_11_method_25_code 13 = .ok (.istore_n 3, 1) := q_tb t_Mo_possible 9 rfl
theorem d_Mo_possible_14 : decode prog_11_method_25_code 14 = .ok (.iload_n 3, 1) := q_tb t_Mo_possible 10 rfl
theorem d_Mo_possible_15 : decode prog_11_method_25_code 15 = .ok (.bipush 13, 2) := q_tb t_Mo_possible 11 rfl
theorem d_Mo_possible_17 : decode prog_11_method_25_code 17 = .ok (.if_icmp .ge 26, 3) := q_tb t_Mo_possible 12 rfl
theorem d_Mo_possible_20 : decode prog_11_method_25_code 20 = .ok (.aload_n 0, 1) := q_tb t_Mo_possible 13 rfl
theorem d_Mo_possible_21 : decode prog_11_method_25_code 21 = .ok (.iload_n 2, 1) := q_tb t_Mo_possible 14 rfl
theorem d_Mo_possible_22 : decode prog_11_method_25_code 22 = .ok (.iload_n 3, 1) := q_tb t_Mo_possible 15 rfl
theorem d_Mo_possible_23 : decode prog_11_method_25_code 23 = .ok (.invokevirtual 175, 3) := q_tb t_Mo_possible 16 rfl
theorem d_Mo_possible_26 : decode prog_11_method_25_code 26 = .ok (.ifCond .eq 9, 3) := q_tb t_Mo_possible 17 rfl
theorem d_Mo_possible_29 : decode prog_11_method_25_code 29 = .ok (.iload_n 1, 1) := q_tb t_Mo_possible 18 rfl
theorem d_Mo_possible_30 : decode prog_11_method_25_code 30 = .ok (.iconst 1, 1) := q_tb t_Mo_possible 19 rfl
theorem d_Mo_possible_31 : decode prog_11_method_25_code 31 = .ok (.iadd, 1) := q_tb t_Mo_possible 20 rfl
theorem d_Mo_possible_32 : decode prog_11_method_25_code 32 = .ok (.goto 4, 3) := q_tb t_Mo_possible 21 rfl
theorem d_Mo_possible_35 : decode prog_11_method_25_code 35 = .ok (.iload_n 1, 1) := q_tb t_Mo_possible 22 rfl
theorem d_Mo_possible_36 : decode prog_11_method_25_code 36 = .ok (.istore_n 1, 1) := q_tb t_Mo_possible 23 rfl
theorem d_Mo_possible_37 : decode prog_11_method_25_code 37 = .ok (.iinc 3 1, 3) := q_tb t_Mo_possible 24 rfl
theorem d_Mo_possible_40 : decode prog_11_method_25_code 40 = .ok (.goto (-26), 3) := q_tb t_Mo_possible 25 rfl
theorem d_Mo_possible_43 : decode prog_11_method_25_code 43 = .ok (.iinc 2 1, 3) := q_tb t_Mo_possible 26 rfl
theorem d_Mo_possible_46 : decode prog_11_method_25_code 46 = .ok (.goto (-42), 3) := q_tb t_Mo_possible 27 rfl
theorem d_Mo_possible_49 : decode prog_11_method_25_code 49 = .ok (.iload_n 1, 1) := q_tb t_Mo_possible 28 rfl
theorem d_Mo_possible_50 : decode prog_11_method_25_code 50 = .ok (.ireturn, 1) := q_tb t_Mo_possible 29 rfl
def T_Mo_goes0 : List (Nat × Instr × Nat) := [(0, .aload_n 0, 1), (1, .getfield 29, 3), (4, .bipush 13, 2), (6, .iload_n 1, 1), (7, .imul, 1), (8, .aload_n 0, 1), (9, .getfield 75, 3), (12, .iload_n 1, 1), (13, .iaload, 1), (14, .iadd, 1), (15, .iaload, 1), (16, .iload_n 2, 1), (17, .ishr, 1), (18, .iconst 1, 1), (19, .iand, 1), (20, .ifCond .ne 5, 3), (23, .iconst 0, 1), (24, .ireturn, 1), (25, .iconst 0, 1), (26, .istore_n 3, 1), (27, .iload_n 3, 1), (28, .bipush 11, 2), (30, .if_icmp .ge 21, 3), (33, .aload_n 0, 1), (34, .getfield 78, 3), (37, .iload_n 3, 1), (38, .aload_n 0, 1), (39, .getfield 75, 3), (42, .iload_n 3, 1), (43, .iaload, 1), (44, .iastore, 1), (45, .iinc 3 1, 3), (48, .goto (-21), 3), (51, .aload_n 0, 1), (52, .getfield 78, 3), (55, .iload_n 1, 1), (56, .iload_n 2, 1), (57, .iastore, 1), (58, .aload_n 0, 1), (59, .getfield 35, 3)]
set_option maxRecDepth 100000 in
theorem t_Mo_goes0 : ∀ q ∈ T_Mo_goes0, decode prog_11_method_24_code q.1 = .ok q.2 := by decide +kernel
theorem d_Mo_goes_0 : decode prog_11_method_24_code 0 = .ok (.aload_n 0, 1) := q_tb t_Mo_goes0 0 rfl
theorem d_Mo_goes_1 : decode prog_11_method_24_code 1 = .ok (.getfield 29, 3) := q_tb t_Mo_goes0 1 rfl
theorem d_Mo_goes_4 : decode prog_11_method_24_code 4 = .ok (.bipush 13, 2) := q_tb t_Mo_goes0 2 rfl
theorem d_Mo_goes_6 : decode prog_11_method_24_code 6 = .ok (.iload_n 1, 1) := q_tb t_Mo_goes0 3 rfl
theorem d_Mo_goes_7 : decode prog_11_method_24_code 7 = .ok (.imul, 1) := q_tb t_Mo_goes0 4 rfl
theorem d_Mo_goes_8 : decode prog_11_method_24_code 8 = .ok (.aload_n 0, 1) := q_tb t_Mo_goes0 5 rfl
theorem d_Mo_goes_9 : decode prog_11_method_24_code 9 = .ok (.getfield 75, 3) := q_tb t_Mo_goes0 6 rfl
theorem d_Mo_goes_12 : decode prog_11_method_24_code 12 = .ok (.iload_n 1, 1) := q_tb t_Mo_goes0 7 rfl
theorem d_Mo_goes_13 : decode prog_11_method_24_code 13 = .ok (.iaload, 1) := q_tb t_Mo_goes0 8 rfl
theorem d_Mo_goes_14 : decode prog_11_method_24_code 14 = .ok (.iadd, 1) := q_tb t_Mo_goes0 9 rfl
theorem d_Mo_goes_15 : decode prog_11_method_24_code 15 = .ok (.iaload, 1) := q_tb t_Mo_goes0 10 rfl
theorem d_Mo_goes_16 : decode prog_11_method_24_code 16 = .ok (.iload_n 2, 1) := q_tb t_Mo_goes0 11 rfl
theorem d_Mo_goes_17 : decode prog_11_method_24_code 17 = .ok (.ishr, 1) := q_tb t_Mo_goes0 12 rfl
theorem d_Mo_goes_18 : decode prog_11_method_24_code 18 = .ok (.iconst 1, 1) := q_tb t_Mo_goes0 13 rfl
theorem d_Mo_goes_19 : decode prog_11_method_24_code 19 = .ok (.iand, 1) := q_tb t_Mo_goes0 14 rfl
theorem d_Mo_goes_20 : decode prog_11_method_24_code 20 = .ok (.ifCond .ne 5, 3) := q_tb t_Mo_goes0 15 rfl
theorem d_Mo_goes_23 : decode prog_11_method_24_code 23 = .ok (.iconst 0, 1) := q_tb t_Mo_goes0 16 rfl
theorem d_Mo_goes_24 : decode prog_11_method_24_code 24 = .ok (.ireturn, 1) := q_tb t_Mo_goes0 17 rfl
theorem d_Mo_goes_25 : decode prog_11_method_24_code 25 = .ok (.iconst 0, 1) := q_tb t_Mo_goes0 18 rfl
theorem d_Mo_goes_26 : decode prog_11_method_24_code 26 = .ok (.istore_n 3, 1) := q_tb t_Mo_goes0 19 rfl
theorem d_Mo_goes_27 : decode prog_11_method_24_code 27 = .ok (.iload_n 3, 1) := q_tb t_Mo_goes0 20 rfl
theorem d_Mo_goes_28 : decode prog_11_method_24_code 28 = .ok (.bipush 11, 2) := q_tb t_Mo_goes0 21 rfl
theorem d_Mo_goes_30 : decode prog_11_method_24_code 30 = .ok (.if_icmp .ge 21, 3) := q_tb t_Mo_goes0 22 rfl
theorem d_Mo_goes_33 : decode prog_11_method_24_code 33 = .ok (.aload_n 0, 1) := q_tb t_Mo_goes0 23 rfl
theorem d_Mo_goes_34 : decode prog_11_method_24_code 34 = .ok (.getfield 78, 3) := q_tb t_Mo_goes0 24 rfl
theorem d_Mo_goes_37 : decode prog_11_method_24_code 37 = .ok (.iload_n 3, 1) := q_tb t_Mo_goes0 25 rfl
theorem d_Mo_goes_38 : decode prog_11_method_24_code 38 = .ok (.aload_n 0, 1) := q_tb t_Mo_goes0 26 rfl
theorem d_Mo_goes_39 : decode prog_11_method_24_code 39 = .ok (.getfield 75, 3) := q_tb t_Mo_goes0 27 rfl
theorem d_Mo_goes_42 : decode prog_11_method_24_code 42 = .ok (.iload_n 3, 1) := q_tb t_Mo_goes0 28 rfl
theorem d_Mo_goes_43 : decode prog_11_method_24_code 43 = .ok (.iaload, 1) := q_tb t_Mo_goes0 29 rfl
theorem d_Mo_goes_44 : decode prog_11_method_24_code 44 = .ok (.iastore, 1) := q_tb t_Mo_goes0 30 rfl
theorem d_Mo_goes_45 : decode prog_11_method_24_code 45 = .ok (.iinc 3 1, 3) := q_tb t_Mo_goes0 31 rfl
theorem d_Mo_goes_48 : decode prog_11_method_24_code 48 = .ok (.goto (-21), 3) := q_tb t_Mo_goes0 32 rfl
theorem d_Mo_goes_51 : decode prog_11_method_24_code 51 = .ok (.aload_n 0, 1) := q_tb t_Mo_goes0 33 rfl
theorem d_Mo_goes_52 : decode prog_11_method_24_code 52 = .ok (.getfield 78, 3) := q_tb t_Mo_goes0 34 rfl
theorem d_Mo_goes_55 : decode prog_11_method_24_code 55 = .ok (.iload_n 1, 1) := q_tb t_Mo_goes0 35 rfl
theorem d_Mo_goes_56 : decode prog_11_method_24_code 56 = .ok (.iload_n 2, 1) := q_tb t_Mo_goes0 36 rfl
theorem d_Mo_goes_57 : decode prog_11_method_24_code 57 = .ok (.iastore, 1) := q_tb t_Mo_goes0 37 rfl
theorem d_Mo_goes_58 : decode prog_11_method_24_code 58 = .ok (.aload_n 0, 1) := q_tb t_Mo_goes0 38 rfl
theorem d_Mo_goes_59 : decode prog_11_method_24_code 59 = .ok (.getfield 35, 3) := q_tb t_Mo_goes0 39 rfl
def T_Mo_goes1 : List (Nat × Instr × Nat) := [(62, .bipush 13, 2), (64, .iload_n 1, 1), (65, .imul, 1), (66, .iload_n 2, 1), (67, .iadd, 1), (68, .iaload, 1), (69, .istore_n 3, 1), (70, .aload_n 0, 1), (71, .getfield 75, 3), (74, .bipush 6, 2), (76, .iload_n 3, 1), (77, .iadd, 1), (78, .iaload, 1), (79, .istore 4, 2), (81, .aload_n 0, 1), (82, .getfield 38, 3), (85, .bipush 13, 2), (87, .iload_n 1, 1), (88, .imul, 1), (89, .iload_n 2, 1), (90, .iadd, 1), (91, .iaload, 1), (92, .istore 5, 2), (94, .aload_n 0, 1), (95, .getfield 32, 3), (98, .bipush 13, 2), (100, .iload_n 1, 1), (101, .imul, 1), (102, .iload_n 2, 1), (103, .iadd, 1), (104, .iaload, 1), (105, .tableswitch 119 0 4 #[35, 37, 69, 93, 106], 35), (140, .iconst 1, 1), (141, .ireturn, 1), (142, .aload_n 0, 1), (143, .getfield 78, 3), (146, .bipush 6, 2), (148, .iload_n 3, 1), (149, .iadd, 1), (150, .iload 4, 2)]
set_option maxRecDepth 100000 in
theorem t_Mo_goes1 : ∀ q ∈ T_Mo_goes1, decode prog_11_method_24_code q.1 = .ok q.2 := by decide +kernel
theorem d_Mo_goes_62 : decode prog_11_method_24_code 62 = .ok (.bipush 13, 2) := q_tb t_Mo_goes1 0 rfl
theorem d_Mo_goes_64 : decode prog_11_method_24_code 64 = .ok (.iload_n 1, 1) := q_tb t_Mo_goes1 1 rfl
theorem d_Mo_goes_65 : decode prog_11_method_24_code 65 = .ok (.imul, 1) := q_tb t_Mo_goes1 2 rfl
theorem d_Mo_goes_66 : decode prog_11_method_24_code 66 = .ok (.iload_n 2, 1) := q_tb t_Mo_goes1 3 rfl
theorem d_Mo_goes_67 : decode prog_11_method_24_code 67 = .ok (.iadd, 1) := q_tb t_Mo_goes1 4 rfl
theorem d_Mo_goes_68 : decode prog_11_method_24_code 68 = .ok (.iaload, 1) := q_tb t_Mo_goes1 5 rfl
theorem d_Mo_goes_69 : decode prog_11_method_24_code 69 = .ok (.istore_n 3, 1) := q_tb t_Mo_goes1 6 rfl
theorem d_Mo_goes_70 : decode prog_11_method_24_code 70 = .ok (.aload_n 0, 1) := q_tb t_Mo_goes1 7 rfl
theorem d_Mo_goes_71 : decode prog_11_method_24_code 71 = .ok (.getfield 75, 3) := q_tb t_Mo_goes1 8 rfl
theorem d_Mo_goes_74 : decode prog_11_method_24_code 74 = .ok (.bipush 6, 2) := q_tb t_Mo_goes1 9 rfl
theorem d_Mo_goes_76 : decode prog_11_method_24_code 76 = .ok (.iload_n 3, 1) := q_tb t_Mo_goes1 10 rfl
theorem d_Mo_goes_77 : decode prog_11_method_24_code 77 = .ok (.iadd, 1) := q_tb t_Mo_goes1 11 rfl
theorem d_Mo_goes_78 : decode prog_11_method_24_code 78 = .ok (.iaload, 1) := q_tb t_Mo_goes1 12 rfl
theorem d_Mo_goes_79 : decode prog_11_method_24_code 79 = .ok (.istore 4, 2) := q_tb t_Mo_goes1 13 rfl
theorem d_Mo_goes_81 : decode prog_11_method_24_code 81 = .ok (.aload_n 0, 1) := q_tb t_Mo_goes1 14 rfl
theorem d_Mo_goes_82 : decode prog_11_method_24_code 82 = .ok (.getfield 38, 3) := q_tb t_Mo_goes1 15 rfl
theorem d_Mo_goes_85 : decode prog_11_method_24_code 85 = .ok (.bipush 13, 2) := q_tb t_Mo_goes1 16 rfl
theorem d_Mo_goes_87 : decode prog_11_method_24_code 87 = .ok (.iload_n 1, 1) := q_tb t_Mo_goes1 17 rfl
theorem d_Mo_goes_88 : decode prog_11_method_24_code 88 = .ok (.imul, 1) := q_tb t_Mo_goes1 18 rfl
theorem d_Mo_goes_89 : decode prog_11_method_24_code 89 = .ok (.iload_n 2, 1) := q_tb t_Mo_goes1 19 rfl
theorem d_Mo_goes_90 : decode prog_11_method_24_code 90 = .ok (.iadd, 1) := q_tb t_Mo_goes1 20 rfl
theorem d_Mo_goes_91 : decode prog_11_method_24_code 91 = .ok (.iaload, 1) := q_tb t_Mo_goes1 21 rfl
theorem d_Mo_goes_92 : decode prog_11_method_24_code 92 = .ok (.istore 5, 2) := q_tb t_Mo_goes1 22 rfl
theorem d_Mo_goes_94 : decode prog_11_method_24_code 94 = .ok (.aload_n 0, 1) := q_tb t_Mo_goes1 23 rfl
theorem d_Mo_goes_95 : decode prog_11_method_24_code 95 = .ok (.getfield 32, 3) := q_tb t_Mo_goes1 24 rfl
theorem d_Mo_goes_98 : decode prog_11_method_24_code 98 = .ok (.bipush 13, 2) := q_tb t_Mo_goes1 25 rfl
theorem d_Mo_goes_100 : decode prog_11_method_24_code 100 = .ok (.iload_n 1, 1) := q_tb t_Mo_goes1 26 rfl
theorem d_Mo_goes_101 : decode prog_11_method_24_code 101 = .ok (.imul, 1) := q_tb t_Mo_goes1 27 rfl
theorem d_Mo_goes_102 : decode prog_11_method_24_code 102 = .ok (.iload_n 2, 1) := q_tb t_Mo_goes1 28 rfl
theorem d_Mo_goes_103 : decode prog_11_method_24_code 103 = .ok (.iadd, 1) := q_tb t_Mo_goes1 29 rfl
theorem d_Mo_goes_104 : decode prog_11_method_24_code 104 = .ok (.iaload, 1) := q_tb t_Mo_goes1 30 rfl
theorem d_Mo_goes_105 : decode prog_11_method_24_code 105 = .ok (.tableswitch 119 0 4 #[35, 37, 69, 93, 106], 35) := q_tb t_Mo_goes1 31 rfl
theorem d_Mo_goes_140 : decode prog_11_method_24_code 140 = .ok (.iconst 1, 1) := q_tb t_Mo_goes1 32 rfl
theorem d_Mo_goes_141 : decode prog_11_method_24_code 141 = .ok (.ireturn, 1) := q_tb t_Mo_goes1 33 rfl
theorem d_Mo_goes_142 : decode prog_11_method_24_code 142 = .ok (.aload_n 0, 1) := q_tb t_Mo_goes1 34 rfl
theorem d_Mo_goes_143 : decode prog_11_method_24_code 143 = .ok (.getfield 78, 3) := q_tb t_Mo_goes1 35 rfl
theorem d_Mo_goes_146 : decode prog_11_method_24_code 146 = .ok (.bipush 6, 2) := q_tb t_Mo_goes1 36 rfl
theorem d_Mo_goes_148 : decode prog_11_method_24_code 148 = .ok (.iload_n 3, 1) := q_tb t_Mo_goes1 37 rfl
theorem d_Mo_goes_149 : decode prog_11_method_24_code 149 = .ok (.iadd, 1) := q_tb t_Mo_goes1 38 rfl
theorem d_Mo_goes_150 : decode prog_11_method_24_code 150 = .ok (.iload 4, 2) := q_tb t_Mo_goes1 39 rfl
def T_Mo_goes2 : List (Nat × Instr × Nat) := [(152, .iconst 1, 1), (153, .iadd, 1), (154, .iastore, 1), (155, .iload 4, 2), (157, .aload_n 0, 1), (158, .getfield 17, 3), (161, .iload_n 3, 1), (162, .iaload, 1), (163, .iconst 1, 1), (164, .isub, 1), (165, .if_icmp .ge 7, 3), (168, .iconst 1, 1), (169, .goto 4, 3), (172, .iconst 0, 1), (173, .ireturn, 1), (174, .aload_n 0, 1), (175, .getfield 78, 3), (178, .bipush 6, 2), (180, .iload_n 3, 1), (181, .iadd, 1), (182, .iload 4, 2), (184, .iconst 1, 1), (185, .isub, 1), (186, .iastore, 1), (187, .iload 4, 2), (189, .ifCond .le 7, 3), (192, .iconst 1, 1), (193, .goto 4, 3), (196, .iconst 0, 1), (197, .ireturn, 1), (198, .aload_n 0, 1), (199, .getfield 78, 3), (202, .bipush 6, 2), (204, .iload_n 3, 1), (205, .iadd, 1), (206, .iload 5, 2), (208, .iastore, 1), (209, .iconst 1, 1), (210, .ireturn, 1), (211, .iload 4, 2)]
set_option maxRecDepth 100000 in
theorem t_Mo_goes2 : ∀ q ∈ T_Mo_goes2, decode prog_11_method_24_code q.1 = .ok q.2 := by decide +kernel
theorem d_Mo_goes_152 : decode prog_11_method_24_code 152 = .ok (.iconst 1, 1) := q_tb t_Mo_goes2 0 rfl
theorem d_Mo_goes_153 : decode prog_11_method_24_code 153 = .ok (.iadd, 1) := q_tb t_Mo_goes2 1 rfl
theorem d_Mo_goes_154 : decode prog_11_method_24_code 154 = .ok (.iastore, 1) := q_tb t_Mo_goes2 2 rfl
theorem d_Mo_goes_155 : decode prog_11_method_24_code 155 = .ok (.iload 4, 2) := q_tb t_Mo_goes2 3 rfl
theorem d_Mo_goes_157 : decode prog_11_method_24_code 157 = .ok (.aload_n 0, 1) := q_tb t_Mo_goes2 4 rfl
theorem d_Mo_goes_158 : decode prog_11_method_24_code 158 = .ok (.getfield 17, 3) := q_tb t_Mo_goes2 5 rfl
theorem d_Mo_goes_161 : decode prog_11_method_24_code 161 = .ok (.iload_n 3, 1) := q_tb t_Mo_goes2 6 rfl
theorem d_Mo_goes_162 : decode prog_11_method_24_code 162 = .ok (.iaload, 1) := q_tb t_Mo_goes2 7 rfl
theorem d_Mo_goes_163 : decode prog_11_method_24_code 163 = .ok (.iconst 1, 1) := q_tb t_Mo_goes2 8 rfl
theorem d_Mo_goes_164 : decode prog_11_method_24_code 164 = .ok (.isub, 1) := q_tb t_Mo_goes2 9 rfl
theorem d_Mo_goes_165 : decode prog_11_method_24_code 165 = .ok (.if_icmp .ge 7, 3) := q_tb t_Mo_goes2 10 rfl
theorem d_Mo_goes_168 : decode prog_11_method_24_code 168 = .ok (.iconst 1, 1) := q_tb t_Mo_goes2 11 rfl
theorem d_Mo_goes_169 : decode prog_11_method_24_code 169 = .ok (.goto 4, 3) := q_tb t_Mo_goes2 12 rfl
theorem d_Mo_goes_172 : decode prog_11_method_24_code 172 = .ok (.iconst 0, 1) := q_tb t_Mo_goes2 13 rfl
theorem d_Mo_goes_173 : decode prog_11_method_24_code 173 = .ok (.ireturn, 1) := q_tb t_Mo_goes2 14 rfl
theorem d_Mo_goes_174 : decode prog_11_method_24_code 174 = .ok (.aload_n 0, 1) := q_tb t_Mo_goes2 15 rfl
theorem d_Mo_goes_175 : decode prog_11_method_24_code 175 = .ok (.getfield 78, 3) := q_tb t_Mo_goes2 16 rfl
theorem d_Mo_goes_178 : decode prog_11_method_24_code 178 = .ok (.bipush 6, 2) := q_tb t_Mo_goes2 17 rfl
theorem d_Mo_goes_180 : decode prog_11_method_24_code 180 = .ok (.iload_n 3, 1) := q_tb t_Mo_goes2 18 rfl
theorem d_Mo_goes_181 : decode prog_11_method_24_code 181 = .ok (.iadd, 1) := q_tb t_Mo_goes2 19 rfl
theorem d_Mo_goes_182 : decode prog_11_method_24_code 182 = .ok (.iload 4, 2) := q_tb t_Mo_goes2 20 rfl
theorem d_Mo_goes_184 : decode prog_11_method_24_code 184 = .ok (.iconst 1, 1) := q_tb t_Mo_goes2 21 rfl
theorem d_Mo_goes_185 : decode prog_11_method_24_code 185 = .ok (.isub, 1) := q_tb t_Mo_goes2 22 rfl
theorem d_Mo_goes_186 : decode prog_11_method_24_code 186 = .ok (.iastore, 1) := q_tb t_Mo_goes2 23 rfl
theorem d_Mo_goes_187 : decode prog_11_method_24_code 187 = .ok (.iload 4, 2) := q_tb t_Mo_goes2 24 rfl
theorem d_Mo_goes_189 : decode prog_11_method_24_code 189 = .ok (.ifCond .le 7, 3) := q_tb t_Mo_goes2 25 rfl
theorem d_Mo_goes_192 : decode prog_11_method_24_code 192 = .ok (.iconst 1, 1) := q_tb t_Mo_goes2 26 rfl
theorem d_Mo_goes_193 : decode prog_11_method_24_code 193 = .ok (.goto 4, 3) := q_tb t_Mo_goes2 27 rfl
theorem d_Mo_goes_196 : decode prog_11_method_24_code 196 = .ok (.iconst 0, 1) := q_tb t_Mo_goes2 28 rfl
theorem d_Mo_goes_197 : decode prog_11_method_24_code 197 = .ok (.ireturn, 1) := q_tb t_Mo_goes2 29 rfl
theorem d_Mo_goes_198 : decode prog_11_method_24_code 198 = .ok (.aload_n 0, 1) := q_tb t_Mo_goes2 30 rfl
theorem d_Mo_goes_199 : decode prog_11_method_24_code 199 = .ok (.getfield 78, 3) := q_tb t_Mo_goes2 31 rfl
theorem d_Mo_goes_202 : decode prog_11_method_24_code 202 = .ok (.bipush 6, 2) := q_tb t_Mo_goes2 32 rfl
theorem d_Mo_goes_204 : decode prog_11_method_24_code 204 = .ok (.iload_n 3, 1) := q_tb t_Mo_goes2 33 rfl
theorem d_Mo_goes_205 : decode prog_11_method_24_code 205 = .ok (.iadd, 1) := q_tb t_Mo_goes2 34 rfl
theorem d_Mo_goes_206 : decode prog_11_method_24_code 206 = .ok (.iload 5, 2) := q_tb t_Mo_goes2 35 rfl
theorem d_Mo_goes_208 : decode prog_11_method_24_code 208 = .ok (.iastore, 1) := q_tb t_Mo_goes2 36 rfl
theorem d_Mo_goes_209 : decode prog_11_method_24_code 209 = .ok (.iconst 1, 1) := q_tb t_Mo_goes2 37 rfl
theorem d_Mo_goes_210 : decode prog_11_method_24_code 210 = .ok (.ireturn, 1) := q_tb t_Mo_goes2 38 rfl
theorem d_Mo_goes_211 : decode prog_11_method_24_code 211 = .ok (.iload 4, 2) := q_tb t_Mo_goes2 39 rfl
def T_Mo_goes3 : List (Nat × Instr × Nat) := [(213, .iload 5, 2), (215, .if_icmp .ne 7, 3), (218, .iconst 1, 1), (219, .goto 4, 3), (222, .iconst 0, 1), (223, .ireturn, 1), (224, .iload 4, 2), (226, .iload 5, 2), (228, .if_icmp .eq 7, 3), (231, .iconst 1, 1), (232, .goto 4, 3), (235, .iconst 0, 1), (236, .ireturn, 1)]
set_option maxRecDepth 100000 in
theorem t_Mo_goes3 : ∀ q ∈ T_Mo_goes3, decode prog_11_method_24_code q.1 = .ok q.2 := by decide +kernel
theorem d_Mo_goes_213 : decode prog_11_method_24_code 213 = .ok (.iload 5, 2) := q_tb t_Mo_goes3 0 rfl
theorem d_Mo_goes_215 : decode prog_11_method_24_code 215 = .ok (.if_icmp .ne 7, 3) := q_tb t_Mo_goes3 1 rfl
theorem d_Mo_goes_218 : decode prog_11_method_24_code 218 = .ok (.iconst 1, 1) := q_tb t_Mo_goes3 2 rfl
theorem d_Mo_goes_219 : decode prog_11_method_24_code 219 = .ok (.goto 4, 3) := q_tb t_Mo_goes3 3 rfl
theorem d_Mo_goes_222 : decode prog_11_method_24_code 222 = .ok (.iconst 0, 1) := q_tb t_Mo_goes3 4 rfl
theorem d_Mo_goes_223 : decode prog_11_method_24_code 223 = .ok (.ireturn, 1) := q_tb t_Mo_goes3 5 rfl
theorem d_Mo_goes_224 : decode prog_11_method_24_code 224 = .ok (.iload 4, 2) := q_tb t_Mo_goes3 6 rfl
theorem d_Mo_goes_226 : decode prog_11_method_24_code 226 = .ok (.iload 5, 2) := q_tb t_Mo_goes3 7 rfl
theorem d_Mo_goes_228 : decode prog_11_method_24_code 228 = .ok (.if_icmp .eq 7, 3) := q_tb t_Mo_goes3 8 rfl
theorem d_Mo_goes_231 : decode prog_11_method_24_code 231 = .ok (.iconst 1, 1) := q_tb t_Mo_goes3 9 rfl
theorem d_Mo_goes_232 : decode prog_11_method_24_code 232 = .ok (.goto 4, 3) := q_tb t_Mo_goes3 10 rfl
theorem d_Mo_goes_235 : decode prog_11_method_24_code 235 = .ok (.iconst 0, 1) := q_tb t_Mo_goes3 11 rfl
theorem d_Mo_goes_236 : decode prog_11_method_24_code 236 = .ok (.ireturn, 1) := q_tb t_Mo_goes3 12 rfl
def T_Mo_move0 : List (Nat × Instr × Nat) := [(0, .aload_n 0, 1), (1, .invokevirtual 179, 3), (4, .aload_n 0, 1), (5, .iload_n 1, 1), (6, .ifCond .lt 11, 3), (9, .iload_n 1, 1), (10, .aload_n 0, 1), (11, .invokevirtual 182, 3), (14, .if_icmp .lt 7, 3), (17, .iconst 1, 1), (18, .goto 4, 3), (21, .iconst 0, 1), (22, .putfield 90, 3), (25, .iload_n 1, 1), (26, .istore_n 2, 1), (27, .iconst 0, 1), (28, .istore_n 3, 1), (29, .iload_n 3, 1), (30, .aload_n 0, 1), (31, .getfield 111, 3), (34, .if_icmp .ge 97, 3), (37, .aload_n 0, 1), (38, .getfield 90, 3), (41, .ifCond .ne 90, 3), (44, .iconst 1, 1), (45, .istore 4, 2), (47, .iload 4, 2), (49, .bipush 13, 2), (51, .if_icmp .ge 74, 3), (54, .aload_n 0, 1), (55, .iload_n 3, 1), (56, .iload 4, 2), (58, .invokevirtual 175, 3), (61, .ifCond .eq 58, 3), (64, .iload_n 2, 1), (65, .ifCond .ne 51, 3), (68, .iconst 0, 1), (69, .istore 5, 2), (71, .iload 5, 2), (73, .bipush 11, 2)]
set_option maxRecDepth 100000 in
theorem t_Mo_move0 : ∀ q ∈ T_Mo_move0, decode prog_11_method_28_code q.1 = .ok q.2 := by decide +kernel
theorem d_Mo_move_0 : decode prog_11_method_28_code 0 = .ok (.aload_n 0, 1) := q_tb t_Mo_move0 0 rfl
theorem d_Mo_move_1 : decode prog_11_method_28_code 1 = .ok (.invokevirtual 179, 3) := q_tb t_Mo_move0 1 rfl
theorem d_Mo_move_4 : decode prog_11_method_28_code 4 = .ok (.aload_n 0, 1) := q_tb t_Mo_move0 2 rfl
theorem d_Mo_move_5 : decode prog_11_method_28_code 5 = .ok (.iload_n 1, 1) := q_tb t_Mo_move0 3 rfl
theorem d_Mo_move_6 : decode prog_11_method_28_code 6 = .ok (.ifCond .lt 11, 3) := q_tb t_Mo_move0 4 rfl
theorem d_Mo_move_9 : decode prog_11_method_28_code 9 = .ok (.iload_n 1, 1) := q_tb t_Mo_move0 5 rfl
theorem d_Mo_move_10 : decode prog_11_method_28_code 10 = .ok (.aload_n 0, 1) := q_tb t_Mo_move0 6 rfl
theorem d_Mo_move_11 : decode prog_11_method_28_code 11 = .ok (.invokevirtual 182, 3) := q_tb t_Mo_move0 7 rfl
theorem d_Mo_move_14 : decode prog_11_method_28_code 14 = .ok (.if_icmp .lt 7, 3) := q_tb t_Mo_move0 8 rfl
theorem d_Mo_move_17 : decode prog_11_method_28_code 17 = .ok (.iconst 1, 1) := q_tb t_Mo_move0 9 rfl
theorem d_Mo_move_18 : decode prog_11_method_28_code 18 = .ok (.goto 4, 3) := q_tb t_Mo_move0 10 rfl
theorem d_Mo_move_21 : decode prog_11_method_28_code 21 = .ok (.iconst 0, 1) := q_tb t_Mo_move0 11 rfl
theorem d_Mo_move_22 : decode prog_11_method_28_code 22 = .ok (.putfield 90, 3) := q_tb t_Mo_move0 12 rfl
theorem d_Mo_move_25 : decode prog_11_method_28_code 25 = .ok (.iload_n 1, 1) := q_tb t_Mo_move0 13 rfl
theorem d_Mo_move_26 : decode prog_11_method_28_code 26 = .ok (.istore_n 2, 1) := q_tb t_Mo_move0 14 rfl
theorem d_Mo_move_27 : decode prog_11_method_28_code 27 = .ok (.iconst 0, 1) := q_tb t_Mo_move0 15 rfl
theorem d_Mo_move_28 : decode prog_11_method_28_code 28 = .ok (.istore_n 3, 1) := q_tb t_Mo_move0 16 rfl
theorem d_Mo_move_29 : decode prog_11_method_28_code 29 = .ok (.iload_n 3, 1) := q_tb t_Mo_move0 17 rfl
theorem d_Mo_move_30 : decode prog_11_method_28_code 30 = .ok (.aload_n 0, 1) := q_tb t_Mo_move0 18 rfl
theorem d_Mo_move_31 : decode prog_11_method_28_code 31 = .ok (.getfield 111, 3) := q_tb t_Mo_move0 19 rfl
theorem d_Mo_move_34 : decode prog_11_method_28_code 34 = .ok (.if_icmp .ge 97, 3) := q_tb t_Mo_move0 20 rfl
theorem d_Mo_move_37 : decode prog_11_method_28_code 37 = .ok (.aload_n 0, 1) := q_tb t_Mo_move0 21 rfl
theorem d_Mo_move_38 : decode prog_11_method_28_code 38 = .ok (.getfield 90, 3) := q_tb t_Mo_move0 22 rfl
theorem d_Mo_move_41 : decode prog_11_method_28_code 41 = .ok (.ifCond .ne 90, 3) := q_tb t_Mo_move0 23 rfl
theorem d_Mo_move_44 : decode prog_11_method_28_code 44 = .ok (.iconst 1, 1) := q_tb t_Mo_move0 24 rfl
theorem d_Mo_move_45 : decode prog_11_method_28_code 45 = .ok (.istore 4, 2) := q_tb t_Mo_move0 25 rfl
theorem d_Mo_move_47 : decode prog_11_method_28_code 47 = .ok (.iload 4, 2) := q_tb t_Mo_move0 26 rfl
theorem d_Mo_move_49 : decode prog_11_method_28_code 49 = .ok (.bipush 13, 2) := q_tb t_Mo_move0 27 rfl
theorem d_Mo_move_51 : decode prog_11_method_28_code 51 = .ok (.if_icmp .ge 74, 3) := q_tb t_Mo_move0 28 rfl
theorem d_Mo_move_54 : decode prog_11_method_28_code 54 = .ok (.aload_n 0, 1) := q_tb t_Mo_move0 29 rfl
theorem d_Mo_move_55 : decode prog_11_method_28_code 55 = .ok (.iload_n 3, 1) := q_tb t_Mo_move0 30 rfl
theorem d_Mo_move_56 : decode prog_11_method_28_code 56 = .ok (.iload 4, 2) := q_tb t_Mo_move0 31 rfl
theorem d_Mo_move_58 : decode prog_11_method_28_code 58 = .ok (.invokevirtual 175, 3) := q_tb t_Mo_move0 32 rfl
theorem d_Mo_move_61 : decode prog_11_method_28_code 61 = .ok (.ifCond .eq 58, 3) := q_tb t_Mo_move0 33 rfl
theorem d_Mo_move_64 : decode prog_11_method_28_code 64 = .ok (.iload_n 2, 1) := q_tb t_Mo_move0 34 rfl
theorem d_Mo_move_65 : decode prog_11_method_28_code 65 = .ok (.ifCond .ne 51, 3) := q_tb t_Mo_move0 35 rfl
theorem d_Mo_move_68 : decode prog_11_method_28_code 68 = .ok (.iconst 0, 1) := q_tb t_Mo_move0 36 rfl
theorem d_Mo_move_69 : decode prog_11_method_28_code 69 = .ok (.istore 5, 2) := q_tb t_Mo_move0 37 rfl
theorem d_Mo_move_71 : decode prog_11_method_28_code 71 = .ok (.iload 5, 2) := q_tb t_Mo_move0 38 rfl
theorem d_Mo_move_73 : decode prog_11_method_28_code 73 = .ok (.bipush 11, 2) := q_tb t_Mo_move0 39 rfl
def T_Mo_move1 : List (Nat × Instr × Nat) := [(75, .if_icmp .ge 23, 3), (78, .aload_n 0, 1), (79, .getfield 72, 3), (82, .iload 5, 2), (84, .aload_n 0, 1), (85, .getfield 78, 3), (88, .iload 5, 2), (90, .iaload, 1), (91, .iastore, 1), (92, .iinc 5 1, 3), (95, .goto (-24), 3), (98, .aload_n 0, 1), (99, .dup, 1), (100, .getfield 102, 3), (103, .iconst 1, 1), (104, .iadd, 1), (105, .putfield 102, 3), (108, .bipush 16, 2), (110, .iload_n 3, 1), (111, .imul, 1), (112, .iload 4, 2), (114, .iadd, 1), (115, .ireturn, 1), (116, .iinc 2 (-1), 3), (119, .iinc 4 1, 3), (122, .goto (-75), 3), (125, .iinc 3 1, 3), (128, .goto (-99), 3), (131, .iconst 0, 1), (132, .ireturn, 1)]
set_option maxRecDepth 100000 in
theorem t_Mo_move1 : ∀ q ∈ T_Mo_move1, decode prog_11_method_28_code q.1 = .ok q.2 := by decide +kernel
theorem d_Mo_move_75 : decode prog_11_method_28_code 75 = .ok (.if_icmp .ge 23, 3) := q_tb t_Mo_move1 0 rfl
theorem d_Mo_move_78 : decode prog_11_method_28_code 78 = .ok (.aload_n 0, 1) := q_tb t_Mo_move1 1 rfl
theorem d_Mo_move_79 : decode prog_11_method_28_code 79 = .ok (.getfield 72, 3) := q_tb t_Mo_move1 2 rfl
theorem d_Mo_move_82 : decode prog_11_method_28_code 82 = .ok (.iload 5, 2) := q_tb t_Mo_move1 3 rfl
theorem d_Mo_move_84 : decode prog_11_method_28_code 84 = .ok (.aload_n 0, 1) := q_tb t_Mo_move1 4 rfl
theorem d_Mo_move_85 : decode prog_11_method_28_code 85 = .ok (.getfield 78, 3) := q_tb t_Mo_move1 5 rfl
theorem d_Mo_move_88 : decode prog_11_method_28_code 88 = .ok (.iload 5, 2) := q_tb t_Mo_move1 6 rfl
theorem d_Mo_move_90 : decode prog_11_method_28_code 90 = .ok (.iaload, 1) := q_tb t_Mo_move1 7 rfl
theorem d_Mo_move_91 : decode prog_11_method_28_code 91 = .ok (.iastore, 1) := q_tb t_Mo_move1 8 rfl
theorem d_Mo_move_92 : decode prog_11_method_28_code 92 = .ok (.iinc 5 1, 3) := q_tb t_Mo_move1 9 rfl
theorem d_Mo_move_95 : decode prog_11_method_28_code 95 = .ok (.goto (-24), 3) := q_tb t_Mo_move1 10 rfl
theorem d_Mo_move_98 : decode prog_11_method_28_code 98 = .ok (.aload_n 0, 1) := q_tb t_Mo_move1 11 rfl
theorem d_Mo_move_99 : decode prog_11_method_28_code 99 = .ok (.dup, 1) := q_tb t_Mo_move1 12 rfl
theorem d_Mo_move_100 : decode prog_11_method_28_code 100 = .ok (.getfield 102, 3) := q_tb t_Mo_move1 13 rfl
theorem d_Mo_move_103 : decode prog_11_method_28_code 103 = .ok (.iconst 1, 1) := q_tb t_Mo_move1 14 rfl
theorem d_Mo_move_104 : decode prog_11_method_28_code 104 = .ok (.iadd, 1) := q_tb t_Mo_move1 15 rfl
theorem d_Mo_move_105 : decode prog_11_method_28_code 105 = .ok (.putfield 102, 3) := q_tb t_Mo_move1 16 rfl
theorem d_Mo_move_108 : decode prog_11_method_28_code 108 = .ok (.bipush 16, 2) := q_tb t_Mo_move1 17 rfl
theorem d_Mo_move_110 : decode prog_11_method_28_code 110 = .ok (.iload_n 3, 1) := q_tb t_Mo_move1 18 rfl
theorem d_Mo_move_111 : decode prog_11_method_28_code 111 = .ok (.imul, 1) := q_tb t_Mo_move1 19 rfl
theorem d_Mo_move_112 : decode prog_11_method_28_code 112 = .ok (.iload 4, 2) := q_tb t_Mo_move1 20 rfl
theorem d_Mo_move_114 : decode prog_11_method_28_code 114 = .ok (.iadd, 1) := q_tb t_Mo_move1 21 rfl
theorem d_Mo_move_115 : decode prog_11_method_28_code 115 = .ok (.ireturn, 1) := q_tb t_Mo_move1 22 rfl
theorem d_Mo_move_116 : decode prog_11_method_28_code 116 = .ok (.iinc 2 (-1), 3) := q_tb t_Mo_move1 23 rfl
theorem d_Mo_move_119 : decode prog_11_method_28_code 119 = .ok (.iinc 4 1, 3) := q_tb t_Mo_move1 24 rfl
theorem d_Mo_move_122 : decode prog_11_method_28_code 122 = .ok (.goto (-75), 3) := q_tb t_Mo_move1 25 rfl
theorem d_Mo_move_125 : decode prog_11_method_28_code 125 = .ok (.iinc 3 1, 3) := q_tb t_Mo_move1 26 rfl
theorem d_Mo_move_128 : decode prog_11_method_28_code 128 = .ok (.goto (-99), 3) := q_tb t_Mo_move1 27 rfl
theorem d_Mo_move_131 : decode prog_11_method_28_code 131 = .ok (.iconst 0, 1) := q_tb t_Mo_move1 28 rfl
theorem d_Mo_move_132 : decode prog_11_method_28_code 132 = .ok (.ireturn, 1) := q_tb t_Mo_move1 29 rfl
def T_Mo_restart : List (Nat × Instr × Nat) := [(0, .aload_n 0, 1), (1, .iconst 0, 1), (2, .putfield 90, 3), (5, .aload_n 0, 1), (6, .getfield 102, 3), (9, .istore_n 1, 1), (10, .aload_n 0, 1), (11, .getfield 98, 3), (14, .istore_n 2, 1), (15, .aload_n 0, 1), (16, .invokevirtual 108, 3), (19, .aload_n 0, 1), (20, .iload_n 2, 1), (21, .putfield 98, 3), (24, .iload_n 1, 1), (25, .ireturn, 1)]
set_option maxRecDepth 100000 in
theorem t_Mo_restart : ∀ q ∈ T_Mo_restart, decode prog_11_method_29_code q.1 = .ok q.2 := by decide +kernel
theorem d_Mo_restart_0 : decode prog_11_method_29_code 0 = .ok (.aload_n 0, 1) := q_tb t_Mo_restart 0 rfl
theorem d_Mo_restart_1 : decode prog_11_method_29_code 1 = .ok (.iconst 0, 1) := q_tb t_Mo_restart 1 rfl
theorem d_Mo_restart_2 : decode prog_11_method_29_code 2 = .ok (.putfield 90, 3) := q_tb t_Mo_restart 2 rfl
theorem d_Mo_restart_5 : decode prog_11_method_29_code 5 = .ok (.aload_n 0, 1) := q_tb t_Mo_restart 3 rfl
theorem d_Mo_restart_6 : decode prog_11_method_29_code 6 = .ok (.getfield 102, 3) := q_tb t_Mo_restart 4 rfl
theorem d_Mo_restart_9 : decode prog_11_method_29_code 9 = .ok (.istore_n 1, 1) := q_tb t_Mo_restart 5 rfl
theorem d_Mo_restart_10 : decode prog_11_method_29_code 10 = .ok (.aload_n 0, 1) := q_tb t_Mo_restart 6 rfl
theorem d_Mo_restart_11 : decode prog_11_method_29_code 11 = .ok (.getfield 98, 3) := q_tb t_Mo_restart 7 rfl
theorem d_Mo_restart_14 : decode prog_11_method_29_code 14 = .ok (.istore_n 2, 1) := q_tb t_Mo_restart 8 rfl
theorem d_Mo_restart_15 : decode prog_11_method_29_code 15 = .ok (.aload_n 0, 1) := q_tb t_Mo_restart 9 rfl
theorem d_Mo_restart_16 : decode prog_11_method_29_code 16 = .ok (.invokevirtual 108, 3) := q_tb t_Mo_restart 10 rfl
theorem d_Mo_restart_19 : decode prog_11_method_29_code 19 = .ok (.aload_n 0, 1) := q_tb t_Mo_restart 11 rfl
theorem d_Mo_restart_20 : decode prog_11_method_29_code 20 = .ok (.iload_n 2, 1) := q_tb t_Mo_restart 12 rfl
theorem d_Mo_restart_21 : decode prog_11_method_29_code 21 = .ok (.putfield 98, 3) := q_tb t_Mo_restart 13 rfl
theorem d_Mo_restart_24 : decode prog_11_method_29_code 24 = .ok (.iload_n 1, 1) := q_tb t_Mo_restart 14 rfl
theorem d_Mo_restart_25 : decode prog_11_method_29_code 25 = .ok (.ireturn, 1) := q_tb t_Mo_restart 15 rfl
def T_Mo_now : List (Nat × Instr × Nat) := [(0, .aload_n 0, 1), (1, .aload_n 0, 1), (2, .iload_n 1, 1), (3, .invokevirtual 168, 3), (6, .ifCond .eq 7, 3), (9, .iconst 1, 1), (10, .goto 4, 3), (13, .iconst 0, 1), (14, .putfield 90, 3), (17, .aload_n 0, 1), (18, .getfield 90, 3), (21, .ifCond .le 7, 3), (24, .iconst 0, 1), (25, .goto 9, 3), (28, .aload_n 0, 1), (29, .getfield 72, 3), (32, .iload_n 1, 1), (33, .iaload, 1), (34, .ireturn, 1)]
set_option maxRecDepth 100000 in
theorem t_Mo_now : ∀ q ∈ T_Mo_now, decode prog_11_method_30_code q.1 = .ok q.2 := by decide +kernel
theorem d_Mo_now_0 : decode prog_11_method_30_code 0 = .ok (.aload_n 0, 1) := q_tb t_Mo_now 0 rfl
theorem d_Mo_now_1 : decode prog_11_method_30_code 1 = .ok (.aload_n 0, 1) := q_tb t_Mo_now 1 rfl
theorem d_Mo_now_2 : decode prog_11_method_30_code 2 = .ok (.iload_n 1, 1) := q_tb t_Mo_now 2 rfl
theorem d_Mo_now_3 : decode prog_11_method_30_code 3 = .ok (.invokevirtual 168, 3) := q_tb t_Mo_now 3 rfl
theorem d_Mo_now_6 : decode prog_11_method_30_code 6 = .ok (.ifCond .eq 7, 3) := q_tb t_Mo_now 4 rfl
theorem d_Mo_now_9 : decode prog_11_method_30_code 9 = .ok (.iconst 1, 1) := q_tb t_Mo_now 5 rfl
theorem d_Mo_now_10 : decode prog_11_method_30_code 10 = .ok (.goto 4, 3) := q_tb t_Mo_now 6 rfl
theorem d_Mo_now_13 : decode prog_11_method_30_code 13 = .ok (.iconst 0, 1) := q_tb t_Mo_now 7 rfl
theorem d_Mo_now_14 : decode prog_11_method_30_code 14 = .ok (.putfield 90, 3) := q_tb t_Mo_now 8 rfl
theorem d_Mo_now_17 : decode prog_11_method_30_code 17 = .ok (.aload_n 0, 1) := q_tb t_Mo_now 9 rfl
theorem d_Mo_now_18 : decode prog_11_method_30_code 18 = .ok (.getfield 90, 3) := q_tb t_Mo_now 10 rfl
theorem d_Mo_now_21 : decode prog_11_method_30_code 21 = .ok (.ifCond .le 7, 3) := q_tb t_Mo_now 11 rfl
theorem d_Mo_now_24 : decode prog_11_method_30_code 24 = .ok (.iconst 0, 1) := q_tb t_Mo_now 12 rfl
theorem d_Mo_now_25 : decode prog_11_method_30_code 25 = .ok (.goto 9, 3) := q_tb t_Mo_now 13 rfl
theorem d_Mo_now_28 : decode prog_11_method_30_code 28 = .ok (.aload_n 0, 1) := q_tb t_Mo_now 14 rfl
theorem d_Mo_now_29 : decode prog_11_method_30_code 29 = .ok (.getfield 72, 3) := q_tb t_Mo_now 15 rfl
theorem d_Mo_now_32 : decode prog_11_method_30_code 32 = .ok (.iload_n 1, 1) := q_tb t_Mo_now 16 rfl
theorem d_Mo_now_33 : decode prog_11_method_30_code 33 = .ok (.iaload, 1) := q_tb t_Mo_now 17 rfl
theorem d_Mo_now_34 : decode prog_11_method_30_code 34 = .ok (.ireturn, 1) := q_tb t_Mo_now 18 rfl
def T_Mo_has : List (Nat × Instr × Nat) := [(0, .aload_n 0, 1), (1, .iload_n 1, 1), (2, .ifCond .lt 11, 3), (5, .iload_n 1, 1), (6, .aload_n 0, 1), (7, .getfield 105, 3), (10, .if_icmp .lt 7, 3), (13, .iconst 1, 1), (14, .goto 4, 3), (17, .iconst 0, 1), (18, .putfield 90, 3), (21, .aload_n 0, 1), (22, .getfield 90, 3), (25, .ifCond .le 7, 3), (28, .iconst 0, 1), (29, .goto 12, 3), (32, .aload_n 0, 1), (33, .getfield 72, 3), (36, .bipush 6, 2), (38, .iload_n 1, 1), (39, .iadd, 1), (40, .iaload, 1), (41, .ireturn, 1)]
set_option maxRecDepth 100000 in
theorem t_Mo_has : ∀ q ∈ T_Mo_has, decode prog_11_method_31_code q.1 = .ok q.2 := by decide +kernel
theorem d_Mo_has_0 : decode prog_11_method_31_code 0 = .ok (.aload_n 0, 1) := q_tb t_Mo_has 0 rfl
theorem d_Mo_has_1 : decode prog_11_method_31_code 1 = .ok (.iload_n 1, 1) := q_tb t_Mo_has 1 rfl
theorem d_Mo_has_2 : decode prog_11_method_31_code 2 = .ok (.ifCond .lt 11, 3) := q_tb t_Mo_has 2 rfl
theorem d_Mo_has_5 : decode prog_11_method_31_code 5 = .ok (.iload_n 1, 1) := q_tb t_Mo_has 3 rfl
theorem d_Mo_has_6 : decode prog_11_method_31_code 6 = .ok (.aload_n 0, 1) := q_tb t_Mo_has 4 rfl
theorem d_Mo_has_7 : decode prog_11_method_31_code 7 = .ok (.getfield 105, 3) := q_tb t_Mo_has 5 rfl
theorem d_Mo_has_10 : decode prog_11_method_31_code 10 = .ok (.if_icmp .lt 7, 3) := q_tb t_Mo_has 6 rfl
theorem d_Mo_has_13 : decode prog_11_method_31_code 13 = .ok (.iconst 1, 1) := q_tb t_Mo_has 7 rfl
theorem d_Mo_has_14 : decode prog_11_method_31_code 14 = .ok (.goto 4, 3) := q_tb t_Mo_has 8 rfl
theorem d_Mo_has_17 : decode prog_11_method_31_code 17 = .ok (.iconst 0, 1) := q_tb t_Mo_has 9 rfl
theorem d_Mo_has_18 : decode prog_11_method_31_code 18 = .ok (.putfield 90, 3) := q_tb t_Mo_has 10 rfl
theorem d_Mo_has_21 : decode prog_11_method_31_code 21 = .ok (.aload_n 0, 1) := q_tb t_Mo_has 11 rfl
theorem d_Mo_has_22 : decode prog_11_method_31_code 22 = .ok (.getfield 90, 3) := q_tb t_Mo_has 12 rfl
theorem d_Mo_has_25 : decode prog_11_method_31_code 25 = .ok (.ifCond .le 7, 3) := q_tb t_Mo_has 13 rfl
theorem d_Mo_has_28 : decode prog_11_method_31_code 28 = .ok (.iconst 0, 1) := q_tb t_Mo_has 14 rfl
theorem d_Mo_has_29 : decode prog_11_method_31_code 29 = .ok (.goto 12, 3) := q_tb t_Mo_has 15 rfl
theorem d_Mo_has_32 : decode prog_11_method_31_code 32 = .ok (.aload_n 0, 1) := q_tb t_Mo_has 16 rfl
theorem d_Mo_has_33 : decode prog_11_method_31_code 33 = .ok (.getfield 72, 3) := q_tb t_Mo_has 17 rfl
theorem d_Mo_has_36 : decode prog_11_method_31_code 36 = .ok (.bipush 6, 2) := q_tb t_Mo_has 18 rfl
theorem d_Mo_has_38 : decode prog_11_method_31_code 38 = .ok (.iload_n 1, 1) := q_tb t_Mo_has 19 rfl
theorem d_Mo_has_39 : decode prog_11_method_31_code 39 = .ok (.iadd, 1) := q_tb t_Mo_has 20 rfl
theorem d_Mo_has_40 : decode prog_11_method_31_code 40 = .ok (.iaload, 1) := q_tb t_Mo_has 21 rfl
theorem d_Mo_has_41 : decode prog_11_method_31_code 41 = .ok (.ireturn, 1) := q_tb t_Mo_has 22 rfl
def T_Mo_product0 : List (Nat × Instr × Nat) := [(0, .aload_n 0, 1), (1, .iconst 0, 1), (2, .putfield 90, 3), (5, .iconst 1, 1), (6, .istore_n 1, 1), (7, .iconst 0, 1), (8, .istore_n 2, 1), (9, .iload_n 2, 1), (10, .aload_n 0, 1), (11, .getfield 111, 3), (14, .if_icmp .ge 25, 3), (17, .iload_n 1, 1), (18, .sipush 30000, 3), (21, .if_icmp .gt 18, 3), (24, .iload_n 1, 1), (25, .aload_n 0, 1), (26, .getfield 23, 3), (29, .iload_n 2, 1), (30, .iaload, 1), (31, .imul, 1), (32, .istore_n 1, 1), (33, .iinc 2 1, 3), (36, .goto (-27), 3), (39, .iconst 0, 1), (40, .istore_n 2, 1), (41, .iload_n 2, 1), (42, .aload_n 0, 1), (43, .getfield 105, 3), (46, .if_icmp .ge 25, 3), (49, .iload_n 1, 1), (50, .sipush 30000, 3), (53, .if_icmp .gt 18, 3), (56, .iload_n 1, 1), (57, .aload_n 0, 1), (58, .getfield 17, 3), (61, .iload_n 2, 1), (62, .iaload, 1), (63, .imul, 1), (64, .istore_n 1, 1), (65, .iinc 2 1, 3)]
set_option maxRecDepth 100000 in
theorem t_Mo_product0 : ∀ q ∈ T_Mo_product0, decode prog_11_method_32_code q.1 = .ok q.2 := by decide +kernel
theorem d_Mo_product_0 : decode prog_11_method_32_code 0 = .ok (.aload_n 0, 1) := q_tb t_Mo_product0 0 rfl
theorem d_Mo_product_1 : decode prog_11_method_32_code 1 = .ok (.iconst 0, 1) := q_tb t_Mo_product0 1 rfl
theorem d_Mo_product_2 : decode prog_11_method_32_code 2 = .ok (.putfield 90, 3) := q_tb t_Mo_product0 2 rfl
theorem d_Mo_product_5 : decode prog_11_method_32_code 5 = .ok (.iconst 1, 1) := q_tb t_Mo_product0 3 rfl
theorem d_Mo_product_6 : decode prog_11_method_32_code 6 = .ok (.istore_n 1, 1) := q_tb t_Mo_product0 4 rfl
theorem d_Mo_product_7 : decode prog_11_method_32_code 7 = .ok (.iconst 0, 1) := q_tb t_Mo_product0 5 rfl
theorem d_Mo_product_8 : decode prog_11_method_32_code 8 = .ok (.istore_n 2, 1) := q_tb t_Mo_product0 6 rfl
theorem d_Mo_product_9 : decode prog_11_method_32_code 9 = .ok (.iload_n 2, 1) := q_tb t_Mo_product0 7 rfl
theorem d_Mo_product_10 : decode prog_11_method_32_code 10 = .ok (.aload_n 0, 1) := q_tb t_Mo_product0 8 rfl
theorem d_Mo_product_11 : decode prog_11_method_32_code 11 = .ok (.getfield 111, 3) := q_tb t_Mo_product0 9 rfl
theorem d_Mo_product_14 : decode prog_11_method_32_code 14 = .ok (.if_icmp .ge 25, 3) := q_tb t_Mo_product0 10 rfl
theorem d_Mo_product_17 : decode prog_11_method_32_code 17 = .ok (.iload_n 1, 1) := q_tb t_Mo_product0 11 rfl
theorem d_Mo_product_18 : decode prog_11_method_32_code 18 = .ok (.sipush 30000, 3) := q_tb t_Mo_product0 12 rfl
theorem d_Mo_product_21 : decode prog_11_method_32_code 21 = .ok (.if_icmp .gt 18, 3) := q_tb t_Mo_product0 13 rfl
theorem d_Mo_product_24 : decode prog_11_method_32_code 24 = .ok (.iload_n 1, 1) := q_tb t_Mo_product0 14 rfl
theorem d_Mo_product_25 : decode prog_11_method_32_code 25 = .ok (.aload_n 0, 1) := q_tb t_Mo_product0 15 rfl
theorem d_Mo_product_26 : decode prog_11_method_32_code 26 = .ok (.getfield 23, 3) := q_tb t_Mo_product0 16 rfl
theorem d_Mo_product_29 : decode prog_11_method_32_code 29 = .ok (.iload_n 2, 1) := q_tb t_Mo_product0 17 rfl
theorem d_Mo_product_30 : decode prog_11_method_32_code 30 = .ok (.iaload, 1) := q_tb t_Mo_product0 18 rfl
theorem d_Mo_product_31 : decode prog_11_method_32_code 31 = .ok (.imul, 1) := q_tb t_Mo_product0 19 rfl
theorem d_Mo_product_32 : decode prog_11_method_32_code 32 = .ok (.istore_n 1, 1) := q_tb t_Mo_product0 20 rfl
theorem d_Mo_product_33 : decode prog_11_method_32_code 33 = .ok (.iinc 2 1, 3) := q_tb t_Mo_product0 21 rfl
theorem d_Mo_product_36 : decode prog_11_method_32_code 36 = .ok (.goto (-27), 3) := q_tb t_Mo_product0 22 rfl
theorem d_Mo_product_39 : decode prog_11_method_32_code 39 = .ok (.iconst 0, 1) := q_tb t_Mo_product0 23 rfl
theorem d_Mo_product_40 : decode prog_11_method_32_code 40 = .ok (.istore_n 2, 1) := q_tb t_Mo_product0 24 rfl
theorem d_Mo_product_41 : decode prog_11_method_32_code 41 = .ok (.iload_n 2, 1) := q_tb t_Mo_product0 25 rfl
theorem d_Mo_product_42 : decode prog_11_method_32_code 42 = .ok (.aload_n 0, 1) := q_tb t_Mo_product0 26 rfl
theorem d_Mo_product_43 : decode prog_11_method_32_code 43 = .ok (.getfield 105, 3) := q_tb t_Mo_product0 27 rfl
theorem d_Mo_product_46 : decode prog_11_method_32_code 46 = .ok (.if_icmp .ge 25, 3) := q_tb t_Mo_product0 28 rfl
theorem d_Mo_product_49 : decode prog_11_method_32_code 49 = .ok (.iload_n 1, 1) := q_tb t_Mo_product0 29 rfl
theorem d_Mo_product_50 : decode prog_11_method_32_code 50 = .ok (.sipush 30000, 3) := q_tb t_Mo_product0 30 rfl
theorem d_Mo_product_53 : decode prog_11_method_32_code 53 = .ok (.if_icmp .gt 18, 3) := q_tb t_Mo_product0 31 rfl
theorem d_Mo_product_56 : decode prog_11_method_32_code 56 = .ok (.iload_n 1, 1) := q_tb t_Mo_product0 32 rfl
theorem d_Mo_product_57 : decode prog_11_method_32_code 57 = .ok (.aload_n 0, 1) := q_tb t_Mo_product0 33 rfl
theorem d_Mo_product_58 : decode prog_11_method_32_code 58 = .ok (.getfield 17, 3) := q_tb t_Mo_product0 34 rfl
theorem d_Mo_product_61 : decode prog_11_method_32_code 61 = .ok (.iload_n 2, 1) := q_tb t_Mo_product0 35 rfl
theorem d_Mo_product_62 : decode prog_11_method_32_code 62 = .ok (.iaload, 1) := q_tb t_Mo_product0 36 rfl
theorem d_Mo_product_63 : decode prog_11_method_32_code 63 = .ok (.imul, 1) := q_tb t_Mo_product0 37 rfl
theorem d_Mo_product_64 : decode prog_11_method_32_code 64 = .ok (.istore_n 1, 1) := q_tb t_Mo_product0 38 rfl
theorem d_Mo_product_65 : decode prog_11_method_32_code 65 = .ok (.iinc 2 1, 3) := q_tb t_Mo_product0 39 rfl
def T_Mo_product1 : List (Nat × Instr × Nat) := [(68, .goto (-27), 3), (71, .iload_n 1, 1), (72, .sipush 30000, 3), (75, .if_icmp .le 8, 3), (78, .bipush (-2), 2), (80, .goto 4, 3), (83, .iload_n 1, 1), (84, .ireturn, 1)]
set_option maxRecDepth 100000 in
theorem t_Mo_product1 : ∀ q ∈ T_Mo_product1, decode prog_11_method_32_code q.1 = .ok q.2 := by decide +kernel
theorem d_Mo_product_68 : decode prog_11_method_32_code 68 = .ok (.goto (-27), 3) := q_tb t_Mo_product1 0 rfl
theorem d_Mo_product_71 : decode prog_11_method_32_code 71 = .ok (.iload_n 1, 1) := q_tb t_Mo_product1 1 rfl
theorem d_Mo_product_72 : decode prog_11_method_32_code 72 = .ok (.sipush 30000, 3) := q_tb t_Mo_product1 2 rfl
theorem d_Mo_product_75 : decode prog_11_method_32_code 75 = .ok (.if_icmp .le 8, 3) := q_tb t_Mo_product1 3 rfl
theorem d_Mo_product_78 : decode prog_11_method_32_code 78 = .ok (.bipush (-2), 2) := q_tb t_Mo_product1 4 rfl
theorem d_Mo_product_80 : decode prog_11_method_32_code 80 = .ok (.goto 4, 3) := q_tb t_Mo_product1 5 rfl
theorem d_Mo_product_83 : decode prog_11_method_32_code 83 = .ok (.iload_n 1, 1) := q_tb t_Mo_product1 6 rfl
theorem d_Mo_product_84 : decode prog_11_method_32_code 84 = .ok (.ireturn, 1) := q_tb t_Mo_product1 7 rfl
def T_Mo_stuck : List (Nat × Instr × Nat) := [(0, .aload_n 0, 1), (1, .invokevirtual 194, 3), (4, .ifCond .ge 6, 3), (7, .bipush (-2), 2), (9, .ireturn, 1), (10, .aload_n 0, 1), (11, .invokevirtual 206, 3), (14, .aload_n 0, 1), (15, .getfield 200, 3), (18, .ireturn, 1)]
set_option maxRecDepth 100000 in
theorem t_Mo_stuck : ∀ q ∈ T_Mo_stuck, decode prog_11_method_37_code q.1 = .ok q.2 := by decide +kernel
theorem d_Mo_stuck_0 : decode prog_11_method_37_code 0 = .ok (.aload_n 0, 1) := q_tb t_Mo_stuck 0 rfl
theorem d_Mo_stuck_1 : decode prog_11_method_37_code 1 = .ok (.invokevirtual 194, 3) := q_tb t_Mo_stuck 1 rfl
theorem d_Mo_stuck_4 : decode prog_11_method_37_code 4 = .ok (.ifCond .ge 6, 3) := q_tb t_Mo_stuck 2 rfl
theorem d_Mo_stuck_7 : decode prog_11_method_37_code 7 = .ok (.bipush (-2), 2) := q_tb t_Mo_stuck 3 rfl
theorem d_Mo_stuck_9 : decode prog_11_method_37_code 9 = .ok (.ireturn, 1) := q_tb t_Mo_stuck 4 rfl
theorem d_Mo_stuck_10 : decode prog_11_method_37_code 10 = .ok (.aload_n 0, 1) := q_tb t_Mo_stuck 5 rfl
theorem d_Mo_stuck_11 : decode prog_11_method_37_code 11 = .ok (.invokevirtual 206, 3) := q_tb t_Mo_stuck 6 rfl
theorem d_Mo_stuck_14 : decode prog_11_method_37_code 14 = .ok (.aload_n 0, 1) := q_tb t_Mo_stuck 7 rfl
theorem d_Mo_stuck_15 : decode prog_11_method_37_code 15 = .ok (.getfield 200, 3) := q_tb t_Mo_stuck 8 rfl
theorem d_Mo_stuck_18 : decode prog_11_method_37_code 18 = .ok (.ireturn, 1) := q_tb t_Mo_stuck 9 rfl
def T_Mo_know0 : List (Nat × Instr × Nat) := [(0, .aload_n 0, 1), (1, .getfield 98, 3), (4, .ifCond .eq 4, 3), (7, .return_, 1), (8, .iconst 0, 1), (9, .istore_n 1, 1), (10, .iload_n 1, 1), (11, .bipush 11, 2), (13, .if_icmp .ge 45, 3), (16, .aload_n 0, 1), (17, .getfield 75, 3), (20, .iload_n 1, 1), (21, .iload_n 1, 1), (22, .bipush 6, 2), (24, .if_icmp .lt 14, 3), (27, .iload_n 1, 1), (28, .bipush 6, 2), (30, .isub, 1), (31, .aload_n 0, 1), (32, .getfield 105, 3), (35, .if_icmp .lt 7, 3), (38, .iconst 0, 1), (39, .goto 12, 3), (42, .aload_n 0, 1), (43, .getfield 20, 3), (46, .iload_n 1, 1), (47, .bipush 6, 2), (49, .isub, 1), (50, .iaload, 1), (51, .iastore, 1), (52, .iinc 1 1, 3), (55, .goto (-45), 3), (58, .aload_n 0, 1), (59, .invokevirtual 194, 3), (62, .istore_n 1, 1), (63, .aload_n 0, 1), (64, .aload_n 0, 1), (65, .aload_n 0, 1), (66, .getfield 75, 3), (69, .invokevirtual 190, 3)]
set_option maxRecDepth 100000 in
theorem t_Mo_know0 : ∀ q ∈ T_Mo_know0, decode prog_11_method_36_code q.1 = .ok q.2 := by decide +kernel
theorem d_Mo_know_0 : decode prog_11_method_36_code 0 = .ok (.aload_n 0, 1) := q_tb t_Mo_know0 0 rfl
theorem d_Mo_know_1 : decode prog_11_method_36_code 1 = .ok (.getfield 98, 3) := q_tb t_Mo_know0 1 rfl
theorem d_Mo_know_4 : decode prog_11_method_36_code 4 = .ok (.ifCond .eq 4, 3) := q_tb t_Mo_know0 2 rfl
theorem d_Mo_know_7 : decode prog_11_method_36_code 7 = .ok (.return_, 1) := q_tb t_Mo_know0 3 rfl
theorem d_Mo_know_8 : decode prog_11_method_36_code 8 = .ok (.iconst 0, 1) := q_tb t_Mo_know0 4 rfl
theorem d_Mo_know_9 : decode prog_11_method_36_code 9 = .ok (.istore_n 1, 1) := q_tb t_Mo_know0 5 rfl
theorem d_Mo_know_10 : decode prog_11_method_36_code 10 = .ok (.iload_n 1, 1) := q_tb t_Mo_know0 6 rfl
theorem d_Mo_know_11 : decode prog_11_method_36_code 11 = .ok (.bipush 11, 2) := q_tb t_Mo_know0 7 rfl
theorem d_Mo_know_13 : decode prog_11_method_36_code 13 = .ok (.if_icmp .ge 45, 3) := q_tb t_Mo_know0 8 rfl
theorem d_Mo_know_16 : decode prog_11_method_36_code 16 = .ok (.aload_n 0, 1) := q_tb t_Mo_know0 9 rfl
theorem d_Mo_know_17 : decode prog_11_method_36_code 17 = .ok (.getfield 75, 3) := q_tb t_Mo_know0 10 rfl
theorem d_Mo_know_20 : decode prog_11_method_36_code 20 = .ok (.iload_n 1, 1) := q_tb t_Mo_know0 11 rfl
theorem d_Mo_know_21 : decode prog_11_method_36_code 21 = .ok (.iload_n 1, 1) := q_tb t_Mo_know0 12 rfl
theorem d_Mo_know_22 : decode prog_11_method_36_code 22 = .ok (.bipush 6, 2) := q_tb t_Mo_know0 13 rfl
theorem d_Mo_know_24 : decode prog_11_method_36_code 24 = .ok (.if_icmp .lt 14, 3) := q_tb t_Mo_know0 14 rfl
theorem d_Mo_know_27 : decode prog_11_method_36_code 27 = .ok (.iload_n 1, 1) := q_tb t_Mo_know0 15 rfl
theorem d_Mo_know_28 : decode prog_11_method_36_code 28 = .ok (.bipush 6, 2) := q_tb t_Mo_know0 16 rfl
theorem d_Mo_know_30 : decode prog_11_method_36_code 30 = .ok (.isub, 1) := q_tb t_Mo_know0 17 rfl
theorem d_Mo_know_31 : decode prog_11_method_36_code 31 = .ok (.aload_n 0, 1) := q_tb t_Mo_know0 18 rfl
theorem d_Mo_know_32 : decode prog_11_method_36_code 32 = .ok (.getfield 105, 3) := q_tb t_Mo_know0 19 rfl
theorem d_Mo_know_35 : decode prog_11_method_36_code 35 = .ok (.if_icmp .lt 7, 3) := q_tb t_Mo_know0 20 rfl
theorem d_Mo_know_38 : decode prog_11_method_36_code 38 = .ok (.iconst 0, 1) := q_tb t_Mo_know0 21 rfl
theorem d_Mo_know_39 : decode prog_11_method_36_code 39 = .ok (.goto 12, 3) := q_tb t_Mo_know0 22 rfl
theorem d_Mo_know_42 : decode prog_11_method_36_code 42 = .ok (.aload_n 0, 1) := q_tb t_Mo_know0 23 rfl
theorem d_Mo_know_43 : decode prog_11_method_36_code 43 = .ok (.getfield 20, 3) := q_tb t_Mo_know0 24 rfl
theorem d_Mo_know_46 : decode prog_11_method_36_code 46 = .ok (.iload_n 1, 1) := q_tb t_Mo_know0 25 rfl
theorem d_Mo_know_47 : decode prog_11_method_36_code 47 = .ok (.bipush 6, 2) := q_tb t_Mo_know0 26 rfl
theorem d_Mo_know_49 : decode prog_11_method_36_code 49 = .ok (.isub, 1) := q_tb t_Mo_know0 27 rfl
theorem d_Mo_know_50 : decode prog_11_method_36_code 50 = .ok (.iaload, 1) := q_tb t_Mo_know0 28 rfl
theorem d_Mo_know_51 : decode prog_11_method_36_code 51 = .ok (.iastore, 1) := q_tb t_Mo_know0 29 rfl
theorem d_Mo_know_52 : decode prog_11_method_36_code 52 = .ok (.iinc 1 1, 3) := q_tb t_Mo_know0 30 rfl
theorem d_Mo_know_55 : decode prog_11_method_36_code 55 = .ok (.goto (-45), 3) := q_tb t_Mo_know0 31 rfl
theorem d_Mo_know_58 : decode prog_11_method_36_code 58 = .ok (.aload_n 0, 1) := q_tb t_Mo_know0 32 rfl
theorem d_Mo_know_59 : decode prog_11_method_36_code 59 = .ok (.invokevirtual 194, 3) := q_tb t_Mo_know0 33 rfl
theorem d_Mo_know_62 : decode prog_11_method_36_code 62 = .ok (.istore_n 1, 1) := q_tb t_Mo_know0 34 rfl
theorem d_Mo_know_63 : decode prog_11_method_36_code 63 = .ok (.aload_n 0, 1) := q_tb t_Mo_know0 35 rfl
theorem d_Mo_know_64 : decode prog_11_method_36_code 64 = .ok (.aload_n 0, 1) := q_tb t_Mo_know0 36 rfl
theorem d_Mo_know_65 : decode prog_11_method_36_code 65 = .ok (.aload_n 0, 1) := q_tb t_Mo_know0 37 rfl
theorem d_Mo_know_66 : decode prog_11_method_36_code 66 = .ok (.getfield 75, 3) := q_tb t_Mo_know0 38 rfl
theorem d_Mo_know_69 : decode prog_11_method_36_code 69 = .ok (.invokevirtual 190, 3) := q_tb t_Mo_know0 39 rfl
def T_Mo_know1 : List (Nat × Instr × Nat) := [(72, .invokevirtual 197, 3), (75, .aload_n 0, 1), (76, .iconst 0, 1), (77, .putfield 200, 3), (80, .aload_n 0, 1), (81, .iconst 0, 1), (82, .putfield 203, 3), (85, .iconst 0, 1), (86, .istore_n 2, 1), (87, .iload_n 2, 1), (88, .iload_n 1, 1), (89, .if_icmp .ge 122, 3), (92, .aload_n 0, 1), (93, .iload_n 2, 1), (94, .invokevirtual 186, 3), (97, .aload_n 0, 1), (98, .getfield 81, 3), (101, .iload_n 2, 1), (102, .baload, 1), (103, .ifCond .eq 102, 3), (106, .aload_n 0, 1), (107, .invokevirtual 182, 3), (110, .ifCond .ne 95, 3), (113, .aload_n 0, 1), (114, .getfield 87, 3), (117, .aload_n 0, 1), (118, .getfield 200, 3), (121, .iload_n 2, 1), (122, .iastore, 1), (123, .aload_n 0, 1), (124, .dup, 1), (125, .getfield 200, 3), (128, .iconst 1, 1), (129, .iadd, 1), (130, .putfield 200, 3), (133, .iconst 1, 1), (134, .istore_n 3, 1), (135, .iconst 0, 1), (136, .istore 4, 2), (138, .iload 4, 2)]
set_option maxRecDepth 100000 in
theorem t_Mo_know1 : ∀ q ∈ T_Mo_know1, decode prog_11_method_36_code q.1 = .ok q.2 := by decide +kernel
theorem d_Mo_know_72 : decode prog_11_method_36_code 72 = .ok (.invokevirtual 197, 3) := q_tb t_Mo_know1 0 rfl
theorem d_Mo_know_75 : decode prog_11_method_36_code 75 = .ok (.aload_n 0, 1) := q_tb t_Mo_know1 1 rfl
theorem d_Mo_know_76 : decode prog_11_method_36_code 76 = .ok (.iconst 0, 1) := q_tb t_Mo_know1 2 rfl
theorem d_Mo_know_77 : decode prog_11_method_36_code 77 = .ok (.putfield 200, 3) := q_tb t_Mo_know1 3 rfl
theorem d_Mo_know_80 : decode prog_11_method_36_code 80 = .ok (.aload_n 0, 1) := q_tb t_Mo_know1 4 rfl
theorem d_Mo_know_81 : decode prog_11_method_36_code 81 = .ok (.iconst 0, 1) := q_tb t_Mo_know1 5 rfl
theorem d_Mo_know_82 : decode prog_11_method_36_code 82 = .ok (.putfield 203, 3) := q_tb t_Mo_know1 6 rfl
theorem d_Mo_know_85 : decode prog_11_method_36_code 85 = .ok (.iconst 0, 1) := q_tb t_Mo_know1 7 rfl
theorem d_Mo_know_86 : decode prog_11_method_36_code 86 = .ok (.istore_n 2, 1) := q_tb t_Mo_know1 8 rfl
theorem d_Mo_know_87 : decode prog_11_method_36_code 87 = .ok (.iload_n 2, 1) := q_tb t_Mo_know1 9 rfl
theorem d_Mo_know_88 : decode prog_11_method_36_code 88 = .ok (.iload_n 1, 1) := q_tb t_Mo_know1 10 rfl
theorem d_Mo_know_89 : decode prog_11_method_36_code 89 = .ok (.if_icmp .ge 122, 3) := q_tb t_Mo_know1 11 rfl
theorem d_Mo_know_92 : decode prog_11_method_36_code 92 = .ok (.aload_n 0, 1) := q_tb t_Mo_know1 12 rfl
theorem d_Mo_know_93 : decode prog_11_method_36_code 93 = .ok (.iload_n 2, 1) := q_tb t_Mo_know1 13 rfl
theorem d_Mo_know_94 : decode prog_11_method_36_code 94 = .ok (.invokevirtual 186, 3) := q_tb t_Mo_know1 14 rfl
theorem d_Mo_know_97 : decode prog_11_method_36_code 97 = .ok (.aload_n 0, 1) := q_tb t_Mo_know1 15 rfl
theorem d_Mo_know_98 : decode prog_11_method_36_code 98 = .ok (.getfield 81, 3) := q_tb t_Mo_know1 16 rfl
theorem d_Mo_know_101 : decode prog_11_method_36_code 101 = .ok (.iload_n 2, 1) := q_tb t_Mo_know1 17 rfl
theorem d_Mo_know_102 : decode prog_11_method_36_code 102 = .ok (.baload, 1) := q_tb t_Mo_know1 18 rfl
theorem d_Mo_know_103 : decode prog_11_method_36_code 103 = .ok (.ifCond .eq 102, 3) := q_tb t_Mo_know1 19 rfl
theorem d_Mo_know_106 : decode prog_11_method_36_code 106 = .ok (.aload_n 0, 1) := q_tb t_Mo_know1 20 rfl
theorem d_Mo_know_107 : decode prog_11_method_36_code 107 = .ok (.invokevirtual 182, 3) := q_tb t_Mo_know1 21 rfl
theorem d_Mo_know_110 : decode prog_11_method_36_code 110 = .ok (.ifCond .ne 95, 3) := q_tb t_Mo_know1 22 rfl
theorem d_Mo_know_113 : decode prog_11_method_36_code 113 = .ok (.aload_n 0, 1) := q_tb t_Mo_know1 23 rfl
theorem d_Mo_know_114 : decode prog_11_method_36_code 114 = .ok (.getfield 87, 3) := q_tb t_Mo_know1 24 rfl
theorem d_Mo_know_117 : decode prog_11_method_36_code 117 = .ok (.aload_n 0, 1) := q_tb t_Mo_know1 25 rfl
theorem d_Mo_know_118 : decode prog_11_method_36_code 118 = .ok (.getfield 200, 3) := q_tb t_Mo_know1 26 rfl
theorem d_Mo_know_121 : decode prog_11_method_36_code 121 = .ok (.iload_n 2, 1) := q_tb t_Mo_know1 27 rfl
theorem d_Mo_know_122 : decode prog_11_method_36_code 122 = .ok (.iastore, 1) := q_tb t_Mo_know1 28 rfl
theorem d_Mo_know_123 : decode prog_11_method_36_code 123 = .ok (.aload_n 0, 1) := q_tb t_Mo_know1 29 rfl
theorem d_Mo_know_124 : decode prog_11_method_36_code 124 = .ok (.dup, 1) := q_tb t_Mo_know1 30 rfl
theorem d_Mo_know_125 : decode prog_11_method_36_code 125 = .ok (.getfield 200, 3) := q_tb t_Mo_know1 31 rfl
theorem d_Mo_know_128 : decode prog_11_method_36_code 128 = .ok (.iconst 1, 1) := q_tb t_Mo_know1 32 rfl
theorem d_Mo_know_129 : decode prog_11_method_36_code 129 = .ok (.iadd, 1) := q_tb t_Mo_know1 33 rfl
theorem d_Mo_know_130 : decode prog_11_method_36_code 130 = .ok (.putfield 200, 3) := q_tb t_Mo_know1 34 rfl
theorem d_Mo_know_133 : decode prog_11_method_36_code 133 = .ok (.iconst 1, 1) := q_tb t_Mo_know1 35 rfl
theorem d_Mo_know_134 : decode prog_11_method_36_code 134 = .ok (.istore_n 3, 1) := q_tb t_Mo_know1 36 rfl
theorem d_Mo_know_135 : decode prog_11_method_36_code 135 = .ok (.iconst 0, 1) := q_tb t_Mo_know1 37 rfl
theorem d_Mo_know_136 : decode prog_11_method_36_code 136 = .ok (.istore 4, 2) := q_tb t_Mo_know1 38 rfl
theorem d_Mo_know_138 : decode prog_11_method_36_code 138 = .ok (.iload 4, 2) := q_tb t_Mo_know1 39 rfl
def T_Mo_know2 : List (Nat × Instr × Nat) := [(140, .aload_n 0, 1), (141, .getfield 111, 3), (144, .if_icmp .ge 40, 3), (147, .iload_n 3, 1), (148, .ifCond .eq 28, 3), (151, .aload_n 0, 1), (152, .getfield 26, 3), (155, .iload 4, 2), (157, .iaload, 1), (158, .aload_n 0, 1), (159, .getfield 75, 3), (162, .iload 4, 2), (164, .iaload, 1), (165, .ishr, 1), (166, .iconst 1, 1), (167, .iand, 1), (168, .iconst 1, 1), (169, .if_icmp .ne 7, 3), (172, .iconst 1, 1), (173, .goto 4, 3), (176, .iconst 0, 1), (177, .istore_n 3, 1), (178, .iinc 4 1, 3), (181, .goto (-43), 3), (184, .aload_n 0, 1), (185, .iload_n 3, 1), (186, .ifCond .eq 12, 3), (189, .aload_n 0, 1), (190, .getfield 203, 3), (193, .iconst 1, 1), (194, .iadd, 1), (195, .goto 7, 3), (198, .aload_n 0, 1), (199, .getfield 203, 3), (202, .putfield 203, 3), (205, .iinc 2 1, 3), (208, .goto (-121), 3), (211, .aload_n 0, 1), (212, .iconst 1, 1), (213, .putfield 98, 3)]
set_option maxRecDepth 100000 in
theorem t_Mo_know2 : ∀ q ∈ T_Mo_know2, decode prog_11_method_36_code q.1 = .ok q.2 := by decide +kernel
theorem d_Mo_know_140 : decode prog_11_method_36_code 140 = .ok (.aload_n 0, 1) := q_tb t_Mo_know2 0 rfl
theorem d_Mo_know_141 : decode prog_11_method_36_code 141 = .ok (.getfield 111, 3) := q_tb t_Mo_know2 1 rfl
theorem d_Mo_know_144 : decode prog_11_method_36_code 144 = .ok (.if_icmp .ge 40, 3) := q_tb t_Mo_know2 2 rfl
theorem d_Mo_know_147 : decode prog_11_method_36_code 147 = .ok (.iload_n 3, 1) := q_tb t_Mo_know2 3 rfl
theorem d_Mo_know_148 : decode prog_11_method_36_code 148 = .ok (.ifCond .eq 28, 3) := q_tb t_Mo_know2 4 rfl
theorem d_Mo_know_151 : decode prog_11_method_36_code 151 = .ok (.aload_n 0, 1) := q_tb t_Mo_know2 5 rfl
theorem d_Mo_know_152 : decode prog_11_method_36_code 152 = .ok (.getfield 26, 3) := q_tb t_Mo_know2 6 rfl
theorem d_Mo_know_155 : decode prog_11_method_36_code 155 = .ok (.iload 4, 2) := q_tb t_Mo_know2 7 rfl
theorem d_Mo_know_157 : decode prog_11_method_36_code 157 = .ok (.iaload, 1) := q_tb t_Mo_know2 8 rfl
theorem d_Mo_know_158 : decode prog_11_method_36_code 158 = .ok (.aload_n 0, 1) := q_tb t_Mo_know2 9 rfl
theorem d_Mo_know_159 : decode prog_11_method_36_code 159 = .ok (.getfield 75, 3) := q_tb t_Mo_know2 10 rfl
theorem d_Mo_know_162 : decode prog_11_method_36_code 162 = .ok (.iload 4, 2) := q_tb t_Mo_know2 11 rfl
theorem d_Mo_know_164 : decode prog_11_method_36_code 164 = .ok (.iaload, 1) := q_tb t_Mo_know2 12 rfl
theorem d_Mo_know_165 : decode prog_11_method_36_code 165 = .ok (.ishr, 1) := q_tb t_Mo_know2 13 rfl
theorem d_Mo_know_166 : decode prog_11_method_36_code 166 = .ok (.iconst 1, 1) := q_tb t_Mo_know2 14 rfl
theorem d_Mo_know_167 : decode prog_11_method_36_code 167 = .ok (.iand, 1) := q_tb t_Mo_know2 15 rfl
theorem d_Mo_know_168 : decode prog_11_method_36_code 168 = .ok (.iconst 1, 1) := q_tb t_Mo_know2 16 rfl
theorem d_Mo_know_169 : decode prog_11_method_36_code 169 = .ok (.if_icmp .ne 7, 3) := q_tb t_Mo_know2 17 rfl
theorem d_Mo_know_172 : decode prog_11_method_36_code 172 = .ok (.iconst 1, 1) := q_tb t_Mo_know2 18 rfl
theorem d_Mo_know_173 : decode prog_11_method_36_code 173 = .ok (.goto 4, 3) := q_tb t_Mo_know2 19 rfl
theorem d_Mo_know_176 : decode prog_11_method_36_code 176 = .ok (.iconst 0, 1) := q_tb t_Mo_know2 20 rfl
theorem d_Mo_know_177 : decode prog_11_method_36_code 177 = .ok (.istore_n 3, 1) := q_tb t_Mo_know2 21 rfl
theorem d_Mo_know_178 : decode prog_11_method_36_code 178 = .ok (.iinc 4 1, 3) := q_tb t_Mo_know2 22 rfl
theorem d_Mo_know_181 : decode prog_11_method_36_code 181 = .ok (.goto (-43), 3) := q_tb t_Mo_know2 23 rfl
theorem d_Mo_know_184 : decode prog_11_method_36_code 184 = .ok (.aload_n 0, 1) := q_tb t_Mo_know2 24 rfl
theorem d_Mo_know_185 : decode prog_11_method_36_code 185 = .ok (.iload_n 3, 1) := q_tb t_Mo_know2 25 rfl
theorem d_Mo_know_186 : decode prog_11_method_36_code 186 = .ok (.ifCond .eq 12, 3) := q_tb t_Mo_know2 26 rfl
theorem d_Mo_know_189 : decode prog_11_method_36_code 189 = .ok (.aload_n 0, 1) := q_tb t_Mo_know2 27 rfl
theorem d_Mo_know_190 : decode prog_11_method_36_code 190 = .ok (.getfield 203, 3) := q_tb t_Mo_know2 28 rfl
theorem d_Mo_know_193 : decode prog_11_method_36_code 193 = .ok (.iconst 1, 1) := q_tb t_Mo_know2 29 rfl
theorem d_Mo_know_194 : decode prog_11_method_36_code 194 = .ok (.iadd, 1) := q_tb t_Mo_know2 30 rfl
theorem d_Mo_know_195 : decode prog_11_method_36_code 195 = .ok (.goto 7, 3) := q_tb t_Mo_know2 31 rfl
theorem d_Mo_know_198 : decode prog_11_method_36_code 198 = .ok (.aload_n 0, 1) := q_tb t_Mo_know2 32 rfl
theorem d_Mo_know_199 : decode prog_11_method_36_code 199 = .ok (.getfield 203, 3) := q_tb t_Mo_know2 33 rfl
theorem d_Mo_know_202 : decode prog_11_method_36_code 202 = .ok (.putfield 203, 3) := q_tb t_Mo_know2 34 rfl
theorem d_Mo_know_205 : decode prog_11_method_36_code 205 = .ok (.iinc 2 1, 3) := q_tb t_Mo_know2 35 rfl
theorem d_Mo_know_208 : decode prog_11_method_36_code 208 = .ok (.goto (-121), 3) := q_tb t_Mo_know2 36 rfl
theorem d_Mo_know_211 : decode prog_11_method_36_code 211 = .ok (.aload_n 0, 1) := q_tb t_Mo_know2 37 rfl
theorem d_Mo_know_212 : decode prog_11_method_36_code 212 = .ok (.iconst 1, 1) := q_tb t_Mo_know2 38 rfl
theorem d_Mo_know_213 : decode prog_11_method_36_code 213 = .ok (.putfield 98, 3) := q_tb t_Mo_know2 39 rfl
def T_Mo_know3 : List (Nat × Instr × Nat) := [(216, .return_, 1)]
set_option maxRecDepth 100000 in
theorem t_Mo_know3 : ∀ q ∈ T_Mo_know3, decode prog_11_method_36_code q.1 = .ok q.2 := by decide +kernel
theorem d_Mo_know_216 : decode prog_11_method_36_code 216 = .ok (.return_, 1) := q_tb t_Mo_know3 0 rfl
def T_Mo_number0 : List (Nat × Instr × Nat) := [(0, .iconst 0, 1), (1, .istore_n 2, 1), (2, .iconst 0, 1), (3, .istore_n 3, 1), (4, .iload_n 3, 1), (5, .aload_n 0, 1), (6, .getfield 111, 3), (9, .if_icmp .ge 22, 3), (12, .iload_n 2, 1), (13, .aload_n 0, 1), (14, .getfield 23, 3), (17, .iload_n 3, 1), (18, .iaload, 1), (19, .imul, 1), (20, .aload_n 1, 1), (21, .iload_n 3, 1), (22, .iaload, 1), (23, .iadd, 1), (24, .istore_n 2, 1), (25, .iinc 3 1, 3), (28, .goto (-24), 3), (31, .iconst 0, 1), (32, .istore_n 3, 1), (33, .iload_n 3, 1), (34, .aload_n 0, 1), (35, .getfield 105, 3), (38, .if_icmp .ge 25, 3), (41, .iload_n 2, 1), (42, .aload_n 0, 1), (43, .getfield 17, 3), (46, .iload_n 3, 1), (47, .iaload, 1), (48, .imul, 1), (49, .aload_n 1, 1), (50, .bipush 6, 2), (52, .iload_n 3, 1), (53, .iadd, 1), (54, .iaload, 1), (55, .iadd, 1), (56, .istore_n 2, 1)]
set_option maxRecDepth 100000 in
theorem t_Mo_number0 : ∀ q ∈ T_Mo_number0, decode prog_11_method_33_code q.1 = .ok q.2 := by decide +kernel
theorem d_Mo_number_0 : decode prog_11_method_33_code 0 = .ok (.iconst 0, 1) := q_tb t_Mo_number0 0 rfl
theorem d_Mo_number_1 : decode prog_11_method_33_code 1 = .ok (.istore_n 2, 1) := q_tb t_Mo_number0 1 rfl
theorem d_Mo_number_2 : decode prog_11_method_33_code 2 = .ok (.iconst 0, 1) := q_tb t_Mo_number0 2 rfl
theorem d_Mo_number_3 : decode prog_11_method_33_code 3 = .ok (.istore_n 3, 1) := q_tb t_Mo_number0 3 rfl
theorem d_Mo_number_4 : decode prog_11_method_33_code 4 = .ok (.iload_n 3, 1) := q_tb t_Mo_number0 4 rfl
theorem d_Mo_number_5 : decode prog_11_method_33_code 5 = .ok (.aload_n 0, 1) := q_tb t_Mo_number0 5 rfl
theorem d_Mo_number_6 : decode prog_11_method_33_code 6 = .ok (.getfield 111, 3) := q_tb t_Mo_number0 6 rfl
theorem d_Mo_number_9 : decode prog_11_method_33_code 9 = .ok (.if_icmp .ge 22, 3) := q_tb t_Mo_number0 7 rfl
theorem d_Mo_number_12 : decode prog_11_method_33_code 12 = .ok (.iload_n 2, 1) := q_tb t_Mo_number0 8 rfl
theorem d_Mo_number_13 : decode prog_11_method_33_code 13 = .ok (.aload_n 0, 1) := q_tb t_Mo_number0 9 rfl
theorem d_Mo_number_14 : decode prog_11_method_33_code 14 = .ok (.getfield 23, 3) := q_tb t_Mo_number0 10 rfl
theorem d_Mo_number_17 : decode prog_11_method_33_code 17 = .ok (.iload_n 3, 1) := q_tb t_Mo_number0 11 rfl
theorem d_Mo_number_18 : decode prog_11_method_33_code 18 = .ok (.iaload, 1) := q_tb t_Mo_number0 12 rfl
theorem d_Mo_number_19 : decode prog_11_method_33_code 19 = .ok (.imul, 1) := q_tb t_Mo_number0 13 rfl
theorem d_Mo_number_20 : decode prog_11_method_33_code 20 = .ok (.aload_n 1, 1) := q_tb t_Mo_number0 14 rfl
theorem d_Mo_number_21 : decode prog_11_method_33_code 21 = .ok (.iload_n 3, 1) := q_tb t_Mo_number0 15 rfl
theorem d_Mo_number_22 : decode prog_11_method_33_code 22 = .ok (.iaload, 1) := q_tb t_Mo_number0 16 rfl
theorem d_Mo_number_23 : decode prog_11_method_33_code 23 = .ok (.iadd, 1) := q_tb t_Mo_number0 17 rfl
theorem d_Mo_number_24 : decode prog_11_method_33_code 24 = .ok (.istore_n 2, 1) := q_tb t_Mo_number0 18 rfl
theorem d_Mo_number_25 : decode prog_11_method_33_code 25 = .ok (.iinc 3 1, 3) := q_tb t_Mo_number0 19 rfl
theorem d_Mo_number_28 : decode prog_11_method_33_code 28 = .ok (.goto (-24), 3) := q_tb t_Mo_number0 20 rfl
theorem d_Mo_number_31 : decode prog_11_method_33_code 31 = .ok (.iconst 0, 1) := q_tb t_Mo_number0 21 rfl
theorem d_Mo_number_32 : decode prog_11_method_33_code 32 = .ok (.istore_n 3, 1) := q_tb t_Mo_number0 22 rfl
theorem d_Mo_number_33 : decode prog_11_method_33_code 33 = .ok (.iload_n 3, 1) := q_tb t_Mo_number0 23 rfl
theorem d_Mo_number_34 : decode prog_11_method_33_code 34 = .ok (.aload_n 0, 1) := q_tb t_Mo_number0 24 rfl
theorem d_Mo_number_35 : decode prog_11_method_33_code 35 = .ok (.getfield 105, 3) := q_tb t_Mo_number0 25 rfl
theorem d_Mo_number_38 : decode prog_11_method_33_code 38 = .ok (.if_icmp .ge 25, 3) := q_tb t_Mo_number0 26 rfl
theorem d_Mo_number_41 : decode prog_11_method_33_code 41 = .ok (.iload_n 2, 1) := q_tb t_Mo_number0 27 rfl
theorem d_Mo_number_42 : decode prog_11_method_33_code 42 = .ok (.aload_n 0, 1) := q_tb t_Mo_number0 28 rfl
theorem d_Mo_number_43 : decode prog_11_method_33_code 43 = .ok (.getfield 17, 3) := q_tb t_Mo_number0 29 rfl
theorem d_Mo_number_46 : decode prog_11_method_33_code 46 = .ok (.iload_n 3, 1) := q_tb t_Mo_number0 30 rfl
theorem d_Mo_number_47 : decode prog_11_method_33_code 47 = .ok (.iaload, 1) := q_tb t_Mo_number0 31 rfl
theorem d_Mo_number_48 : decode prog_11_method_33_code 48 = .ok (.imul, 1) := q_tb t_Mo_number0 32 rfl
theorem d_Mo_number_49 : decode prog_11_method_33_code 49 = .ok (.aload_n 1, 1) := q_tb t_Mo_number0 33 rfl
theorem d_Mo_number_50 : decode prog_11_method_33_code 50 = .ok (.bipush 6, 2) := q_tb t_Mo_number0 34 rfl
theorem d_Mo_number_52 : decode prog_11_method_33_code 52 = .ok (.iload_n 3, 1) := q_tb t_Mo_number0 35 rfl
theorem d_Mo_number_53 : decode prog_11_method_33_code 53 = .ok (.iadd, 1) := q_tb t_Mo_number0 36 rfl
theorem d_Mo_number_54 : decode prog_11_method_33_code 54 = .ok (.iaload, 1) := q_tb t_Mo_number0 37 rfl
theorem d_Mo_number_55 : decode prog_11_method_33_code 55 = .ok (.iadd, 1) := q_tb t_Mo_number0 38 rfl
theorem d_Mo_number_56 : decode prog_11_method_33_code 56 = .ok (.istore_n 2, 1) := q_tb t_Mo_number0 39 rfl
def T_Mo_number1 : List (Nat × Instr × Nat) := [(57, .iinc 3 1, 3), (60, .goto (-27), 3), (63, .iload_n 2, 1), (64, .ireturn, 1)]
set_option maxRecDepth 100000 in
theorem t_Mo_number1 : ∀ q ∈ T_Mo_number1, decode prog_11_method_33_code q.1 = .ok q.2 := by decide +kernel
theorem d_Mo_number_57 : decode prog_11_method_33_code 57 = .ok (.iinc 3 1, 3) := q_tb t_Mo_number1 0 rfl
theorem d_Mo_number_60 : decode prog_11_method_33_code 60 = .ok (.goto (-27), 3) := q_tb t_Mo_number1 1 rfl
theorem d_Mo_number_63 : decode prog_11_method_33_code 63 = .ok (.iload_n 2, 1) := q_tb t_Mo_number1 2 rfl
theorem d_Mo_number_64 : decode prog_11_method_33_code 64 = .ok (.ireturn, 1) := q_tb t_Mo_number1 3 rfl
def T_Mo_walk0 : List (Nat × Instr × Nat) := [(0, .iconst 0, 1), (1, .istore_n 2, 1), (2, .iload_n 2, 1), (3, .sipush 30000, 3), (6, .if_icmp .gt 16, 3), (9, .aload_n 0, 1), (10, .getfield 81, 3), (13, .iload_n 2, 1), (14, .iconst 0, 1), (15, .bastore, 1), (16, .iinc 2 1, 3), (19, .goto (-17), 3), (22, .aload_n 0, 1), (23, .getfield 81, 3), (26, .iload_n 1, 1), (27, .iconst 1, 1), (28, .bastore, 1), (29, .aload_n 0, 1), (30, .getfield 84, 3), (33, .iconst 0, 1), (34, .iload_n 1, 1), (35, .iastore, 1), (36, .iconst 1, 1), (37, .istore_n 2, 1), (38, .iconst 0, 1), (39, .istore_n 3, 1), (40, .iload_n 3, 1), (41, .iload_n 2, 1), (42, .if_icmp .ge 111, 3), (45, .aload_n 0, 1), (46, .aload_n 0, 1), (47, .getfield 84, 3), (50, .iload_n 3, 1), (51, .iaload, 1), (52, .invokevirtual 186, 3), (55, .iconst 0, 1), (56, .istore 4, 2), (58, .iload 4, 2), (60, .aload_n 0, 1), (61, .getfield 111, 3)]
set_option maxRecDepth 100000 in
theorem t_Mo_walk0 : ∀ q ∈ T_Mo_walk0, decode prog_11_method_35_code q.1 = .ok q.2 := by decide +kernel
theorem d_Mo_walk_0 : decode prog_11_method_35_code 0 = .ok (.iconst 0, 1) := q_tb t_Mo_walk0 0 rfl
theorem d_Mo_walk_1 : decode prog_11_method_35_code 1 = .ok (.istore_n 2, 1) := q_tb t_Mo_walk0 1 rfl
theorem d_Mo_walk_2 : decode prog_11_method_35_code 2 = .ok (.iload_n 2, 1) := q_tb t_Mo_walk0 2 rfl
theorem d_Mo_walk_3 : decode prog_11_method_35_code 3 = .ok (.sipush 30000, 3) := q_tb t_Mo_walk0 3 rfl
theorem d_Mo_walk_6 : decode prog_11_method_35_code 6 = .ok (.if_icmp .gt 16, 3) := q_tb t_Mo_walk0 4 rfl
theorem d_Mo_walk_9 : decode prog_11_method_35_code 9 = .ok (.aload_n 0, 1) := q_tb t_Mo_walk0 5 rfl
theorem d_Mo_walk_10 : decode prog_11_method_35_code 10 = .ok (.getfield 81, 3) := q_tb t_Mo_walk0 6 rfl
theorem d_Mo_walk_13 : decode prog_11_method_35_code 13 = .ok (.iload_n 2, 1) := q_tb t_Mo_walk0 7 rfl
theorem d_Mo_walk_14 : decode prog_11_method_35_code 14 = .ok (.iconst 0, 1) := q_tb t_Mo_walk0 8 rfl
theorem d_Mo_walk_15 : decode prog_11_method_35_code 15 = .ok (.bastore, 1) := q_tb t_Mo_walk0 9 rfl
theorem d_Mo_walk_16 : decode prog_11_method_35_code 16 = .ok (.iinc 2 1, 3) := q_tb t_Mo_walk0 10 rfl
theorem d_Mo_walk_19 : decode prog_11_method_35_code 19 = .ok (.goto (-17), 3) := q_tb t_Mo_walk0 11 rfl
theorem d_Mo_walk_22 : decode prog_11_method_35_code 22 = .ok (.aload_n 0, 1) := q_tb t_Mo_walk0 12 rfl
theorem d_Mo_walk_23 : decode prog_11_method_35_code 23 = .ok (.getfield 81, 3) := q_tb t_Mo_walk0 13 rfl
theorem d_Mo_walk_26 : decode prog_11_method_35_code 26 = .ok (.iload_n 1, 1) := q_tb t_Mo_walk0 14 rfl
theorem d_Mo_walk_27 : decode prog_11_method_35_code 27 = .ok (.iconst 1, 1) := q_tb t_Mo_walk0 15 rfl
theorem d_Mo_walk_28 : decode prog_11_method_35_code 28 = .ok (.bastore, 1) := q_tb t_Mo_walk0 16 rfl
theorem d_Mo_walk_29 : decode prog_11_method_35_code 29 = .ok (.aload_n 0, 1) := q_tb t_Mo_walk0 17 rfl
theorem d_Mo_walk_30 : decode prog_11_method_35_code 30 = .ok (.getfield 84, 3) := q_tb t_Mo_walk0 18 rfl
theorem d_Mo_walk_33 : decode prog_11_method_35_code 33 = .ok (.iconst 0, 1) := q_tb t_Mo_walk0 19 rfl
theorem d_Mo_walk_34 : decode prog_11_method_35_code 34 = .ok (.iload_n 1, 1) := q_tb t_Mo_walk0 20 rfl
theorem d_Mo_walk_35 : decode prog_11_method_35_code 35 = .ok (.iastore, 1) := q_tb t_Mo_walk0 21 rfl
theorem d_Mo_walk_36 : decode prog_11_method_35_code 36 = .ok (.iconst 1, 1) := q_tb t_Mo_walk0 22 rfl
theorem d_Mo_walk_37 : decode prog_11_method_35_code 37 = .ok (.istore_n 2, 1) := q_tb t_Mo_walk0 23 rfl
theorem d_Mo_walk_38 : decode prog_11_method_35_code 38 = .ok (.iconst 0, 1) := q_tb t_Mo_walk0 24 rfl
theorem d_Mo_walk_39 : decode prog_11_method_35_code 39 = .ok (.istore_n 3, 1) := q_tb t_Mo_walk0 25 rfl
theorem d_Mo_walk_40 : decode prog_11_method_35_code 40 = .ok (.iload_n 3, 1) := q_tb t_Mo_walk0 26 rfl
theorem d_Mo_walk_41 : decode prog_11_method_35_code 41 = .ok (.iload_n 2, 1) := q_tb t_Mo_walk0 27 rfl
theorem d_Mo_walk_42 : decode prog_11_method_35_code 42 = .ok (.if_icmp .ge 111, 3) := q_tb t_Mo_walk0 28 rfl
theorem d_Mo_walk_45 : decode prog_11_method_35_code 45 = .ok (.aload_n 0, 1) := q_tb t_Mo_walk0 29 rfl
theorem d_Mo_walk_46 : decode prog_11_method_35_code 46 = .ok (.aload_n 0, 1) := q_tb t_Mo_walk0 30 rfl
theorem d_Mo_walk_47 : decode prog_11_method_35_code 47 = .ok (.getfield 84, 3) := q_tb t_Mo_walk0 31 rfl
theorem d_Mo_walk_50 : decode prog_11_method_35_code 50 = .ok (.iload_n 3, 1) := q_tb t_Mo_walk0 32 rfl
theorem d_Mo_walk_51 : decode prog_11_method_35_code 51 = .ok (.iaload, 1) := q_tb t_Mo_walk0 33 rfl
theorem d_Mo_walk_52 : decode prog_11_method_35_code 52 = .ok (.invokevirtual 186, 3) := q_tb t_Mo_walk0 34 rfl
theorem d_Mo_walk_55 : decode prog_11_method_35_code 55 = .ok (.iconst 0, 1) := q_tb t_Mo_walk0 35 rfl
theorem d_Mo_walk_56 : decode prog_11_method_35_code 56 = .ok (.istore 4, 2) := q_tb t_Mo_walk0 36 rfl
theorem d_Mo_walk_58 : decode prog_11_method_35_code 58 = .ok (.iload 4, 2) := q_tb t_Mo_walk0 37 rfl
theorem d_Mo_walk_60 : decode prog_11_method_35_code 60 = .ok (.aload_n 0, 1) := q_tb t_Mo_walk0 38 rfl
theorem d_Mo_walk_61 : decode prog_11_method_35_code 61 = .ok (.getfield 111, 3) := q_tb t_Mo_walk0 39 rfl
def T_Mo_walk1 : List (Nat × Instr × Nat) := [(64, .if_icmp .ge 83, 3), (67, .iconst 1, 1), (68, .istore 5, 2), (70, .iload 5, 2), (72, .bipush 13, 2), (74, .if_icmp .ge 67, 3), (77, .aload_n 0, 1), (78, .iload 4, 2), (80, .iload 5, 2), (82, .invokevirtual 175, 3), (85, .ifCond .eq 50, 3), (88, .aload_n 0, 1), (89, .getfield 81, 3), (92, .aload_n 0, 1), (93, .aload_n 0, 1), (94, .getfield 78, 3), (97, .invokevirtual 190, 3), (100, .baload, 1), (101, .ifCond .ne 34, 3), (104, .aload_n 0, 1), (105, .getfield 81, 3), (108, .aload_n 0, 1), (109, .aload_n 0, 1), (110, .getfield 78, 3), (113, .invokevirtual 190, 3), (116, .iconst 1, 1), (117, .bastore, 1), (118, .aload_n 0, 1), (119, .getfield 84, 3), (122, .iload_n 2, 1), (123, .aload_n 0, 1), (124, .aload_n 0, 1), (125, .getfield 78, 3), (128, .invokevirtual 190, 3), (131, .iastore, 1), (132, .iinc 2 1, 3), (135, .iinc 5 1, 3), (138, .goto (-68), 3), (141, .iinc 4 1, 3), (144, .goto (-86), 3)]
set_option maxRecDepth 100000 in
theorem t_Mo_walk1 : ∀ q ∈ T_Mo_walk1, decode prog_11_method_35_code q.1 = .ok q.2 := by decide +kernel
theorem d_Mo_walk_64 : decode prog_11_method_35_code 64 = .ok (.if_icmp .ge 83, 3) := q_tb t_Mo_walk1 0 rfl
theorem d_Mo_walk_67 : decode prog_11_method_35_code 67 = .ok (.iconst 1, 1) := q_tb t_Mo_walk1 1 rfl
theorem d_Mo_walk_68 : decode prog_11_method_35_code 68 = .ok (.istore 5, 2) := q_tb t_Mo_walk1 2 rfl
theorem d_Mo_walk_70 : decode prog_11_method_35_code 70 = .ok (.iload 5, 2) := q_tb t_Mo_walk1 3 rfl
theorem d_Mo_walk_72 : decode prog_11_method_35_code 72 = .ok (.bipush 13, 2) := q_tb t_Mo_walk1 4 rfl
theorem d_Mo_walk_74 : decode prog_11_method_35_code 74 = .ok (.if_icmp .ge 67, 3) := q_tb t_Mo_walk1 5 rfl
theorem d_Mo_walk_77 : decode prog_11_method_35_code 77 = .ok (.aload_n 0, 1) := q_tb t_Mo_walk1 6 rfl
theorem d_Mo_walk_78 : decode prog_11_method_35_code 78 = .ok (.iload 4, 2) := q_tb t_Mo_walk1 7 rfl
theorem d_Mo_walk_80 : decode prog_11_method_35_code 80 = .ok (.iload 5, 2) := q_tb t_Mo_walk1 8 rfl
theorem d_Mo_walk_82 : decode prog_11_method_35_code 82 = .ok (.invokevirtual 175, 3) := q_tb t_Mo_walk1 9 rfl
theorem d_Mo_walk_85 : decode prog_11_method_35_code 85 = .ok (.ifCond .eq 50, 3) := q_tb t_Mo_walk1 10 rfl
theorem d_Mo_walk_88 : decode prog_11_method_35_code 88 = .ok (.aload_n 0, 1) := q_tb t_Mo_walk1 11 rfl
theorem d_Mo_walk_89 : decode prog_11_method_35_code 89 = .ok (.getfield 81, 3) := q_tb t_Mo_walk1 12 rfl
theorem d_Mo_walk_92 : decode prog_11_method_35_code 92 = .ok (.aload_n 0, 1) := q_tb t_Mo_walk1 13 rfl
theorem d_Mo_walk_93 : decode prog_11_method_35_code 93 = .ok (.aload_n 0, 1) := q_tb t_Mo_walk1 14 rfl
theorem d_Mo_walk_94 : decode prog_11_method_35_code 94 = .ok (.getfield 78, 3) := q_tb t_Mo_walk1 15 rfl
theorem d_Mo_walk_97 : decode prog_11_method_35_code 97 = .ok (.invokevirtual 190, 3) := q_tb t_Mo_walk1 16 rfl
theorem d_Mo_walk_100 : decode prog_11_method_35_code 100 = .ok (.baload, 1) := q_tb t_Mo_walk1 17 rfl
theorem d_Mo_walk_101 : decode prog_11_method_35_code 101 = .ok (.ifCond .ne 34, 3) := q_tb t_Mo_walk1 18 rfl
theorem d_Mo_walk_104 : decode prog_11_method_35_code 104 = .ok (.aload_n 0, 1) := q_tb t_Mo_walk1 19 rfl
theorem d_Mo_walk_105 : decode prog_11_method_35_code 105 = .ok (.getfield 81, 3) := q_tb t_Mo_walk1 20 rfl
theorem d_Mo_walk_108 : decode prog_11_method_35_code 108 = .ok (.aload_n 0, 1) := q_tb t_Mo_walk1 21 rfl
theorem d_Mo_walk_109 : decode prog_11_method_35_code 109 = .ok (.aload_n 0, 1) := q_tb t_Mo_walk1 22 rfl
theorem d_Mo_walk_110 : decode prog_11_method_35_code 110 = .ok (.getfield 78, 3) := q_tb t_Mo_walk1 23 rfl
theorem d_Mo_walk_113 : decode prog_11_method_35_code 113 = .ok (.invokevirtual 190, 3) := q_tb t_Mo_walk1 24 rfl
theorem d_Mo_walk_116 : decode prog_11_method_35_code 116 = .ok (.iconst 1, 1) := q_tb t_Mo_walk1 25 rfl
theorem d_Mo_walk_117 : decode prog_11_method_35_code 117 = .ok (.bastore, 1) := q_tb t_Mo_walk1 26 rfl
theorem d_Mo_walk_118 : decode prog_11_method_35_code 118 = .ok (.aload_n 0, 1) := q_tb t_Mo_walk1 27 rfl
theorem d_Mo_walk_119 : decode prog_11_method_35_code 119 = .ok (.getfield 84, 3) := q_tb t_Mo_walk1 28 rfl
theorem d_Mo_walk_122 : decode prog_11_method_35_code 122 = .ok (.iload_n 2, 1) := q_tb t_Mo_walk1 29 rfl
theorem d_Mo_walk_123 : decode prog_11_method_35_code 123 = .ok (.aload_n 0, 1) := q_tb t_Mo_walk1 30 rfl
theorem d_Mo_walk_124 : decode prog_11_method_35_code 124 = .ok (.aload_n 0, 1) := q_tb t_Mo_walk1 31 rfl
theorem d_Mo_walk_125 : decode prog_11_method_35_code 125 = .ok (.getfield 78, 3) := q_tb t_Mo_walk1 32 rfl
theorem d_Mo_walk_128 : decode prog_11_method_35_code 128 = .ok (.invokevirtual 190, 3) := q_tb t_Mo_walk1 33 rfl
theorem d_Mo_walk_131 : decode prog_11_method_35_code 131 = .ok (.iastore, 1) := q_tb t_Mo_walk1 34 rfl
theorem d_Mo_walk_132 : decode prog_11_method_35_code 132 = .ok (.iinc 2 1, 3) := q_tb t_Mo_walk1 35 rfl
theorem d_Mo_walk_135 : decode prog_11_method_35_code 135 = .ok (.iinc 5 1, 3) := q_tb t_Mo_walk1 36 rfl
theorem d_Mo_walk_138 : decode prog_11_method_35_code 138 = .ok (.goto (-68), 3) := q_tb t_Mo_walk1 37 rfl
theorem d_Mo_walk_141 : decode prog_11_method_35_code 141 = .ok (.iinc 4 1, 3) := q_tb t_Mo_walk1 38 rfl
theorem d_Mo_walk_144 : decode prog_11_method_35_code 144 = .ok (.goto (-86), 3) := q_tb t_Mo_walk1 39 rfl
def T_Mo_walk2 : List (Nat × Instr × Nat) := [(147, .iinc 3 1, 3), (150, .goto (-110), 3), (153, .return_, 1)]
set_option maxRecDepth 100000 in
theorem t_Mo_walk2 : ∀ q ∈ T_Mo_walk2, decode prog_11_method_35_code q.1 = .ok q.2 := by decide +kernel
theorem d_Mo_walk_147 : decode prog_11_method_35_code 147 = .ok (.iinc 3 1, 3) := q_tb t_Mo_walk2 0 rfl
theorem d_Mo_walk_150 : decode prog_11_method_35_code 150 = .ok (.goto (-110), 3) := q_tb t_Mo_walk2 1 rfl
theorem d_Mo_walk_153 : decode prog_11_method_35_code 153 = .ok (.return_, 1) := q_tb t_Mo_walk2 2 rfl
def T_Mo_apart0 : List (Nat × Instr × Nat) := [(0, .iload_n 1, 1), (1, .istore_n 2, 1), (2, .aload_n 0, 1), (3, .getfield 105, 3), (6, .iconst 1, 1), (7, .isub, 1), (8, .istore_n 3, 1), (9, .iload_n 3, 1), (10, .ifCond .lt 35, 3), (13, .aload_n 0, 1), (14, .getfield 75, 3), (17, .bipush 6, 2), (19, .iload_n 3, 1), (20, .iadd, 1), (21, .iload_n 2, 1), (22, .aload_n 0, 1), (23, .getfield 17, 3), (26, .iload_n 3, 1), (27, .iaload, 1), (28, .irem, 1), (29, .iastore, 1), (30, .iload_n 2, 1), (31, .aload_n 0, 1), (32, .getfield 17, 3), (35, .iload_n 3, 1), (36, .iaload, 1), (37, .idiv, 1), (38, .istore_n 2, 1), (39, .iinc 3 (-1), 3), (42, .goto (-33), 3), (45, .aload_n 0, 1), (46, .getfield 111, 3), (49, .iconst 1, 1), (50, .isub, 1), (51, .istore_n 3, 1), (52, .iload_n 3, 1), (53, .ifCond .lt 32, 3), (56, .aload_n 0, 1), (57, .getfield 75, 3), (60, .iload_n 3, 1)]
set_option maxRecDepth 100000 in
theorem t_Mo_apart0 : ∀ q ∈ T_Mo_apart0, decode prog_11_method_34_code q.1 = .ok q.2 := by decide +kernel
theorem d_Mo_apart_0 : decode prog_11_method_34_code 0 = .ok (.iload_n 1, 1) := q_tb t_Mo_apart0 0 rfl
theorem d_Mo_apart_1 : decode prog_11_method_34_code 1 = .ok (.istore_n 2, 1) := q_tb t_Mo_apart0 1 rfl
theorem d_Mo_apart_2 : decode prog_11_method_34_code 2 = .ok (.aload_n 0, 1) := q_tb t_Mo_apart0 2 rfl
theorem d_Mo_apart_3 : decode prog_11_method_34_code 3 = .ok (.getfield 105, 3) := q_tb t_Mo_apart0 3 rfl
theorem d_Mo_apart_6 : decode prog_11_method_34_code 6 = .ok (.iconst 1, 1) := q_tb t_Mo_apart0 4 rfl
theorem d_Mo_apart_7 : decode prog_11_method_34_code 7 = .ok (.isub, 1) := q_tb t_Mo_apart0 5 rfl
theorem d_Mo_apart_8 : decode prog_11_method_34_code 8 = .ok (.istore_n 3, 1) := q_tb t_Mo_apart0 6 rfl
theorem d_Mo_apart_9 : decode prog_11_method_34_code 9 = .ok (.iload_n 3, 1) := q_tb t_Mo_apart0 7 rfl
theorem d_Mo_apart_10 : decode prog_11_method_34_code 10 = .ok (.ifCond .lt 35, 3) := q_tb t_Mo_apart0 8 rfl
theorem d_Mo_apart_13 : decode prog_11_method_34_code 13 = .ok (.aload_n 0, 1) := q_tb t_Mo_apart0 9 rfl
theorem d_Mo_apart_14 : decode prog_11_method_34_code 14 = .ok (.getfield 75, 3) := q_tb t_Mo_apart0 10 rfl
theorem d_Mo_apart_17 : decode prog_11_method_34_code 17 = .ok (.bipush 6, 2) := q_tb t_Mo_apart0 11 rfl
theorem d_Mo_apart_19 : decode prog_11_method_34_code 19 = .ok (.iload_n 3, 1) := q_tb t_Mo_apart0 12 rfl
theorem d_Mo_apart_20 : decode prog_11_method_34_code 20 = .ok (.iadd, 1) := q_tb t_Mo_apart0 13 rfl
theorem d_Mo_apart_21 : decode prog_11_method_34_code 21 = .ok (.iload_n 2, 1) := q_tb t_Mo_apart0 14 rfl
theorem d_Mo_apart_22 : decode prog_11_method_34_code 22 = .ok (.aload_n 0, 1) := q_tb t_Mo_apart0 15 rfl
theorem d_Mo_apart_23 : decode prog_11_method_34_code 23 = .ok (.getfield 17, 3) := q_tb t_Mo_apart0 16 rfl
theorem d_Mo_apart_26 : decode prog_11_method_34_code 26 = .ok (.iload_n 3, 1) := q_tb t_Mo_apart0 17 rfl
theorem d_Mo_apart_27 : decode prog_11_method_34_code 27 = .ok (.iaload, 1) := q_tb t_Mo_apart0 18 rfl
theorem d_Mo_apart_28 : decode prog_11_method_34_code 28 = .ok (.irem, 1) := q_tb t_Mo_apart0 19 rfl
theorem d_Mo_apart_29 : decode prog_11_method_34_code 29 = .ok (.iastore, 1) := q_tb t_Mo_apart0 20 rfl
theorem d_Mo_apart_30 : decode prog_11_method_34_code 30 = .ok (.iload_n 2, 1) := q_tb t_Mo_apart0 21 rfl
theorem d_Mo_apart_31 : decode prog_11_method_34_code 31 = .ok (.aload_n 0, 1) := q_tb t_Mo_apart0 22 rfl
theorem d_Mo_apart_32 : decode prog_11_method_34_code 32 = .ok (.getfield 17, 3) := q_tb t_Mo_apart0 23 rfl
theorem d_Mo_apart_35 : decode prog_11_method_34_code 35 = .ok (.iload_n 3, 1) := q_tb t_Mo_apart0 24 rfl
theorem d_Mo_apart_36 : decode prog_11_method_34_code 36 = .ok (.iaload, 1) := q_tb t_Mo_apart0 25 rfl
theorem d_Mo_apart_37 : decode prog_11_method_34_code 37 = .ok (.idiv, 1) := q_tb t_Mo_apart0 26 rfl
theorem d_Mo_apart_38 : decode prog_11_method_34_code 38 = .ok (.istore_n 2, 1) := q_tb t_Mo_apart0 27 rfl
theorem d_Mo_apart_39 : decode prog_11_method_34_code 39 = .ok (.iinc 3 (-1), 3) := q_tb t_Mo_apart0 28 rfl
theorem d_Mo_apart_42 : decode prog_11_method_34_code 42 = .ok (.goto (-33), 3) := q_tb t_Mo_apart0 29 rfl
theorem d_Mo_apart_45 : decode prog_11_method_34_code 45 = .ok (.aload_n 0, 1) := q_tb t_Mo_apart0 30 rfl
theorem d_Mo_apart_46 : decode prog_11_method_34_code 46 = .ok (.getfield 111, 3) := q_tb t_Mo_apart0 31 rfl
theorem d_Mo_apart_49 : decode prog_11_method_34_code 49 = .ok (.iconst 1, 1) := q_tb t_Mo_apart0 32 rfl
theorem d_Mo_apart_50 : decode prog_11_method_34_code 50 = .ok (.isub, 1) := q_tb t_Mo_apart0 33 rfl
theorem d_Mo_apart_51 : decode prog_11_method_34_code 51 = .ok (.istore_n 3, 1) := q_tb t_Mo_apart0 34 rfl
theorem d_Mo_apart_52 : decode prog_11_method_34_code 52 = .ok (.iload_n 3, 1) := q_tb t_Mo_apart0 35 rfl
theorem d_Mo_apart_53 : decode prog_11_method_34_code 53 = .ok (.ifCond .lt 32, 3) := q_tb t_Mo_apart0 36 rfl
theorem d_Mo_apart_56 : decode prog_11_method_34_code 56 = .ok (.aload_n 0, 1) := q_tb t_Mo_apart0 37 rfl
theorem d_Mo_apart_57 : decode prog_11_method_34_code 57 = .ok (.getfield 75, 3) := q_tb t_Mo_apart0 38 rfl
theorem d_Mo_apart_60 : decode prog_11_method_34_code 60 = .ok (.iload_n 3, 1) := q_tb t_Mo_apart0 39 rfl
def T_Mo_apart1 : List (Nat × Instr × Nat) := [(61, .iload_n 2, 1), (62, .aload_n 0, 1), (63, .getfield 23, 3), (66, .iload_n 3, 1), (67, .iaload, 1), (68, .irem, 1), (69, .iastore, 1), (70, .iload_n 2, 1), (71, .aload_n 0, 1), (72, .getfield 23, 3), (75, .iload_n 3, 1), (76, .iaload, 1), (77, .idiv, 1), (78, .istore_n 2, 1), (79, .iinc 3 (-1), 3), (82, .goto (-30), 3), (85, .return_, 1)]
set_option maxRecDepth 100000 in
theorem t_Mo_apart1 : ∀ q ∈ T_Mo_apart1, decode prog_11_method_34_code q.1 = .ok q.2 := by decide +kernel
theorem d_Mo_apart_61 : decode prog_11_method_34_code 61 = .ok (.iload_n 2, 1) := q_tb t_Mo_apart1 0 rfl
theorem d_Mo_apart_62 : decode prog_11_method_34_code 62 = .ok (.aload_n 0, 1) := q_tb t_Mo_apart1 1 rfl
theorem d_Mo_apart_63 : decode prog_11_method_34_code 63 = .ok (.getfield 23, 3) := q_tb t_Mo_apart1 2 rfl
theorem d_Mo_apart_66 : decode prog_11_method_34_code 66 = .ok (.iload_n 3, 1) := q_tb t_Mo_apart1 3 rfl
theorem d_Mo_apart_67 : decode prog_11_method_34_code 67 = .ok (.iaload, 1) := q_tb t_Mo_apart1 4 rfl
theorem d_Mo_apart_68 : decode prog_11_method_34_code 68 = .ok (.irem, 1) := q_tb t_Mo_apart1 5 rfl
theorem d_Mo_apart_69 : decode prog_11_method_34_code 69 = .ok (.iastore, 1) := q_tb t_Mo_apart1 6 rfl
theorem d_Mo_apart_70 : decode prog_11_method_34_code 70 = .ok (.iload_n 2, 1) := q_tb t_Mo_apart1 7 rfl
theorem d_Mo_apart_71 : decode prog_11_method_34_code 71 = .ok (.aload_n 0, 1) := q_tb t_Mo_apart1 8 rfl
theorem d_Mo_apart_72 : decode prog_11_method_34_code 72 = .ok (.getfield 23, 3) := q_tb t_Mo_apart1 9 rfl
theorem d_Mo_apart_75 : decode prog_11_method_34_code 75 = .ok (.iload_n 3, 1) := q_tb t_Mo_apart1 10 rfl
theorem d_Mo_apart_76 : decode prog_11_method_34_code 76 = .ok (.iaload, 1) := q_tb t_Mo_apart1 11 rfl
theorem d_Mo_apart_77 : decode prog_11_method_34_code 77 = .ok (.idiv, 1) := q_tb t_Mo_apart1 12 rfl
theorem d_Mo_apart_78 : decode prog_11_method_34_code 78 = .ok (.istore_n 2, 1) := q_tb t_Mo_apart1 13 rfl
theorem d_Mo_apart_79 : decode prog_11_method_34_code 79 = .ok (.iinc 3 (-1), 3) := q_tb t_Mo_apart1 14 rfl
theorem d_Mo_apart_82 : decode prog_11_method_34_code 82 = .ok (.goto (-30), 3) := q_tb t_Mo_apart1 15 rfl
theorem d_Mo_apart_85 : decode prog_11_method_34_code 85 = .ok (.return_, 1) := q_tb t_Mo_apart1 16 rfl
def T_Mo_ended : List (Nat × Instr × Nat) := [(0, .aload_n 0, 1), (1, .invokevirtual 194, 3), (4, .ifCond .ge 6, 3), (7, .bipush (-2), 2), (9, .ireturn, 1), (10, .aload_n 0, 1), (11, .invokevirtual 206, 3), (14, .aload_n 0, 1), (15, .getfield 203, 3), (18, .ireturn, 1)]
set_option maxRecDepth 100000 in
theorem t_Mo_ended : ∀ q ∈ T_Mo_ended, decode prog_11_method_38_code q.1 = .ok q.2 := by decide +kernel
theorem d_Mo_ended_0 : decode prog_11_method_38_code 0 = .ok (.aload_n 0, 1) := q_tb t_Mo_ended 0 rfl
theorem d_Mo_ended_1 : decode prog_11_method_38_code 1 = .ok (.invokevirtual 194, 3) := q_tb t_Mo_ended 1 rfl
theorem d_Mo_ended_4 : decode prog_11_method_38_code 4 = .ok (.ifCond .ge 6, 3) := q_tb t_Mo_ended 2 rfl
theorem d_Mo_ended_7 : decode prog_11_method_38_code 7 = .ok (.bipush (-2), 2) := q_tb t_Mo_ended 3 rfl
theorem d_Mo_ended_9 : decode prog_11_method_38_code 9 = .ok (.ireturn, 1) := q_tb t_Mo_ended 4 rfl
theorem d_Mo_ended_10 : decode prog_11_method_38_code 10 = .ok (.aload_n 0, 1) := q_tb t_Mo_ended 5 rfl
theorem d_Mo_ended_11 : decode prog_11_method_38_code 11 = .ok (.invokevirtual 206, 3) := q_tb t_Mo_ended 6 rfl
theorem d_Mo_ended_14 : decode prog_11_method_38_code 14 = .ok (.aload_n 0, 1) := q_tb t_Mo_ended 7 rfl
theorem d_Mo_ended_15 : decode prog_11_method_38_code 15 = .ok (.getfield 203, 3) := q_tb t_Mo_ended 8 rfl
theorem d_Mo_ended_18 : decode prog_11_method_38_code 18 = .ok (.ireturn, 1) := q_tb t_Mo_ended 9 rfl
def T_Mo_place0 : List (Nat × Instr × Nat) := [(0, .aload_n 0, 1), (1, .aload_n 0, 1), (2, .invokevirtual 194, 3), (5, .ifCond .ge 7, 3), (8, .iconst 1, 1), (9, .goto 4, 3), (12, .iconst 0, 1), (13, .putfield 90, 3), (16, .aload_n 0, 1), (17, .getfield 90, 3), (20, .ifCond .le 5, 3), (23, .iconst 0, 1), (24, .ireturn, 1), (25, .aload_n 0, 1), (26, .invokevirtual 206, 3), (29, .aload_n 0, 1), (30, .iload_n 1, 1), (31, .ifCond .lt 19, 3), (34, .iload_n 1, 1), (35, .aload_n 0, 1), (36, .getfield 200, 3), (39, .if_icmp .ge 11, 3), (42, .aload_n 0, 1), (43, .iload_n 2, 1), (44, .invokevirtual 168, 3), (47, .ifCond .eq 7, 3), (50, .iconst 2, 1), (51, .goto 4, 3), (54, .iconst 0, 1), (55, .putfield 90, 3), (58, .aload_n 0, 1), (59, .getfield 90, 3), (62, .ifCond .le 5, 3), (65, .iconst 0, 1), (66, .ireturn, 1), (67, .aload_n 0, 1), (68, .aload_n 0, 1), (69, .getfield 87, 3), (72, .iload_n 1, 1), (73, .iaload, 1)]
set_option maxRecDepth 100000 in
theorem t_Mo_place0 : ∀ q ∈ T_Mo_place0, decode prog_11_method_39_code q.1 = .ok q.2 := by decide +kernel
theorem d_Mo_place_0 : decode prog_11_method_39_code 0 = .ok (.aload_n 0, 1) := q_tb t_Mo_place0 0 rfl
theorem d_Mo_place_1 : decode prog_11_method_39_code 1 = .ok (.aload_n 0, 1) := q_tb t_Mo_place0 1 rfl
theorem d_Mo_place_2 : decode prog_11_method_39_code 2 = .ok (.invokevirtual 194, 3) := q_tb t_Mo_place0 2 rfl
theorem d_Mo_place_5 : decode prog_11_method_39_code 5 = .ok (.ifCond .ge 7, 3) := q_tb t_Mo_place0 3 rfl
theorem d_Mo_place_8 : decode prog_11_method_39_code 8 = .ok (.iconst 1, 1) := q_tb t_Mo_place0 4 rfl
theorem d_Mo_place_9 : decode prog_11_method_39_code 9 = .ok (.goto 4, 3) := q_tb t_Mo_place0 5 rfl
theorem d_Mo_place_12 : decode prog_11_method_39_code 12 = .ok (.iconst 0, 1) := q_tb t_Mo_place0 6 rfl
theorem d_Mo_place_13 : decode prog_11_method_39_code 13 = .ok (.putfield 90, 3) := q_tb t_Mo_place0 7 rfl
theorem d_Mo_place_16 : decode prog_11_method_39_code 16 = .ok (.aload_n 0, 1) := q_tb t_Mo_place0 8 rfl
theorem d_Mo_place_17 : decode prog_11_method_39_code 17 = .ok (.getfield 90, 3) := q_tb t_Mo_place0 9 rfl
theorem d_Mo_place_20 : decode prog_11_method_39_code 20 = .ok (.ifCond .le 5, 3) := q_tb t_Mo_place0 10 rfl
theorem d_Mo_place_23 : decode prog_11_method_39_code 23 = .ok (.iconst 0, 1) := q_tb t_Mo_place0 11 rfl
theorem d_Mo_place_24 : decode prog_11_method_39_code 24 = .ok (.ireturn, 1) := q_tb t_Mo_place0 12 rfl
theorem d_Mo_place_25 : decode prog_11_method_39_code 25 = .ok (.aload_n 0, 1) := q_tb t_Mo_place0 13 rfl
theorem d_Mo_place_26 : decode prog_11_method_39_code 26 = .ok (.invokevirtual 206, 3) := q_tb t_Mo_place0 14 rfl
theorem d_Mo_place_29 : decode prog_11_method_39_code 29 = .ok (.aload_n 0, 1) := q_tb t_Mo_place0 15 rfl
theorem d_Mo_place_30 : decode prog_11_method_39_code 30 = .ok (.iload_n 1, 1) := q_tb t_Mo_place0 16 rfl
theorem d_Mo_place_31 : decode prog_11_method_39_code 31 = .ok (.ifCond .lt 19, 3) := q_tb t_Mo_place0 17 rfl
theorem d_Mo_place_34 : decode prog_11_method_39_code 34 = .ok (.iload_n 1, 1) := q_tb t_Mo_place0 18 rfl
theorem d_Mo_place_35 : decode prog_11_method_39_code 35 = .ok (.aload_n 0, 1) := q_tb t_Mo_place0 19 rfl
theorem d_Mo_place_36 : decode prog_11_method_39_code 36 = .ok (.getfield 200, 3) := q_tb t_Mo_place0 20 rfl
theorem d_Mo_place_39 : decode prog_11_method_39_code 39 = .ok (.if_icmp .ge 11, 3) := q_tb t_Mo_place0 21 rfl
theorem d_Mo_place_42 : decode prog_11_method_39_code 42 = .ok (.aload_n 0, 1) := q_tb t_Mo_place0 22 rfl
theorem d_Mo_place_43 : decode prog_11_method_39_code 43 = .ok (.iload_n 2, 1) := q_tb t_Mo_place0 23 rfl
theorem d_Mo_place_44 : decode prog_11_method_39_code 44 = .ok (.invokevirtual 168, 3) := q_tb t_Mo_place0 24 rfl
theorem d_Mo_place_47 : decode prog_11_method_39_code 47 = .ok (.ifCond .eq 7, 3) := q_tb t_Mo_place0 25 rfl
theorem d_Mo_place_50 : decode prog_11_method_39_code 50 = .ok (.iconst 2, 1) := q_tb t_Mo_place0 26 rfl
theorem d_Mo_place_51 : decode prog_11_method_39_code 51 = .ok (.goto 4, 3) := q_tb t_Mo_place0 27 rfl
theorem d_Mo_place_54 : decode prog_11_method_39_code 54 = .ok (.iconst 0, 1) := q_tb t_Mo_place0 28 rfl
theorem d_Mo_place_55 : decode prog_11_method_39_code 55 = .ok (.putfield 90, 3) := q_tb t_Mo_place0 29 rfl
theorem d_Mo_place_58 : decode prog_11_method_39_code 58 = .ok (.aload_n 0, 1) := q_tb t_Mo_place0 30 rfl
theorem d_Mo_place_59 : decode prog_11_method_39_code 59 = .ok (.getfield 90, 3) := q_tb t_Mo_place0 31 rfl
theorem d_Mo_place_62 : decode prog_11_method_39_code 62 = .ok (.ifCond .le 5, 3) := q_tb t_Mo_place0 32 rfl
theorem d_Mo_place_65 : decode prog_11_method_39_code 65 = .ok (.iconst 0, 1) := q_tb t_Mo_place0 33 rfl
theorem d_Mo_place_66 : decode prog_11_method_39_code 66 = .ok (.ireturn, 1) := q_tb t_Mo_place0 34 rfl
theorem d_Mo_place_67 : decode prog_11_method_39_code 67 = .ok (.aload_n 0, 1) := q_tb t_Mo_place0 35 rfl
theorem d_Mo_place_68 : decode prog_11_method_39_code 68 = .ok (.aload_n 0, 1) := q_tb t_Mo_place0 36 rfl
theorem d_Mo_place_69 : decode prog_11_method_39_code 69 = .ok (.getfield 87, 3) := q_tb t_Mo_place0 37 rfl
theorem d_Mo_place_72 : decode prog_11_method_39_code 72 = .ok (.iload_n 1, 1) := q_tb t_Mo_place0 38 rfl
theorem d_Mo_place_73 : decode prog_11_method_39_code 73 = .ok (.iaload, 1) := q_tb t_Mo_place0 39 rfl
def T_Mo_place1 : List (Nat × Instr × Nat) := [(74, .invokevirtual 186, 3), (77, .aload_n 0, 1), (78, .getfield 75, 3), (81, .iload_n 2, 1), (82, .iaload, 1), (83, .ireturn, 1)]
set_option maxRecDepth 100000 in
theorem t_Mo_place1 : ∀ q ∈ T_Mo_place1, decode prog_11_method_39_code q.1 = .ok q.2 := by decide +kernel
theorem d_Mo_place_74 : decode prog_11_method_39_code 74 = .ok (.invokevirtual 186, 3) := q_tb t_Mo_place1 0 rfl
theorem d_Mo_place_77 : decode prog_11_method_39_code 77 = .ok (.aload_n 0, 1) := q_tb t_Mo_place1 1 rfl
theorem d_Mo_place_78 : decode prog_11_method_39_code 78 = .ok (.getfield 75, 3) := q_tb t_Mo_place1 2 rfl
theorem d_Mo_place_81 : decode prog_11_method_39_code 81 = .ok (.iload_n 2, 1) := q_tb t_Mo_place1 3 rfl
theorem d_Mo_place_82 : decode prog_11_method_39_code 82 = .ok (.iaload, 1) := q_tb t_Mo_place1 4 rfl
theorem d_Mo_place_83 : decode prog_11_method_39_code 83 = .ok (.ireturn, 1) := q_tb t_Mo_place1 5 rfl
def T_Mo_value0 : List (Nat × Instr × Nat) := [(0, .aload_n 0, 1), (1, .aload_n 0, 1), (2, .invokevirtual 194, 3), (5, .ifCond .ge 7, 3), (8, .iconst 1, 1), (9, .goto 4, 3), (12, .iconst 0, 1), (13, .putfield 90, 3), (16, .aload_n 0, 1), (17, .getfield 90, 3), (20, .ifCond .le 5, 3), (23, .iconst 0, 1), (24, .ireturn, 1), (25, .aload_n 0, 1), (26, .invokevirtual 206, 3), (29, .aload_n 0, 1), (30, .iload_n 1, 1), (31, .ifCond .lt 23, 3), (34, .iload_n 1, 1), (35, .aload_n 0, 1), (36, .getfield 200, 3), (39, .if_icmp .ge 15, 3), (42, .iload_n 2, 1), (43, .ifCond .lt 11, 3), (46, .iload_n 2, 1), (47, .aload_n 0, 1), (48, .getfield 105, 3), (51, .if_icmp .lt 7, 3), (54, .iconst 2, 1), (55, .goto 4, 3), (58, .iconst 0, 1), (59, .putfield 90, 3), (62, .aload_n 0, 1), (63, .getfield 90, 3), (66, .ifCond .le 5, 3), (69, .iconst 0, 1), (70, .ireturn, 1), (71, .aload_n 0, 1), (72, .aload_n 0, 1), (73, .getfield 87, 3)]
set_option maxRecDepth 100000 in
theorem t_Mo_value0 : ∀ q ∈ T_Mo_value0, decode prog_11_method_40_code q.1 = .ok q.2 := by decide +kernel
theorem d_Mo_value_0 : decode prog_11_method_40_code 0 = .ok (.aload_n 0, 1) := q_tb t_Mo_value0 0 rfl
theorem d_Mo_value_1 : decode prog_11_method_40_code 1 = .ok (.aload_n 0, 1) := q_tb t_Mo_value0 1 rfl
theorem d_Mo_value_2 : decode prog_11_method_40_code 2 = .ok (.invokevirtual 194, 3) := q_tb t_Mo_value0 2 rfl
theorem d_Mo_value_5 : decode prog_11_method_40_code 5 = .ok (.ifCond .ge 7, 3) := q_tb t_Mo_value0 3 rfl
theorem d_Mo_value_8 : decode prog_11_method_40_code 8 = .ok (.iconst 1, 1) := q_tb t_Mo_value0 4 rfl
theorem d_Mo_value_9 : decode prog_11_method_40_code 9 = .ok (.goto 4, 3) := q_tb t_Mo_value0 5 rfl
theorem d_Mo_value_12 : decode prog_11_method_40_code 12 = .ok (.iconst 0, 1) := q_tb t_Mo_value0 6 rfl
theorem d_Mo_value_13 : decode prog_11_method_40_code 13 = .ok (.putfield 90, 3) := q_tb t_Mo_value0 7 rfl
theorem d_Mo_value_16 : decode prog_11_method_40_code 16 = .ok (.aload_n 0, 1) := q_tb t_Mo_value0 8 rfl
theorem d_Mo_value_17 : decode prog_11_method_40_code 17 = .ok (.getfield 90, 3) := q_tb t_Mo_value0 9 rfl
theorem d_Mo_value_20 : decode prog_11_method_40_code 20 = .ok (.ifCond .le 5, 3) := q_tb t_Mo_value0 10 rfl
theorem d_Mo_value_23 : decode prog_11_method_40_code 23 = .ok (.iconst 0, 1) := q_tb t_Mo_value0 11 rfl
theorem d_Mo_value_24 : decode prog_11_method_40_code 24 = .ok (.ireturn, 1) := q_tb t_Mo_value0 12 rfl
theorem d_Mo_value_25 : decode prog_11_method_40_code 25 = .ok (.aload_n 0, 1) := q_tb t_Mo_value0 13 rfl
theorem d_Mo_value_26 : decode prog_11_method_40_code 26 = .ok (.invokevirtual 206, 3) := q_tb t_Mo_value0 14 rfl
theorem d_Mo_value_29 : decode prog_11_method_40_code 29 = .ok (.aload_n 0, 1) := q_tb t_Mo_value0 15 rfl
theorem d_Mo_value_30 : decode prog_11_method_40_code 30 = .ok (.iload_n 1, 1) := q_tb t_Mo_value0 16 rfl
theorem d_Mo_value_31 : decode prog_11_method_40_code 31 = .ok (.ifCond .lt 23, 3) := q_tb t_Mo_value0 17 rfl
theorem d_Mo_value_34 : decode prog_11_method_40_code 34 = .ok (.iload_n 1, 1) := q_tb t_Mo_value0 18 rfl
theorem d_Mo_value_35 : decode prog_11_method_40_code 35 = .ok (.aload_n 0, 1) := q_tb t_Mo_value0 19 rfl
theorem d_Mo_value_36 : decode prog_11_method_40_code 36 = .ok (.getfield 200, 3) := q_tb t_Mo_value0 20 rfl
theorem d_Mo_value_39 : decode prog_11_method_40_code 39 = .ok (.if_icmp .ge 15, 3) := q_tb t_Mo_value0 21 rfl
theorem d_Mo_value_42 : decode prog_11_method_40_code 42 = .ok (.iload_n 2, 1) := q_tb t_Mo_value0 22 rfl
theorem d_Mo_value_43 : decode prog_11_method_40_code 43 = .ok (.ifCond .lt 11, 3) := q_tb t_Mo_value0 23 rfl
theorem d_Mo_value_46 : decode prog_11_method_40_code 46 = .ok (.iload_n 2, 1) := q_tb t_Mo_value0 24 rfl
theorem d_Mo_value_47 : decode prog_11_method_40_code 47 = .ok (.aload_n 0, 1) := q_tb t_Mo_value0 25 rfl
theorem d_Mo_value_48 : decode prog_11_method_40_code 48 = .ok (.getfield 105, 3) := q_tb t_Mo_value0 26 rfl
theorem d_Mo_value_51 : decode prog_11_method_40_code 51 = .ok (.if_icmp .lt 7, 3) := q_tb t_Mo_value0 27 rfl
theorem d_Mo_value_54 : decode prog_11_method_40_code 54 = .ok (.iconst 2, 1) := q_tb t_Mo_value0 28 rfl
theorem d_Mo_value_55 : decode prog_11_method_40_code 55 = .ok (.goto 4, 3) := q_tb t_Mo_value0 29 rfl
theorem d_Mo_value_58 : decode prog_11_method_40_code 58 = .ok (.iconst 0, 1) := q_tb t_Mo_value0 30 rfl
theorem d_Mo_value_59 : decode prog_11_method_40_code 59 = .ok (.putfield 90, 3) := q_tb t_Mo_value0 31 rfl
theorem d_Mo_value_62 : decode prog_11_method_40_code 62 = .ok (.aload_n 0, 1) := q_tb t_Mo_value0 32 rfl
theorem d_Mo_value_63 : decode prog_11_method_40_code 63 = .ok (.getfield 90, 3) := q_tb t_Mo_value0 33 rfl
theorem d_Mo_value_66 : decode prog_11_method_40_code 66 = .ok (.ifCond .le 5, 3) := q_tb t_Mo_value0 34 rfl
theorem d_Mo_value_69 : decode prog_11_method_40_code 69 = .ok (.iconst 0, 1) := q_tb t_Mo_value0 35 rfl
theorem d_Mo_value_70 : decode prog_11_method_40_code 70 = .ok (.ireturn, 1) := q_tb t_Mo_value0 36 rfl
theorem d_Mo_value_71 : decode prog_11_method_40_code 71 = .ok (.aload_n 0, 1) := q_tb t_Mo_value0 37 rfl
theorem d_Mo_value_72 : decode prog_11_method_40_code 72 = .ok (.aload_n 0, 1) := q_tb t_Mo_value0 38 rfl
theorem d_Mo_value_73 : decode prog_11_method_40_code 73 = .ok (.getfield 87, 3) := q_tb t_Mo_value0 39 rfl
def T_Mo_value1 : List (Nat × Instr × Nat) := [(76, .iload_n 1, 1), (77, .iaload, 1), (78, .invokevirtual 186, 3), (81, .aload_n 0, 1), (82, .getfield 75, 3), (85, .bipush 6, 2), (87, .iload_n 2, 1), (88, .iadd, 1), (89, .iaload, 1), (90, .ireturn, 1)]
set_option maxRecDepth 100000 in
theorem t_Mo_value1 : ∀ q ∈ T_Mo_value1, decode prog_11_method_40_code q.1 = .ok q.2 := by decide +kernel
theorem d_Mo_value_76 : decode prog_11_method_40_code 76 = .ok (.iload_n 1, 1) := q_tb t_Mo_value1 0 rfl
theorem d_Mo_value_77 : decode prog_11_method_40_code 77 = .ok (.iaload, 1) := q_tb t_Mo_value1 1 rfl
theorem d_Mo_value_78 : decode prog_11_method_40_code 78 = .ok (.invokevirtual 186, 3) := q_tb t_Mo_value1 2 rfl
theorem d_Mo_value_81 : decode prog_11_method_40_code 81 = .ok (.aload_n 0, 1) := q_tb t_Mo_value1 3 rfl
theorem d_Mo_value_82 : decode prog_11_method_40_code 82 = .ok (.getfield 75, 3) := q_tb t_Mo_value1 4 rfl
theorem d_Mo_value_85 : decode prog_11_method_40_code 85 = .ok (.bipush 6, 2) := q_tb t_Mo_value1 5 rfl
theorem d_Mo_value_87 : decode prog_11_method_40_code 87 = .ok (.iload_n 2, 1) := q_tb t_Mo_value1 6 rfl
theorem d_Mo_value_88 : decode prog_11_method_40_code 88 = .ok (.iadd, 1) := q_tb t_Mo_value1 7 rfl
theorem d_Mo_value_89 : decode prog_11_method_40_code 89 = .ok (.iaload, 1) := q_tb t_Mo_value1 8 rfl
theorem d_Mo_value_90 : decode prog_11_method_40_code 90 = .ok (.ireturn, 1) := q_tb t_Mo_value1 9 rfl
def T_Mo_falls0 : List (Nat × Instr × Nat) := [(0, .aload_n 0, 1), (1, .invokevirtual 194, 3), (4, .istore_n 1, 1), (5, .aload_n 0, 1), (6, .iload_n 1, 1), (7, .ifCond .ge 7, 3), (10, .iconst 1, 1), (11, .goto 4, 3), (14, .iconst 0, 1), (15, .putfield 90, 3), (18, .aload_n 0, 1), (19, .getfield 90, 3), (22, .ifCond .le 5, 3), (25, .iconst 0, 1), (26, .ireturn, 1), (27, .aload_n 0, 1), (28, .aload_n 0, 1), (29, .aload_n 0, 1), (30, .getfield 72, 3), (33, .invokevirtual 190, 3), (36, .invokevirtual 197, 3), (39, .iconst 0, 1), (40, .istore_n 2, 1), (41, .iload_n 2, 1), (42, .iload_n 1, 1), (43, .if_icmp .ge 32, 3), (46, .aload_n 0, 1), (47, .iload_n 2, 1), (48, .invokevirtual 186, 3), (51, .aload_n 0, 1), (52, .getfield 81, 3), (55, .iload_n 2, 1), (56, .baload, 1), (57, .ifCond .eq 12, 3), (60, .aload_n 0, 1), (61, .invokevirtual 182, 3), (64, .ifCond .ne 5, 3), (67, .iconst 1, 1), (68, .ireturn, 1), (69, .iinc 2 1, 3)]
set_option maxRecDepth 100000 in
theorem t_Mo_falls0 : ∀ q ∈ T_Mo_falls0, decode prog_11_method_41_code q.1 = .ok q.2 := by decide +kernel
theorem d_Mo_falls_0 : decode prog_11_method_41_code 0 = .ok (.aload_n 0, 1) := q_tb t_Mo_falls0 0 rfl
theorem d_Mo_falls_1 : decode prog_11_method_41_code 1 = .ok (.invokevirtual 194, 3) := q_tb t_Mo_falls0 1 rfl
theorem d_Mo_falls_4 : decode prog_11_method_41_code 4 = .ok (.istore_n 1, 1) := q_tb t_Mo_falls0 2 rfl
theorem d_Mo_falls_5 : decode prog_11_method_41_code 5 = .ok (.aload_n 0, 1) := q_tb t_Mo_falls0 3 rfl
theorem d_Mo_falls_6 : decode prog_11_method_41_code 6 = .ok (.iload_n 1, 1) := q_tb t_Mo_falls0 4 rfl
theorem d_Mo_falls_7 : decode prog_11_method_41_code 7 = .ok (.ifCond .ge 7, 3) := q_tb t_Mo_falls0 5 rfl
theorem d_Mo_falls_10 : decode prog_11_method_41_code 10 = .ok (.iconst 1, 1) := q_tb t_Mo_falls0 6 rfl
theorem d_Mo_falls_11 : decode prog_11_method_41_code 11 = .ok (.goto 4, 3) := q_tb t_Mo_falls0 7 rfl
theorem d_Mo_falls_14 : decode prog_11_method_41_code 14 = .ok (.iconst 0, 1) := q_tb t_Mo_falls0 8 rfl
theorem d_Mo_falls_15 : decode prog_11_method_41_code 15 = .ok (.putfield 90, 3) := q_tb t_Mo_falls0 9 rfl
theorem d_Mo_falls_18 : decode prog_11_method_41_code 18 = .ok (.aload_n 0, 1) := q_tb t_Mo_falls0 10 rfl
theorem d_Mo_falls_19 : decode prog_11_method_41_code 19 = .ok (.getfield 90, 3) := q_tb t_Mo_falls0 11 rfl
theorem d_Mo_falls_22 : decode prog_11_method_41_code 22 = .ok (.ifCond .le 5, 3) := q_tb t_Mo_falls0 12 rfl
theorem d_Mo_falls_25 : decode prog_11_method_41_code 25 = .ok (.iconst 0, 1) := q_tb t_Mo_falls0 13 rfl
theorem d_Mo_falls_26 : decode prog_11_method_41_code 26 = .ok (.ireturn, 1) := q_tb t_Mo_falls0 14 rfl
theorem d_Mo_falls_27 : decode prog_11_method_41_code 27 = .ok (.aload_n 0, 1) := q_tb t_Mo_falls0 15 rfl
theorem d_Mo_falls_28 : decode prog_11_method_41_code 28 = .ok (.aload_n 0, 1) := q_tb t_Mo_falls0 16 rfl
theorem d_Mo_falls_29 : decode prog_11_method_41_code 29 = .ok (.aload_n 0, 1) := q_tb t_Mo_falls0 17 rfl
theorem d_Mo_falls_30 : decode prog_11_method_41_code 30 = .ok (.getfield 72, 3) := q_tb t_Mo_falls0 18 rfl
theorem d_Mo_falls_33 : decode prog_11_method_41_code 33 = .ok (.invokevirtual 190, 3) := q_tb t_Mo_falls0 19 rfl
theorem d_Mo_falls_36 : decode prog_11_method_41_code 36 = .ok (.invokevirtual 197, 3) := q_tb t_Mo_falls0 20 rfl
theorem d_Mo_falls_39 : decode prog_11_method_41_code 39 = .ok (.iconst 0, 1) := q_tb t_Mo_falls0 21 rfl
theorem d_Mo_falls_40 : decode prog_11_method_41_code 40 = .ok (.istore_n 2, 1) := q_tb t_Mo_falls0 22 rfl
theorem d_Mo_falls_41 : decode prog_11_method_41_code 41 = .ok (.iload_n 2, 1) := q_tb t_Mo_falls0 23 rfl
theorem d_Mo_falls_42 : decode prog_11_method_41_code 42 = .ok (.iload_n 1, 1) := q_tb t_Mo_falls0 24 rfl
theorem d_Mo_falls_43 : decode prog_11_method_41_code 43 = .ok (.if_icmp .ge 32, 3) := q_tb t_Mo_falls0 25 rfl
theorem d_Mo_falls_46 : decode prog_11_method_41_code 46 = .ok (.aload_n 0, 1) := q_tb t_Mo_falls0 26 rfl
theorem d_Mo_falls_47 : decode prog_11_method_41_code 47 = .ok (.iload_n 2, 1) := q_tb t_Mo_falls0 27 rfl
theorem d_Mo_falls_48 : decode prog_11_method_41_code 48 = .ok (.invokevirtual 186, 3) := q_tb t_Mo_falls0 28 rfl
theorem d_Mo_falls_51 : decode prog_11_method_41_code 51 = .ok (.aload_n 0, 1) := q_tb t_Mo_falls0 29 rfl
theorem d_Mo_falls_52 : decode prog_11_method_41_code 52 = .ok (.getfield 81, 3) := q_tb t_Mo_falls0 30 rfl
theorem d_Mo_falls_55 : decode prog_11_method_41_code 55 = .ok (.iload_n 2, 1) := q_tb t_Mo_falls0 31 rfl
theorem d_Mo_falls_56 : decode prog_11_method_41_code 56 = .ok (.baload, 1) := q_tb t_Mo_falls0 32 rfl
theorem d_Mo_falls_57 : decode prog_11_method_41_code 57 = .ok (.ifCond .eq 12, 3) := q_tb t_Mo_falls0 33 rfl
theorem d_Mo_falls_60 : decode prog_11_method_41_code 60 = .ok (.aload_n 0, 1) := q_tb t_Mo_falls0 34 rfl
theorem d_Mo_falls_61 : decode prog_11_method_41_code 61 = .ok (.invokevirtual 182, 3) := q_tb t_Mo_falls0 35 rfl
theorem d_Mo_falls_64 : decode prog_11_method_41_code 64 = .ok (.ifCond .ne 5, 3) := q_tb t_Mo_falls0 36 rfl
theorem d_Mo_falls_67 : decode prog_11_method_41_code 67 = .ok (.iconst 1, 1) := q_tb t_Mo_falls0 37 rfl
theorem d_Mo_falls_68 : decode prog_11_method_41_code 68 = .ok (.ireturn, 1) := q_tb t_Mo_falls0 38 rfl
theorem d_Mo_falls_69 : decode prog_11_method_41_code 69 = .ok (.iinc 2 1, 3) := q_tb t_Mo_falls0 39 rfl
def T_Mo_falls1 : List (Nat × Instr × Nat) := [(72, .goto (-31), 3), (75, .iconst 0, 1), (76, .ireturn, 1)]
set_option maxRecDepth 100000 in
theorem t_Mo_falls1 : ∀ q ∈ T_Mo_falls1, decode prog_11_method_41_code q.1 = .ok q.2 := by decide +kernel
theorem d_Mo_falls_72 : decode prog_11_method_41_code 72 = .ok (.goto (-31), 3) := q_tb t_Mo_falls1 0 rfl
theorem d_Mo_falls_75 : decode prog_11_method_41_code 75 = .ok (.iconst 0, 1) := q_tb t_Mo_falls1 1 rfl
theorem d_Mo_falls_76 : decode prog_11_method_41_code 76 = .ok (.ireturn, 1) := q_tb t_Mo_falls1 2 rfl
end NAMES3
