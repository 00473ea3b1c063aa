/-! names, 3a: decode tables, printed by gen/names2.py -/
section NAMES3
theorem q_tb {b : ByteArray} {T : List (Nat × Instr × Nat)} (h : ∀ q ∈ T, decode b q.1 = .ok q.2) (i : Nat) {pc : Nat} {ins : Instr} {ln : Nat} (hi : T[i]? = some (pc, ins, ln)) : decode b pc = .ok (ins, ln) := h (pc, ins, ln) (List.mem_of_getElem? hi)
def T_Ta_init : List (Nat × Instr × Nat) := [(0, .aload_n 0, 1), (1, .invokespecial 3, 3), (4, .aload_n 0, 1), (5, .bipush 100, 2), (7, .newarray .byte, 2), (9, .putfield 9, 3), (12, .return_, 1)]
set_option maxRecDepth 100000 in
theorem t_Ta_init : ∀ q ∈ T_Ta_init, decode prog_7_method_1_code q.1 = .ok q.2 := by decide +kernel
theorem d_Ta_init_0 : decode prog_7_method_1_code 0 = .ok (.aload_n 0, 1) := q_tb t_Ta_init 0 rfl
theorem d_Ta_init_1 : decode prog_7_method_1_code 1 = .ok (.invokespecial 3, 3) := q_tb t_Ta_init 1 rfl
theorem d_Ta_init_4 : decode prog_7_method_1_code 4 = .ok (.aload_n 0, 1) := q_tb t_Ta_init 2 rfl
theorem d_Ta_init_5 : decode prog_7_method_1_code 5 = .ok (.bipush 100, 2) := q_tb t_Ta_init 3 rfl
theorem d_Ta_init_7 : decode prog_7_method_1_code 7 = .ok (.newarray .byte, 2) := q_tb t_Ta_init 4 rfl
theorem d_Ta_init_9 : decode prog_7_method_1_code 9 = .ok (.putfield 9, 3) := q_tb t_Ta_init 5 rfl
theorem d_Ta_init_12 : decode prog_7_method_1_code 12 = .ok (.return_, 1) := q_tb t_Ta_init 6 rfl
def T_Co_init : List (Nat × Instr × Nat) := [(0, .aload_n 0, 1), (1, .invokespecial 3, 3), (4, .aload_n 0, 1), (5, .iconst 1, 1), (6, .putfield 9, 3), (9, .aload_n 0, 1), (10, .bipush 13, 2), (12, .newarray .int, 2), (14, .putfield 15, 3), (17, .aload_n 0, 1), (18, .bipush 13, 2), (20, .newarray .int, 2), (22, .putfield 19, 3), (25, .aload_n 0, 1), (26, .bipush 13, 2), (28, .newarray .int, 2), (30, .putfield 22, 3), (33, .aload_n 0, 1), (34, .bipush 13, 2), (36, .newarray .int, 2), (38, .putfield 25, 3), (41, .return_, 1)]
set_option maxRecDepth 100000 in
theorem t_Co_init : ∀ q ∈ T_Co_init, decode prog_2_method_1_code q.1 = .ok q.2 := by decide +kernel
theorem d_Co_init_0 : decode prog_2_method_1_code 0 = .ok (.aload_n 0, 1) := q_tb t_Co_init 0 rfl
theorem d_Co_init_1 : decode prog_2_method_1_code 1 = .ok (.invokespecial 3, 3) := q_tb t_Co_init 1 rfl
theorem d_Co_init_4 : decode prog_2_method_1_code 4 = .ok (.aload_n 0, 1) := q_tb t_Co_init 2 rfl
theorem d_Co_init_5 : decode prog_2_method_1_code 5 = .ok (.iconst 1, 1) := q_tb t_Co_init 3 rfl
theorem d_Co_init_6 : decode prog_2_method_1_code 6 = .ok (.putfield 9, 3) := q_tb t_Co_init 4 rfl
theorem d_Co_init_9 : decode prog_2_method_1_code 9 = .ok (.aload_n 0, 1) := q_tb t_Co_init 5 rfl
theorem d_Co_init_10 : decode prog_2_method_1_code 10 = .ok (.bipush 13, 2) := q_tb t_Co_init 6 rfl
theorem d_Co_init_12 : decode prog_2_method_1_code 12 = .ok (.newarray .int, 2) := q_tb t_Co_init 7 rfl
theorem d_Co_init_14 : decode prog_2_method_1_code 14 = .ok (.putfield 15, 3) := q_tb t_Co_init 8 rfl
theorem d_Co_init_17 : decode prog_2_method_1_code 17 = .ok (.aload_n 0, 1) := q_tb t_Co_init 9 rfl
theorem d_Co_init_18 : decode prog_2_method_1_code 18 = .ok (.bipush 13, 2) := q_tb t_Co_init 10 rfl
theorem d_Co_init_20 : decode prog_2_method_1_code 20 = .ok (.newarray .int, 2) := q_tb t_Co_init 11 rfl
theorem d_Co_init_22 : decode prog_2_method_1_code 22 = .ok (.putfield 19, 3) := q_tb t_Co_init 12 rfl
theorem d_Co_init_25 : decode prog_2_method_1_code 25 = .ok (.aload_n 0, 1) := q_tb t_Co_init 13 rfl
theorem d_Co_init_26 : decode prog_2_method_1_code 26 = .ok (.bipush 13, 2) := q_tb t_Co_init 14 rfl
theorem d_Co_init_28 : decode prog_2_method_1_code 28 = .ok (.newarray .int, 2) := q_tb t_Co_init 15 rfl
theorem d_Co_init_30 : decode prog_2_method_1_code 30 = .ok (.putfield 22, 3) := q_tb t_Co_init 16 rfl
theorem d_Co_init_33 : decode prog_2_method_1_code 33 = .ok (.aload_n 0, 1) := q_tb t_Co_init 17 rfl
theorem d_Co_init_34 : decode prog_2_method_1_code 34 = .ok (.bipush 13, 2) := q_tb t_Co_init 18 rfl
theorem d_Co_init_36 : decode prog_2_method_1_code 36 = .ok (.newarray .int, 2) := q_tb t_Co_init 19 rfl
theorem d_Co_init_38 : decode prog_2_method_1_code 38 = .ok (.putfield 25, 3) := q_tb t_Co_init 20 rfl
theorem d_Co_init_41 : decode prog_2_method_1_code 41 = .ok (.return_, 1) := q_tb t_Co_init 21 rfl
def T_Re_init0 : List (Nat × Instr × Nat) := [(0, .aload_n 0, 1), (1, .invokespecial 3, 3), (4, .aload_n 0, 1), (5, .bipush 13, 2), (7, .anewarray 9, 3), (10, .putfield 11, 3), (13, .aload_n 0, 1), (14, .bipush 13, 2), (16, .anewarray 9, 3), (19, .putfield 17, 3), (22, .aload_n 0, 1), (23, .new 9, 3), (26, .dup, 1), (27, .invokespecial 20, 3), (30, .putfield 21, 3), (33, .aload_n 0, 1), (34, .iconst (-1), 1), (35, .putfield 25, 3), (38, .aload_n 0, 1), (39, .aload_n 1, 1), (40, .putfield 29, 3), (43, .aload_n 0, 1), (44, .aload_n 2, 1), (45, .putfield 33, 3), (48, .iconst 0, 1), (49, .istore_n 3, 1), (50, .iload_n 3, 1), (51, .bipush 12, 2), (53, .if_icmp .gt 35, 3), (56, .aload_n 0, 1), (57, .getfield 11, 3), (60, .iload_n 3, 1), (61, .new 9, 3), (64, .dup, 1), (65, .invokespecial 20, 3), (68, .aastore, 1), (69, .aload_n 0, 1), (70, .getfield 17, 3), (73, .iload_n 3, 1), (74, .new 9, 3)]
set_option maxRecDepth 100000 in
theorem t_Re_init0 : ∀ q ∈ T_Re_init0, decode prog_8_method_1_code q.1 = .ok q.2 := by decide +kernel
theorem d_Re_init_0 : decode prog_8_method_1_code 0 = .ok (.aload_n 0, 1) := q_tb t_Re_init0 0 rfl
theorem d_Re_init_1 : decode prog_8_method_1_code 1 = .ok (.invokespecial 3, 3) := q_tb t_Re_init0 1 rfl
theorem d_Re_init_4 : decode prog_8_method_1_code 4 = .ok (.aload_n 0, 1) := q_tb t_Re_init0 2 rfl
theorem d_Re_init_5 : decode prog_8_method_1_code 5 = .ok (.bipush 13, 2) := q_tb t_Re_init0 3 rfl
theorem d_Re_init_7 : decode prog_8_method_1_code 7 = .ok (.anewarray 9, 3) := q_tb t_Re_init0 4 rfl
theorem d_Re_init_10 : decode prog_8_method_1_code 10 = .ok (.putfield 11, 3) := q_tb t_Re_init0 5 rfl
theorem d_Re_init_13 : decode prog_8_method_1_code 13 = .ok (.aload_n 0, 1) := q_tb t_Re_init0 6 rfl
theorem d_Re_init_14 : decode prog_8_method_1_code 14 = .ok (.bipush 13, 2) := q_tb t_Re_init0 7 rfl
theorem d_Re_init_16 : decode prog_8_method_1_code 16 = .ok (.anewarray 9, 3) := q_tb t_Re_init0 8 rfl
theorem d_Re_init_19 : decode prog_8_method_1_code 19 = .ok (.putfield 17, 3) := q_tb t_Re_init0 9 rfl
theorem d_Re_init_22 : decode prog_8_method_1_code 22 = .ok (.aload_n 0, 1) := q_tb t_Re_init0 10 rfl
theorem d_Re_init_23 : decode prog_8_method_1_code 23 = .ok (.new 9, 3) := q_tb t_Re_init0 11 rfl
theorem d_Re_init_26 : decode prog_8_method_1_code 26 = .ok (.dup, 1) := q_tb t_Re_init0 12 rfl
theorem d_Re_init_27 : decode prog_8_method_1_code 27 = .ok (.invokespecial 20, 3) := q_tb t_Re_init0 13 rfl
theorem d_Re_init_30 : decode prog_8_method_1_code 30 = .ok (.putfield 21, 3) := q_tb t_Re_init0 14 rfl
theorem d_Re_init_33 : decode prog_8_method_1_code 33 = .ok (.aload_n 0, 1) := q_tb t_Re_init0 15 rfl
theorem d_Re_init_34 : decode prog_8_method_1_code 34 = .ok (.iconst (-1), 1) := q_tb t_Re_init0 16 rfl
theorem d_Re_init_35 : decode prog_8_method_1_code 35 = .ok (.putfield 25, 3) := q_tb t_Re_init0 17 rfl
theorem d_Re_init_38 : decode prog_8_method_1_code 38 = .ok (.aload_n 0, 1) := q_tb t_Re_init0 18 rfl
theorem d_Re_init_39 : decode prog_8_method_1_code 39 = .ok (.aload_n 1, 1) := q_tb t_Re_init0 19 rfl
theorem d_Re_init_40 : decode prog_8_method_1_code 40 = .ok (.putfield 29, 3) := q_tb t_Re_init0 20 rfl
theorem d_Re_init_43 : decode prog_8_method_1_code 43 = .ok (.aload_n 0, 1) := q_tb t_Re_init0 21 rfl
theorem d_Re_init_44 : decode prog_8_method_1_code 44 = .ok (.aload_n 2, 1) := q_tb t_Re_init0 22 rfl
theorem d_Re_init_45 : decode prog_8_method_1_code 45 = .ok (.putfield 33, 3) := q_tb t_Re_init0 23 rfl
theorem d_Re_init_48 : decode prog_8_method_1_code 48 = .ok (.iconst 0, 1) := q_tb t_Re_init0 24 rfl
theorem d_Re_init_49 : decode prog_8_method_1_code 49 = .ok (.istore_n 3, 1) := q_tb t_Re_init0 25 rfl
theorem d_Re_init_50 : decode prog_8_method_1_code 50 = .ok (.iload_n 3, 1) := q_tb t_Re_init0 26 rfl
theorem d_Re_init_51 : decode prog_8_method_1_code 51 = .ok (.bipush 12, 2) := q_tb t_Re_init0 27 rfl
theorem d_Re_init_53 : decode prog_8_method_1_code 53 = .ok (.if_icmp .gt 35, 3) := q_tb t_Re_init0 28 rfl
theorem d_Re_init_56 : decode prog_8_method_1_code 56 = .ok (.aload_n 0, 1) := q_tb t_Re_init0 29 rfl
theorem d_Re_init_57 : decode prog_8_method_1_code 57 = .ok (.getfield 11, 3) := q_tb t_Re_init0 30 rfl
theorem d_Re_init_60 : decode prog_8_method_1_code 60 = .ok (.iload_n 3, 1) := q_tb t_Re_init0 31 rfl
theorem d_Re_init_61 : decode prog_8_method_1_code 61 = .ok (.new 9, 3) := q_tb t_Re_init0 32 rfl
theorem d_Re_init_64 : decode prog_8_method_1_code 64 = .ok (.dup, 1) := q_tb t_Re_init0 33 rfl
theorem d_Re_init_65 : decode prog_8_method_1_code 65 = .ok (.invokespecial 20, 3) := q_tb t_Re_init0 34 rfl
theorem d_Re_init_68 : decode prog_8_method_1_code 68 = .ok (.aastore, 1) := q_tb t_Re_init0 35 rfl
theorem d_Re_init_69 : decode prog_8_method_1_code 69 = .ok (.aload_n 0, 1) := q_tb t_Re_init0 36 rfl
theorem d_Re_init_70 : decode prog_8_method_1_code 70 = .ok (.getfield 17, 3) := q_tb t_Re_init0 37 rfl
theorem d_Re_init_73 : decode prog_8_method_1_code 73 = .ok (.iload_n 3, 1) := q_tb t_Re_init0 38 rfl
theorem d_Re_init_74 : decode prog_8_method_1_code 74 = .ok (.new 9, 3) := q_tb t_Re_init0 39 rfl
def T_Re_init1 : List (Nat × Instr × Nat) := [(77, .dup, 1), (78, .invokespecial 20, 3), (81, .aastore, 1), (82, .iinc 3 1, 3), (85, .goto (-35), 3), (88, .return_, 1)]
set_option maxRecDepth 100000 in
theorem t_Re_init1 : ∀ q ∈ T_Re_init1, decode prog_8_method_1_code q.1 = .ok q.2 := by decide +kernel
theorem d_Re_init_77 : decode prog_8_method_1_code 77 = .ok (.dup, 1) := q_tb t_Re_init1 0 rfl
theorem d_Re_init_78 : decode prog_8_method_1_code 78 = .ok (.invokespecial 20, 3) := q_tb t_Re_init1 1 rfl
theorem d_Re_init_81 : decode prog_8_method_1_code 81 = .ok (.aastore, 1) := q_tb t_Re_init1 2 rfl
theorem d_Re_init_82 : decode prog_8_method_1_code 82 = .ok (.iinc 3 1, 3) := q_tb t_Re_init1 3 rfl
theorem d_Re_init_85 : decode prog_8_method_1_code 85 = .ok (.goto (-35), 3) := q_tb t_Re_init1 4 rfl
theorem d_Re_init_88 : decode prog_8_method_1_code 88 = .ok (.return_, 1) := q_tb t_Re_init1 5 rfl
def T_Pa_init : List (Nat × Instr × Nat) := [(0, .aload_n 0, 1), (1, .invokespecial 1, 3), (4, .return_, 1)]
set_option maxRecDepth 100000 in
theorem t_Pa_init : ∀ q ∈ T_Pa_init, decode prog_3_method_1_code q.1 = .ok q.2 := by decide +kernel
theorem d_Pa_init_0 : decode prog_3_method_1_code 0 = .ok (.aload_n 0, 1) := q_tb t_Pa_init 0 rfl
theorem d_Pa_init_1 : decode prog_3_method_1_code 1 = .ok (.invokespecial 1, 3) := q_tb t_Pa_init 1 rfl
theorem d_Pa_init_4 : decode prog_3_method_1_code 4 = .ok (.return_, 1) := q_tb t_Pa_init 2 rfl
def T_St_init : List (Nat × Instr × Nat) := [(0, .aload_n 0, 1), (1, .invokespecial 3, 3), (4, .aload_n 0, 1), (5, .bipush 6, 2), (7, .newarray .int, 2), (9, .putfield 9, 3), (12, .aload_n 0, 1), (13, .iconst 5, 1), (14, .newarray .int, 2), (16, .putfield 15, 3), (19, .return_, 1)]
set_option maxRecDepth 100000 in
theorem t_St_init : ∀ q ∈ T_St_init, decode prog_5_method_1_code q.1 = .ok q.2 := by decide +kernel
theorem d_St_init_0 : decode prog_5_method_1_code 0 = .ok (.aload_n 0, 1) := q_tb t_St_init 0 rfl
theorem d_St_init_1 : decode prog_5_method_1_code 1 = .ok (.invokespecial 3, 3) := q_tb t_St_init 1 rfl
theorem d_St_init_4 : decode prog_5_method_1_code 4 = .ok (.aload_n 0, 1) := q_tb t_St_init 2 rfl
theorem d_St_init_5 : decode prog_5_method_1_code 5 = .ok (.bipush 6, 2) := q_tb t_St_init 3 rfl
theorem d_St_init_7 : decode prog_5_method_1_code 7 = .ok (.newarray .int, 2) := q_tb t_St_init 4 rfl
theorem d_St_init_9 : decode prog_5_method_1_code 9 = .ok (.putfield 9, 3) := q_tb t_St_init 5 rfl
theorem d_St_init_12 : decode prog_5_method_1_code 12 = .ok (.aload_n 0, 1) := q_tb t_St_init 6 rfl
theorem d_St_init_13 : decode prog_5_method_1_code 13 = .ok (.iconst 5, 1) := q_tb t_St_init 7 rfl
theorem d_St_init_14 : decode prog_5_method_1_code 14 = .ok (.newarray .int, 2) := q_tb t_St_init 8 rfl
theorem d_St_init_16 : decode prog_5_method_1_code 16 = .ok (.putfield 15, 3) := q_tb t_St_init 9 rfl
theorem d_St_init_19 : decode prog_5_method_1_code 19 = .ok (.return_, 1) := q_tb t_St_init 10 rfl
def T_Re_read0 : List (Nat × Instr × Nat) := [(0, .aload_n 0, 1), (1, .iconst 0, 1), (2, .putfield 37, 3), (5, .aload_n 0, 1), (6, .iconst (-1), 1), (7, .putfield 25, 3), (10, .aload_n 0, 1), (11, .iconst 0, 1), (12, .putfield 40, 3), (15, .aload_n 0, 1), (16, .iconst 0, 1), (17, .putfield 43, 3), (20, .aload_n 1, 1), (21, .invokevirtual 46, 3), (24, .aload_n 0, 1), (25, .invokevirtual 51, 3), (28, .iconst 0, 1), (29, .istore_n 2, 1), (30, .iload_n 2, 1), (31, .bipush 100, 2), (33, .if_icmp .ge 35, 3), (36, .aload_n 0, 1), (37, .getfield 40, 3), (40, .aload_n 0, 1), (41, .getfield 29, 3), (44, .getfield 54, 3), (47, .if_icmp .ge 21, 3), (50, .aload_n 0, 1), (51, .getfield 37, 3), (54, .ifCond .ne 14, 3), (57, .aload_n 0, 1), (58, .aload_n 1, 1), (59, .invokevirtual 59, 3), (62, .iinc 2 1, 3), (65, .goto (-35), 3), (68, .aload_n 0, 1), (69, .getfield 37, 3), (72, .ifCond .ne 15, 3), (75, .aload_n 0, 1), (76, .getfield 43, 3)]
set_option maxRecDepth 100000 in
theorem t_Re_read0 : ∀ q ∈ T_Re_read0, decode prog_8_method_2_code q.1 = .ok q.2 := by decide +kernel
theorem d_Re_read_0 : decode prog_8_method_2_code 0 = .ok (.aload_n 0, 1) := q_tb t_Re_read0 0 rfl
theorem d_Re_read_1 : decode prog_8_method_2_code 1 = .ok (.iconst 0, 1) := q_tb t_Re_read0 1 rfl
theorem d_Re_read_2 : decode prog_8_method_2_code 2 = .ok (.putfield 37, 3) := q_tb t_Re_read0 2 rfl
theorem d_Re_read_5 : decode prog_8_method_2_code 5 = .ok (.aload_n 0, 1) := q_tb t_Re_read0 3 rfl
theorem d_Re_read_6 : decode prog_8_method_2_code 6 = .ok (.iconst (-1), 1) := q_tb t_Re_read0 4 rfl
theorem d_Re_read_7 : decode prog_8_method_2_code 7 = .ok (.putfield 25, 3) := q_tb t_Re_read0 5 rfl
theorem d_Re_read_10 : decode prog_8_method_2_code 10 = .ok (.aload_n 0, 1) := q_tb t_Re_read0 6 rfl
theorem d_Re_read_11 : decode prog_8_method_2_code 11 = .ok (.iconst 0, 1) := q_tb t_Re_read0 7 rfl
theorem d_Re_read_12 : decode prog_8_method_2_code 12 = .ok (.putfield 40, 3) := q_tb t_Re_read0 8 rfl
theorem d_Re_read_15 : decode prog_8_method_2_code 15 = .ok (.aload_n 0, 1) := q_tb t_Re_read0 9 rfl
theorem d_Re_read_16 : decode prog_8_method_2_code 16 = .ok (.iconst 0, 1) := q_tb t_Re_read0 10 rfl
theorem d_Re_read_17 : decode prog_8_method_2_code 17 = .ok (.putfield 43, 3) := q_tb t_Re_read0 11 rfl
theorem d_Re_read_20 : decode prog_8_method_2_code 20 = .ok (.aload_n 1, 1) := q_tb t_Re_read0 12 rfl
theorem d_Re_read_21 : decode prog_8_method_2_code 21 = .ok (.invokevirtual 46, 3) := q_tb t_Re_read0 13 rfl
theorem d_Re_read_24 : decode prog_8_method_2_code 24 = .ok (.aload_n 0, 1) := q_tb t_Re_read0 14 rfl
theorem d_Re_read_25 : decode prog_8_method_2_code 25 = .ok (.invokevirtual 51, 3) := q_tb t_Re_read0 15 rfl
theorem d_Re_read_28 : decode prog_8_method_2_code 28 = .ok (.iconst 0, 1) := q_tb t_Re_read0 16 rfl
theorem d_Re_read_29 : decode prog_8_method_2_code 29 = .ok (.istore_n 2, 1) := q_tb t_Re_read0 17 rfl
theorem d_Re_read_30 : decode prog_8_method_2_code 30 = .ok (.iload_n 2, 1) := q_tb t_Re_read0 18 rfl
theorem d_Re_read_31 : decode prog_8_method_2_code 31 = .ok (.bipush 100, 2) := q_tb t_Re_read0 19 rfl
theorem d_Re_read_33 : decode prog_8_method_2_code 33 = .ok (.if_icmp .ge 35, 3) := q_tb t_Re_read0 20 rfl
theorem d_Re_read_36 : decode prog_8_method_2_code 36 = .ok (.aload_n 0, 1) := q_tb t_Re_read0 21 rfl
theorem d_Re_read_37 : decode prog_8_method_2_code 37 = .ok (.getfield 40, 3) := q_tb t_Re_read0 22 rfl
theorem d_Re_read_40 : decode prog_8_method_2_code 40 = .ok (.aload_n 0, 1) := q_tb t_Re_read0 23 rfl
theorem d_Re_read_41 : decode prog_8_method_2_code 41 = .ok (.getfield 29, 3) := q_tb t_Re_read0 24 rfl
theorem d_Re_read_44 : decode prog_8_method_2_code 44 = .ok (.getfield 54, 3) := q_tb t_Re_read0 25 rfl
theorem d_Re_read_47 : decode prog_8_method_2_code 47 = .ok (.if_icmp .ge 21, 3) := q_tb t_Re_read0 26 rfl
theorem d_Re_read_50 : decode prog_8_method_2_code 50 = .ok (.aload_n 0, 1) := q_tb t_Re_read0 27 rfl
theorem d_Re_read_51 : decode prog_8_method_2_code 51 = .ok (.getfield 37, 3) := q_tb t_Re_read0 28 rfl
theorem d_Re_read_54 : decode prog_8_method_2_code 54 = .ok (.ifCond .ne 14, 3) := q_tb t_Re_read0 29 rfl
theorem d_Re_read_57 : decode prog_8_method_2_code 57 = .ok (.aload_n 0, 1) := q_tb t_Re_read0 30 rfl
theorem d_Re_read_58 : decode prog_8_method_2_code 58 = .ok (.aload_n 1, 1) := q_tb t_Re_read0 31 rfl
theorem d_Re_read_59 : decode prog_8_method_2_code 59 = .ok (.invokevirtual 59, 3) := q_tb t_Re_read0 32 rfl
theorem d_Re_read_62 : decode prog_8_method_2_code 62 = .ok (.iinc 2 1, 3) := q_tb t_Re_read0 33 rfl
theorem d_Re_read_65 : decode prog_8_method_2_code 65 = .ok (.goto (-35), 3) := q_tb t_Re_read0 34 rfl
theorem d_Re_read_68 : decode prog_8_method_2_code 68 = .ok (.aload_n 0, 1) := q_tb t_Re_read0 35 rfl
theorem d_Re_read_69 : decode prog_8_method_2_code 69 = .ok (.getfield 37, 3) := q_tb t_Re_read0 36 rfl
theorem d_Re_read_72 : decode prog_8_method_2_code 72 = .ok (.ifCond .ne 15, 3) := q_tb t_Re_read0 37 rfl
theorem d_Re_read_75 : decode prog_8_method_2_code 75 = .ok (.aload_n 0, 1) := q_tb t_Re_read0 38 rfl
theorem d_Re_read_76 : decode prog_8_method_2_code 76 = .ok (.getfield 43, 3) := q_tb t_Re_read0 39 rfl
def T_Re_read1 : List (Nat × Instr × Nat) := [(79, .ifCond .le 8, 3), (82, .aload_n 0, 1), (83, .iconst 1, 1), (84, .invokevirtual 63, 3), (87, .aload_n 0, 1), (88, .getfield 37, 3), (91, .ifCond .eq 5, 3), (94, .iconst 0, 1), (95, .ireturn, 1), (96, .aload_n 0, 1), (97, .invokevirtual 67, 3), (100, .aload_n 1, 1), (101, .aload_n 0, 1), (102, .getfield 11, 3), (105, .aload_n 0, 1), (106, .getfield 43, 3), (109, .aaload, 1), (110, .invokevirtual 70, 3), (113, .iconst 1, 1), (114, .ireturn, 1)]
set_option maxRecDepth 100000 in
theorem t_Re_read1 : ∀ q ∈ T_Re_read1, decode prog_8_method_2_code q.1 = .ok q.2 := by decide +kernel
theorem d_Re_read_79 : decode prog_8_method_2_code 79 = .ok (.ifCond .le 8, 3) := q_tb t_Re_read1 0 rfl
theorem d_Re_read_82 : decode prog_8_method_2_code 82 = .ok (.aload_n 0, 1) := q_tb t_Re_read1 1 rfl
theorem d_Re_read_83 : decode prog_8_method_2_code 83 = .ok (.iconst 1, 1) := q_tb t_Re_read1 2 rfl
theorem d_Re_read_84 : decode prog_8_method_2_code 84 = .ok (.invokevirtual 63, 3) := q_tb t_Re_read1 3 rfl
theorem d_Re_read_87 : decode prog_8_method_2_code 87 = .ok (.aload_n 0, 1) := q_tb t_Re_read1 4 rfl
theorem d_Re_read_88 : decode prog_8_method_2_code 88 = .ok (.getfield 37, 3) := q_tb t_Re_read1 5 rfl
theorem d_Re_read_91 : decode prog_8_method_2_code 91 = .ok (.ifCond .eq 5, 3) := q_tb t_Re_read1 6 rfl
theorem d_Re_read_94 : decode prog_8_method_2_code 94 = .ok (.iconst 0, 1) := q_tb t_Re_read1 7 rfl
theorem d_Re_read_95 : decode prog_8_method_2_code 95 = .ok (.ireturn, 1) := q_tb t_Re_read1 8 rfl
theorem d_Re_read_96 : decode prog_8_method_2_code 96 = .ok (.aload_n 0, 1) := q_tb t_Re_read1 9 rfl
theorem d_Re_read_97 : decode prog_8_method_2_code 97 = .ok (.invokevirtual 67, 3) := q_tb t_Re_read1 10 rfl
theorem d_Re_read_100 : decode prog_8_method_2_code 100 = .ok (.aload_n 1, 1) := q_tb t_Re_read1 11 rfl
theorem d_Re_read_101 : decode prog_8_method_2_code 101 = .ok (.aload_n 0, 1) := q_tb t_Re_read1 12 rfl
theorem d_Re_read_102 : decode prog_8_method_2_code 102 = .ok (.getfield 11, 3) := q_tb t_Re_read1 13 rfl
theorem d_Re_read_105 : decode prog_8_method_2_code 105 = .ok (.aload_n 0, 1) := q_tb t_Re_read1 14 rfl
theorem d_Re_read_106 : decode prog_8_method_2_code 106 = .ok (.getfield 43, 3) := q_tb t_Re_read1 15 rfl
theorem d_Re_read_109 : decode prog_8_method_2_code 109 = .ok (.aaload, 1) := q_tb t_Re_read1 16 rfl
theorem d_Re_read_110 : decode prog_8_method_2_code 110 = .ok (.invokevirtual 70, 3) := q_tb t_Re_read1 17 rfl
theorem d_Re_read_113 : decode prog_8_method_2_code 113 = .ok (.iconst 1, 1) := q_tb t_Re_read1 18 rfl
theorem d_Re_read_114 : decode prog_8_method_2_code 114 = .ok (.ireturn, 1) := q_tb t_Re_read1 19 rfl
def T_Co_reset : List (Nat × Instr × Nat) := [(0, .aload_n 0, 1), (1, .iconst 1, 1), (2, .putfield 9, 3), (5, .aload_n 0, 1), (6, .iconst 0, 1), (7, .putfield 28, 3), (10, .aload_n 0, 1), (11, .getfield 15, 3), (14, .iconst 0, 1), (15, .invokestatic 31, 3), (18, .return_, 1)]
set_option maxRecDepth 100000 in
theorem t_Co_reset : ∀ q ∈ T_Co_reset, decode prog_2_method_2_code q.1 = .ok q.2 := by decide +kernel
theorem d_Co_reset_0 : decode prog_2_method_2_code 0 = .ok (.aload_n 0, 1) := q_tb t_Co_reset 0 rfl
theorem d_Co_reset_1 : decode prog_2_method_2_code 1 = .ok (.iconst 1, 1) := q_tb t_Co_reset 1 rfl
theorem d_Co_reset_2 : decode prog_2_method_2_code 2 = .ok (.putfield 9, 3) := q_tb t_Co_reset 2 rfl
theorem d_Co_reset_5 : decode prog_2_method_2_code 5 = .ok (.aload_n 0, 1) := q_tb t_Co_reset 3 rfl
theorem d_Co_reset_6 : decode prog_2_method_2_code 6 = .ok (.iconst 0, 1) := q_tb t_Co_reset 4 rfl
theorem d_Co_reset_7 : decode prog_2_method_2_code 7 = .ok (.putfield 28, 3) := q_tb t_Co_reset 5 rfl
theorem d_Co_reset_10 : decode prog_2_method_2_code 10 = .ok (.aload_n 0, 1) := q_tb t_Co_reset 6 rfl
theorem d_Co_reset_11 : decode prog_2_method_2_code 11 = .ok (.getfield 15, 3) := q_tb t_Co_reset 7 rfl
theorem d_Co_reset_14 : decode prog_2_method_2_code 14 = .ok (.iconst 0, 1) := q_tb t_Co_reset 8 rfl
theorem d_Co_reset_15 : decode prog_2_method_2_code 15 = .ok (.invokestatic 31, 3) := q_tb t_Co_reset 9 rfl
theorem d_Co_reset_18 : decode prog_2_method_2_code 18 = .ok (.return_, 1) := q_tb t_Co_reset 10 rfl
def T_Re_beginText : List (Nat × Instr × Nat) := [(0, .aload_n 0, 1), (1, .getfield 11, 3), (4, .aload_n 0, 1), (5, .getfield 43, 3), (8, .aaload, 1), (9, .iconst 0, 1), (10, .iconst 0, 1), (11, .invokevirtual 119, 3), (14, .aload_n 0, 1), (15, .getfield 17, 3), (18, .aload_n 0, 1), (19, .getfield 43, 3), (22, .aaload, 1), (23, .iconst 1, 1), (24, .iconst 0, 1), (25, .invokevirtual 119, 3), (28, .return_, 1)]
set_option maxRecDepth 100000 in
theorem t_Re_beginText : ∀ q ∈ T_Re_beginText, decode prog_8_method_11_code q.1 = .ok q.2 := by decide +kernel
theorem d_Re_beginText_0 : decode prog_8_method_11_code 0 = .ok (.aload_n 0, 1) := q_tb t_Re_beginText 0 rfl
theorem d_Re_beginText_1 : decode prog_8_method_11_code 1 = .ok (.getfield 11, 3) := q_tb t_Re_beginText 1 rfl
theorem d_Re_beginText_4 : decode prog_8_method_11_code 4 = .ok (.aload_n 0, 1) := q_tb t_Re_beginText 2 rfl
theorem d_Re_beginText_5 : decode prog_8_method_11_code 5 = .ok (.getfield 43, 3) := q_tb t_Re_beginText 3 rfl
theorem d_Re_beginText_8 : decode prog_8_method_11_code 8 = .ok (.aaload, 1) := q_tb t_Re_beginText 4 rfl
theorem d_Re_beginText_9 : decode prog_8_method_11_code 9 = .ok (.iconst 0, 1) := q_tb t_Re_beginText 5 rfl
theorem d_Re_beginText_10 : decode prog_8_method_11_code 10 = .ok (.iconst 0, 1) := q_tb t_Re_beginText 6 rfl
theorem d_Re_beginText_11 : decode prog_8_method_11_code 11 = .ok (.invokevirtual 119, 3) := q_tb t_Re_beginText 7 rfl
theorem d_Re_beginText_14 : decode prog_8_method_11_code 14 = .ok (.aload_n 0, 1) := q_tb t_Re_beginText 8 rfl
theorem d_Re_beginText_15 : decode prog_8_method_11_code 15 = .ok (.getfield 17, 3) := q_tb t_Re_beginText 9 rfl
theorem d_Re_beginText_18 : decode prog_8_method_11_code 18 = .ok (.aload_n 0, 1) := q_tb t_Re_beginText 10 rfl
theorem d_Re_beginText_19 : decode prog_8_method_11_code 19 = .ok (.getfield 43, 3) := q_tb t_Re_beginText 11 rfl
theorem d_Re_beginText_22 : decode prog_8_method_11_code 22 = .ok (.aaload, 1) := q_tb t_Re_beginText 12 rfl
theorem d_Re_beginText_23 : decode prog_8_method_11_code 23 = .ok (.iconst 1, 1) := q_tb t_Re_beginText 13 rfl
theorem d_Re_beginText_24 : decode prog_8_method_11_code 24 = .ok (.iconst 0, 1) := q_tb t_Re_beginText 14 rfl
theorem d_Re_beginText_25 : decode prog_8_method_11_code 25 = .ok (.invokevirtual 119, 3) := q_tb t_Re_beginText 15 rfl
theorem d_Re_beginText_28 : decode prog_8_method_11_code 28 = .ok (.return_, 1) := q_tb t_Re_beginText 16 rfl
def T_Pa_set : List (Nat × Instr × Nat) := [(0, .aload_n 0, 1), (1, .iload_n 1, 1), (2, .putfield 7, 3), (5, .aload_n 0, 1), (6, .iload_n 2, 1), (7, .putfield 13, 3), (10, .aload_n 0, 1), (11, .iload_n 2, 1), (12, .putfield 17, 3), (15, .return_, 1)]
set_option maxRecDepth 100000 in
theorem t_Pa_set : ∀ q ∈ T_Pa_set, decode prog_3_method_2_code q.1 = .ok q.2 := by decide +kernel
theorem d_Pa_set_0 : decode prog_3_method_2_code 0 = .ok (.aload_n 0, 1) := q_tb t_Pa_set 0 rfl
theorem d_Pa_set_1 : decode prog_3_method_2_code 1 = .ok (.iload_n 1, 1) := q_tb t_Pa_set 1 rfl
theorem d_Pa_set_2 : decode prog_3_method_2_code 2 = .ok (.putfield 7, 3) := q_tb t_Pa_set 2 rfl
theorem d_Pa_set_5 : decode prog_3_method_2_code 5 = .ok (.aload_n 0, 1) := q_tb t_Pa_set 3 rfl
theorem d_Pa_set_6 : decode prog_3_method_2_code 6 = .ok (.iload_n 2, 1) := q_tb t_Pa_set 4 rfl
theorem d_Pa_set_7 : decode prog_3_method_2_code 7 = .ok (.putfield 13, 3) := q_tb t_Pa_set 5 rfl
theorem d_Pa_set_10 : decode prog_3_method_2_code 10 = .ok (.aload_n 0, 1) := q_tb t_Pa_set 6 rfl
theorem d_Pa_set_11 : decode prog_3_method_2_code 11 = .ok (.iload_n 2, 1) := q_tb t_Pa_set 7 rfl
theorem d_Pa_set_12 : decode prog_3_method_2_code 12 = .ok (.putfield 17, 3) := q_tb t_Pa_set 8 rfl
theorem d_Pa_set_15 : decode prog_3_method_2_code 15 = .ok (.return_, 1) := q_tb t_Pa_set 9 rfl
def T_Re_readNext : List (Nat × Instr × Nat) := [(0, .aload_n 0, 1), (1, .getfield 29, 3), (4, .aload_n 0, 1), (5, .getfield 40, 3), (8, .invokevirtual 74, 3), (11, .lookupswitch 65 #[(40, 50), (41, 57), (124, 33)], 33), (44, .aload_n 0, 1), (45, .dup, 1), (46, .getfield 40, 3), (49, .iconst 1, 1), (50, .iadd, 1), (51, .putfield 40, 3), (54, .aload_n 0, 1), (55, .invokevirtual 67, 3), (58, .goto 23, 3), (61, .aload_n 0, 1), (62, .invokevirtual 78, 3), (65, .goto 16, 3), (68, .aload_n 0, 1), (69, .aload_n 1, 1), (70, .invokevirtual 81, 3), (73, .goto 8, 3), (76, .aload_n 0, 1), (77, .aload_n 1, 1), (78, .invokevirtual 84, 3), (81, .return_, 1)]
set_option maxRecDepth 100000 in
theorem t_Re_readNext : ∀ q ∈ T_Re_readNext, decode prog_8_method_3_code q.1 = .ok q.2 := by decide +kernel
theorem d_Re_readNext_0 : decode prog_8_method_3_code 0 = .ok (.aload_n 0, 1) := q_tb t_Re_readNext 0 rfl
theorem d_Re_readNext_1 : decode prog_8_method_3_code 1 = .ok (.getfield 29, 3) := q_tb t_Re_readNext 1 rfl
theorem d_Re_readNext_4 : decode prog_8_method_3_code 4 = .ok (.aload_n 0, 1) := q_tb t_Re_readNext 2 rfl
theorem d_Re_readNext_5 : decode prog_8_method_3_code 5 = .ok (.getfield 40, 3) := q_tb t_Re_readNext 3 rfl
theorem d_Re_readNext_8 : decode prog_8_method_3_code 8 = .ok (.invokevirtual 74, 3) := q_tb t_Re_readNext 4 rfl
theorem d_Re_readNext_11 : decode prog_8_method_3_code 11 = .ok (.lookupswitch 65 #[(40, 50), (41, 57), (124, 33)], 33) := q_tb t_Re_readNext 5 rfl
theorem d_Re_readNext_44 : decode prog_8_method_3_code 44 = .ok (.aload_n 0, 1) := q_tb t_Re_readNext 6 rfl
theorem d_Re_readNext_45 : decode prog_8_method_3_code 45 = .ok (.dup, 1) := q_tb t_Re_readNext 7 rfl
theorem d_Re_readNext_46 : decode prog_8_method_3_code 46 = .ok (.getfield 40, 3) := q_tb t_Re_readNext 8 rfl
theorem d_Re_readNext_49 : decode prog_8_method_3_code 49 = .ok (.iconst 1, 1) := q_tb t_Re_readNext 9 rfl
theorem d_Re_readNext_50 : decode prog_8_method_3_code 50 = .ok (.iadd, 1) := q_tb t_Re_readNext 10 rfl
theorem d_Re_readNext_51 : decode prog_8_method_3_code 51 = .ok (.putfield 40, 3) := q_tb t_Re_readNext 11 rfl
theorem d_Re_readNext_54 : decode prog_8_method_3_code 54 = .ok (.aload_n 0, 1) := q_tb t_Re_readNext 12 rfl
theorem d_Re_readNext_55 : decode prog_8_method_3_code 55 = .ok (.invokevirtual 67, 3) := q_tb t_Re_readNext 13 rfl
theorem d_Re_readNext_58 : decode prog_8_method_3_code 58 = .ok (.goto 23, 3) := q_tb t_Re_readNext 14 rfl
theorem d_Re_readNext_61 : decode prog_8_method_3_code 61 = .ok (.aload_n 0, 1) := q_tb t_Re_readNext 15 rfl
theorem d_Re_readNext_62 : decode prog_8_method_3_code 62 = .ok (.invokevirtual 78, 3) := q_tb t_Re_readNext 16 rfl
theorem d_Re_readNext_65 : decode prog_8_method_3_code 65 = .ok (.goto 16, 3) := q_tb t_Re_readNext 17 rfl
theorem d_Re_readNext_68 : decode prog_8_method_3_code 68 = .ok (.aload_n 0, 1) := q_tb t_Re_readNext 18 rfl
theorem d_Re_readNext_69 : decode prog_8_method_3_code 69 = .ok (.aload_n 1, 1) := q_tb t_Re_readNext 19 rfl
theorem d_Re_readNext_70 : decode prog_8_method_3_code 70 = .ok (.invokevirtual 81, 3) := q_tb t_Re_readNext 20 rfl
theorem d_Re_readNext_73 : decode prog_8_method_3_code 73 = .ok (.goto 8, 3) := q_tb t_Re_readNext 21 rfl
theorem d_Re_readNext_76 : decode prog_8_method_3_code 76 = .ok (.aload_n 0, 1) := q_tb t_Re_readNext 22 rfl
theorem d_Re_readNext_77 : decode prog_8_method_3_code 77 = .ok (.aload_n 1, 1) := q_tb t_Re_readNext 23 rfl
theorem d_Re_readNext_78 : decode prog_8_method_3_code 78 = .ok (.invokevirtual 84, 3) := q_tb t_Re_readNext 24 rfl
theorem d_Re_readNext_81 : decode prog_8_method_3_code 81 = .ok (.return_, 1) := q_tb t_Re_readNext 25 rfl
def T_Ta_byteAt : List (Nat × Instr × Nat) := [(0, .iload_n 1, 1), (1, .ifCond .lt 24, 3), (4, .iload_n 1, 1), (5, .aload_n 0, 1), (6, .getfield 15, 3), (9, .if_icmp .ge 16, 3), (12, .aload_n 0, 1), (13, .getfield 9, 3), (16, .iload_n 1, 1), (17, .baload, 1), (18, .sipush 255, 3), (21, .iand, 1), (22, .goto 4, 3), (25, .iconst (-1), 1), (26, .ireturn, 1)]
set_option maxRecDepth 100000 in
theorem t_Ta_byteAt : ∀ q ∈ T_Ta_byteAt, decode prog_7_method_3_code q.1 = .ok q.2 := by decide +kernel
theorem d_Ta_byteAt_0 : decode prog_7_method_3_code 0 = .ok (.iload_n 1, 1) := q_tb t_Ta_byteAt 0 rfl
theorem d_Ta_byteAt_1 : decode prog_7_method_3_code 1 = .ok (.ifCond .lt 24, 3) := q_tb t_Ta_byteAt 1 rfl
theorem d_Ta_byteAt_4 : decode prog_7_method_3_code 4 = .ok (.iload_n 1, 1) := q_tb t_Ta_byteAt 2 rfl
theorem d_Ta_byteAt_5 : decode prog_7_method_3_code 5 = .ok (.aload_n 0, 1) := q_tb t_Ta_byteAt 3 rfl
theorem d_Ta_byteAt_6 : decode prog_7_method_3_code 6 = .ok (.getfield 15, 3) := q_tb t_Ta_byteAt 4 rfl
theorem d_Ta_byteAt_9 : decode prog_7_method_3_code 9 = .ok (.if_icmp .ge 16, 3) := q_tb t_Ta_byteAt 5 rfl
theorem d_Ta_byteAt_12 : decode prog_7_method_3_code 12 = .ok (.aload_n 0, 1) := q_tb t_Ta_byteAt 6 rfl
theorem d_Ta_byteAt_13 : decode prog_7_method_3_code 13 = .ok (.getfield 9, 3) := q_tb t_Ta_byteAt 7 rfl
theorem d_Ta_byteAt_16 : decode prog_7_method_3_code 16 = .ok (.iload_n 1, 1) := q_tb t_Ta_byteAt 8 rfl
theorem d_Ta_byteAt_17 : decode prog_7_method_3_code 17 = .ok (.baload, 1) := q_tb t_Ta_byteAt 9 rfl
theorem d_Ta_byteAt_18 : decode prog_7_method_3_code 18 = .ok (.sipush 255, 3) := q_tb t_Ta_byteAt 10 rfl
theorem d_Ta_byteAt_21 : decode prog_7_method_3_code 21 = .ok (.iand, 1) := q_tb t_Ta_byteAt 11 rfl
theorem d_Ta_byteAt_22 : decode prog_7_method_3_code 22 = .ok (.goto 4, 3) := q_tb t_Ta_byteAt 12 rfl
theorem d_Ta_byteAt_25 : decode prog_7_method_3_code 25 = .ok (.iconst (-1), 1) := q_tb t_Ta_byteAt 13 rfl
theorem d_Ta_byteAt_26 : decode prog_7_method_3_code 26 = .ok (.ireturn, 1) := q_tb t_Ta_byteAt 14 rfl
def T_Re_endChoice : List (Nat × Instr × Nat) := [(0, .aload_n 0, 1), (1, .getfield 11, 3), (4, .aload_n 0, 1), (5, .getfield 43, 3), (8, .aaload, 1), (9, .aload_n 0, 1), (10, .getfield 17, 3), (13, .aload_n 0, 1), (14, .getfield 43, 3), (17, .aaload, 1), (18, .invokevirtual 140, 3), (21, .aload_n 0, 1), (22, .getfield 17, 3), (25, .aload_n 0, 1), (26, .getfield 43, 3), (29, .aaload, 1), (30, .iconst 1, 1), (31, .iconst 0, 1), (32, .invokevirtual 119, 3), (35, .return_, 1)]
set_option maxRecDepth 100000 in
theorem t_Re_endChoice : ∀ q ∈ T_Re_endChoice, decode prog_8_method_12_code q.1 = .ok q.2 := by decide +kernel
theorem d_Re_endChoice_0 : decode prog_8_method_12_code 0 = .ok (.aload_n 0, 1) := q_tb t_Re_endChoice 0 rfl
theorem d_Re_endChoice_1 : decode prog_8_method_12_code 1 = .ok (.getfield 11, 3) := q_tb t_Re_endChoice 1 rfl
theorem d_Re_endChoice_4 : decode prog_8_method_12_code 4 = .ok (.aload_n 0, 1) := q_tb t_Re_endChoice 2 rfl
theorem d_Re_endChoice_5 : decode prog_8_method_12_code 5 = .ok (.getfield 43, 3) := q_tb t_Re_endChoice 3 rfl
theorem d_Re_endChoice_8 : decode prog_8_method_12_code 8 = .ok (.aaload, 1) := q_tb t_Re_endChoice 4 rfl
theorem d_Re_endChoice_9 : decode prog_8_method_12_code 9 = .ok (.aload_n 0, 1) := q_tb t_Re_endChoice 5 rfl
theorem d_Re_endChoice_10 : decode prog_8_method_12_code 10 = .ok (.getfield 17, 3) := q_tb t_Re_endChoice 6 rfl
theorem d_Re_endChoice_13 : decode prog_8_method_12_code 13 = .ok (.aload_n 0, 1) := q_tb t_Re_endChoice 7 rfl
theorem d_Re_endChoice_14 : decode prog_8_method_12_code 14 = .ok (.getfield 43, 3) := q_tb t_Re_endChoice 8 rfl
theorem d_Re_endChoice_17 : decode prog_8_method_12_code 17 = .ok (.aaload, 1) := q_tb t_Re_endChoice 9 rfl
theorem d_Re_endChoice_18 : decode prog_8_method_12_code 18 = .ok (.invokevirtual 140, 3) := q_tb t_Re_endChoice 10 rfl
theorem d_Re_endChoice_21 : decode prog_8_method_12_code 21 = .ok (.aload_n 0, 1) := q_tb t_Re_endChoice 11 rfl
theorem d_Re_endChoice_22 : decode prog_8_method_12_code 22 = .ok (.getfield 17, 3) := q_tb t_Re_endChoice 12 rfl
theorem d_Re_endChoice_25 : decode prog_8_method_12_code 25 = .ok (.aload_n 0, 1) := q_tb t_Re_endChoice 13 rfl
theorem d_Re_endChoice_26 : decode prog_8_method_12_code 26 = .ok (.getfield 43, 3) := q_tb t_Re_endChoice 14 rfl
theorem d_Re_endChoice_29 : decode prog_8_method_12_code 29 = .ok (.aaload, 1) := q_tb t_Re_endChoice 15 rfl
theorem d_Re_endChoice_30 : decode prog_8_method_12_code 30 = .ok (.iconst 1, 1) := q_tb t_Re_endChoice 16 rfl
theorem d_Re_endChoice_31 : decode prog_8_method_12_code 31 = .ok (.iconst 0, 1) := q_tb t_Re_endChoice 17 rfl
theorem d_Re_endChoice_32 : decode prog_8_method_12_code 32 = .ok (.invokevirtual 119, 3) := q_tb t_Re_endChoice 18 rfl
theorem d_Re_endChoice_35 : decode prog_8_method_12_code 35 = .ok (.return_, 1) := q_tb t_Re_endChoice 19 rfl
def T_Pa_addChoice : List (Nat × Instr × Nat) := [(0, .aload_n 0, 1), (1, .dup, 1), (2, .getfield 7, 3), (5, .aload_n 1, 1), (6, .getfield 7, 3), (9, .ior, 1), (10, .putfield 7, 3), (13, .aload_n 0, 1), (14, .dup, 1), (15, .getfield 13, 3), (18, .aload_n 1, 1), (19, .getfield 13, 3), (22, .ior, 1), (23, .putfield 13, 3), (26, .aload_n 0, 1), (27, .dup, 1), (28, .getfield 17, 3), (31, .aload_n 1, 1), (32, .getfield 17, 3), (35, .ior, 1), (36, .putfield 17, 3), (39, .return_, 1)]
set_option maxRecDepth 100000 in
theorem t_Pa_addChoice : ∀ q ∈ T_Pa_addChoice, decode prog_3_method_3_code q.1 = .ok q.2 := by decide +kernel
theorem d_Pa_addChoice_0 : decode prog_3_method_3_code 0 = .ok (.aload_n 0, 1) := q_tb t_Pa_addChoice 0 rfl
theorem d_Pa_addChoice_1 : decode prog_3_method_3_code 1 = .ok (.dup, 1) := q_tb t_Pa_addChoice 1 rfl
theorem d_Pa_addChoice_2 : decode prog_3_method_3_code 2 = .ok (.getfield 7, 3) := q_tb t_Pa_addChoice 2 rfl
theorem d_Pa_addChoice_5 : decode prog_3_method_3_code 5 = .ok (.aload_n 1, 1) := q_tb t_Pa_addChoice 3 rfl
theorem d_Pa_addChoice_6 : decode prog_3_method_3_code 6 = .ok (.getfield 7, 3) := q_tb t_Pa_addChoice 4 rfl
theorem d_Pa_addChoice_9 : decode prog_3_method_3_code 9 = .ok (.ior, 1) := q_tb t_Pa_addChoice 5 rfl
theorem d_Pa_addChoice_10 : decode prog_3_method_3_code 10 = .ok (.putfield 7, 3) := q_tb t_Pa_addChoice 6 rfl
theorem d_Pa_addChoice_13 : decode prog_3_method_3_code 13 = .ok (.aload_n 0, 1) := q_tb t_Pa_addChoice 7 rfl
theorem d_Pa_addChoice_14 : decode prog_3_method_3_code 14 = .ok (.dup, 1) := q_tb t_Pa_addChoice 8 rfl
theorem d_Pa_addChoice_15 : decode prog_3_method_3_code 15 = .ok (.getfield 13, 3) := q_tb t_Pa_addChoice 9 rfl
theorem d_Pa_addChoice_18 : decode prog_3_method_3_code 18 = .ok (.aload_n 1, 1) := q_tb t_Pa_addChoice 10 rfl
theorem d_Pa_addChoice_19 : decode prog_3_method_3_code 19 = .ok (.getfield 13, 3) := q_tb t_Pa_addChoice 11 rfl
theorem d_Pa_addChoice_22 : decode prog_3_method_3_code 22 = .ok (.ior, 1) := q_tb t_Pa_addChoice 12 rfl
theorem d_Pa_addChoice_23 : decode prog_3_method_3_code 23 = .ok (.putfield 13, 3) := q_tb t_Pa_addChoice 13 rfl
theorem d_Pa_addChoice_26 : decode prog_3_method_3_code 26 = .ok (.aload_n 0, 1) := q_tb t_Pa_addChoice 14 rfl
theorem d_Pa_addChoice_27 : decode prog_3_method_3_code 27 = .ok (.dup, 1) := q_tb t_Pa_addChoice 15 rfl
theorem d_Pa_addChoice_28 : decode prog_3_method_3_code 28 = .ok (.getfield 17, 3) := q_tb t_Pa_addChoice 16 rfl
theorem d_Pa_addChoice_31 : decode prog_3_method_3_code 31 = .ok (.aload_n 1, 1) := q_tb t_Pa_addChoice 17 rfl
theorem d_Pa_addChoice_32 : decode prog_3_method_3_code 32 = .ok (.getfield 17, 3) := q_tb t_Pa_addChoice 18 rfl
theorem d_Pa_addChoice_35 : decode prog_3_method_3_code 35 = .ok (.ior, 1) := q_tb t_Pa_addChoice 19 rfl
theorem d_Pa_addChoice_36 : decode prog_3_method_3_code 36 = .ok (.putfield 17, 3) := q_tb t_Pa_addChoice 20 rfl
theorem d_Pa_addChoice_39 : decode prog_3_method_3_code 39 = .ok (.return_, 1) := q_tb t_Pa_addChoice 21 rfl
def T_Re_openText : List (Nat × Instr × Nat) := [(0, .aload_n 0, 1), (1, .getfield 43, 3), (4, .bipush 12, 2), (6, .if_icmp .lt 9, 3), (9, .aload_n 0, 1), (10, .iconst 3, 1), (11, .invokevirtual 63, 3), (14, .return_, 1), (15, .aload_n 0, 1), (16, .dup, 1), (17, .getfield 40, 3), (20, .iconst 1, 1), (21, .iadd, 1), (22, .putfield 40, 3), (25, .aload_n 0, 1), (26, .dup, 1), (27, .getfield 43, 3), (30, .iconst 1, 1), (31, .iadd, 1), (32, .putfield 43, 3), (35, .aload_n 0, 1), (36, .invokevirtual 51, 3), (39, .return_, 1)]
set_option maxRecDepth 100000 in
theorem t_Re_openText : ∀ q ∈ T_Re_openText, decode prog_8_method_4_code q.1 = .ok q.2 := by decide +kernel
theorem d_Re_openText_0 : decode prog_8_method_4_code 0 = .ok (.aload_n 0, 1) := q_tb t_Re_openText 0 rfl
theorem d_Re_openText_1 : decode prog_8_method_4_code 1 = .ok (.getfield 43, 3) := q_tb t_Re_openText 1 rfl
theorem d_Re_openText_4 : decode prog_8_method_4_code 4 = .ok (.bipush 12, 2) := q_tb t_Re_openText 2 rfl
theorem d_Re_openText_6 : decode prog_8_method_4_code 6 = .ok (.if_icmp .lt 9, 3) := q_tb t_Re_openText 3 rfl
theorem d_Re_openText_9 : decode prog_8_method_4_code 9 = .ok (.aload_n 0, 1) := q_tb t_Re_openText 4 rfl
theorem d_Re_openText_10 : decode prog_8_method_4_code 10 = .ok (.iconst 3, 1) := q_tb t_Re_openText 5 rfl
theorem d_Re_openText_11 : decode prog_8_method_4_code 11 = .ok (.invokevirtual 63, 3) := q_tb t_Re_openText 6 rfl
theorem d_Re_openText_14 : decode prog_8_method_4_code 14 = .ok (.return_, 1) := q_tb t_Re_openText 7 rfl
theorem d_Re_openText_15 : decode prog_8_method_4_code 15 = .ok (.aload_n 0, 1) := q_tb t_Re_openText 8 rfl
theorem d_Re_openText_16 : decode prog_8_method_4_code 16 = .ok (.dup, 1) := q_tb t_Re_openText 9 rfl
theorem d_Re_openText_17 : decode prog_8_method_4_code 17 = .ok (.getfield 40, 3) := q_tb t_Re_openText 10 rfl
theorem d_Re_openText_20 : decode prog_8_method_4_code 20 = .ok (.iconst 1, 1) := q_tb t_Re_openText 11 rfl
theorem d_Re_openText_21 : decode prog_8_method_4_code 21 = .ok (.iadd, 1) := q_tb t_Re_openText 12 rfl
theorem d_Re_openText_22 : decode prog_8_method_4_code 22 = .ok (.putfield 40, 3) := q_tb t_Re_openText 13 rfl
theorem d_Re_openText_25 : decode prog_8_method_4_code 25 = .ok (.aload_n 0, 1) := q_tb t_Re_openText 14 rfl
theorem d_Re_openText_26 : decode prog_8_method_4_code 26 = .ok (.dup, 1) := q_tb t_Re_openText 15 rfl
theorem d_Re_openText_27 : decode prog_8_method_4_code 27 = .ok (.getfield 43, 3) := q_tb t_Re_openText 16 rfl
theorem d_Re_openText_30 : decode prog_8_method_4_code 30 = .ok (.iconst 1, 1) := q_tb t_Re_openText 17 rfl
theorem d_Re_openText_31 : decode prog_8_method_4_code 31 = .ok (.iadd, 1) := q_tb t_Re_openText 18 rfl
theorem d_Re_openText_32 : decode prog_8_method_4_code 32 = .ok (.putfield 43, 3) := q_tb t_Re_openText 19 rfl
theorem d_Re_openText_35 : decode prog_8_method_4_code 35 = .ok (.aload_n 0, 1) := q_tb t_Re_openText 20 rfl
theorem d_Re_openText_36 : decode prog_8_method_4_code 36 = .ok (.invokevirtual 51, 3) := q_tb t_Re_openText 21 rfl
theorem d_Re_openText_39 : decode prog_8_method_4_code 39 = .ok (.return_, 1) := q_tb t_Re_openText 22 rfl
def T_Re_meetFault : List (Nat × Instr × Nat) := [(0, .aload_n 0, 1), (1, .iload_n 1, 1), (2, .putfield 37, 3), (5, .aload_n 0, 1), (6, .aload_n 0, 1), (7, .getfield 40, 3), (10, .putfield 25, 3), (13, .return_, 1)]
set_option maxRecDepth 100000 in
theorem t_Re_meetFault : ∀ q ∈ T_Re_meetFault, decode prog_8_method_13_code q.1 = .ok q.2 := by decide +kernel
theorem d_Re_meetFault_0 : decode prog_8_method_13_code 0 = .ok (.aload_n 0, 1) := q_tb t_Re_meetFault 0 rfl
theorem d_Re_meetFault_1 : decode prog_8_method_13_code 1 = .ok (.iload_n 1, 1) := q_tb t_Re_meetFault 1 rfl
theorem d_Re_meetFault_2 : decode prog_8_method_13_code 2 = .ok (.putfield 37, 3) := q_tb t_Re_meetFault 2 rfl
theorem d_Re_meetFault_5 : decode prog_8_method_13_code 5 = .ok (.aload_n 0, 1) := q_tb t_Re_meetFault 3 rfl
theorem d_Re_meetFault_6 : decode prog_8_method_13_code 6 = .ok (.aload_n 0, 1) := q_tb t_Re_meetFault 4 rfl
theorem d_Re_meetFault_7 : decode prog_8_method_13_code 7 = .ok (.getfield 40, 3) := q_tb t_Re_meetFault 5 rfl
theorem d_Re_meetFault_10 : decode prog_8_method_13_code 10 = .ok (.putfield 25, 3) := q_tb t_Re_meetFault 6 rfl
theorem d_Re_meetFault_13 : decode prog_8_method_13_code 13 = .ok (.return_, 1) := q_tb t_Re_meetFault 7 rfl
def T_Re_closeText : List (Nat × Instr × Nat) := [(0, .aload_n 0, 1), (1, .getfield 43, 3), (4, .ifCond .ne 9, 3), (7, .aload_n 0, 1), (8, .iconst 1, 1), (9, .invokevirtual 63, 3), (12, .return_, 1), (13, .aload_n 0, 1), (14, .dup, 1), (15, .getfield 40, 3), (18, .iconst 1, 1), (19, .iadd, 1), (20, .putfield 40, 3), (23, .aload_n 0, 1), (24, .invokevirtual 67, 3), (27, .aload_n 0, 1), (28, .getfield 11, 3), (31, .aload_n 0, 1), (32, .getfield 43, 3), (35, .aaload, 1), (36, .astore_n 2, 1), (37, .aload_n 0, 1), (38, .dup, 1), (39, .getfield 43, 3), (42, .iconst 1, 1), (43, .isub, 1), (44, .putfield 43, 3), (47, .aload_n 0, 1), (48, .aload_n 1, 1), (49, .aload_n 2, 1), (50, .invokevirtual 87, 3), (53, .return_, 1)]
set_option maxRecDepth 100000 in
theorem t_Re_closeText : ∀ q ∈ T_Re_closeText, decode prog_8_method_5_code q.1 = .ok q.2 := by decide +kernel
theorem d_Re_closeText_0 : decode prog_8_method_5_code 0 = .ok (.aload_n 0, 1) := q_tb t_Re_closeText 0 rfl
theorem d_Re_closeText_1 : decode prog_8_method_5_code 1 = .ok (.getfield 43, 3) := q_tb t_Re_closeText 1 rfl
theorem d_Re_closeText_4 : decode prog_8_method_5_code 4 = .ok (.ifCond .ne 9, 3) := q_tb t_Re_closeText 2 rfl
theorem d_Re_closeText_7 : decode prog_8_method_5_code 7 = .ok (.aload_n 0, 1) := q_tb t_Re_closeText 3 rfl
theorem d_Re_closeText_8 : decode prog_8_method_5_code 8 = .ok (.iconst 1, 1) := q_tb t_Re_closeText 4 rfl
theorem d_Re_closeText_9 : decode prog_8_method_5_code 9 = .ok (.invokevirtual 63, 3) := q_tb t_Re_closeText 5 rfl
theorem d_Re_closeText_12 : decode prog_8_method_5_code 12 = .ok (.return_, 1) := q_tb t_Re_closeText 6 rfl
theorem d_Re_closeText_13 : decode prog_8_method_5_code 13 = .ok (.aload_n 0, 1) := q_tb t_Re_closeText 7 rfl
theorem d_Re_closeText_14 : decode prog_8_method_5_code 14 = .ok (.dup, 1) := q_tb t_Re_closeText 8 rfl
theorem d_Re_closeText_15 : decode prog_8_method_5_code 15 = .ok (.getfield 40, 3) := q_tb t_Re_closeText 9 rfl
theorem d_Re_closeText_18 : decode prog_8_method_5_code 18 = .ok (.iconst 1, 1) := q_tb t_Re_closeText 10 rfl
theorem d_Re_closeText_19 : decode prog_8_method_5_code 19 = .ok (.iadd, 1) := q_tb t_Re_closeText 11 rfl
theorem d_Re_closeText_20 : decode prog_8_method_5_code 20 = .ok (.putfield 40, 3) := q_tb t_Re_closeText 12 rfl
theorem d_Re_closeText_23 : decode prog_8_method_5_code 23 = .ok (.aload_n 0, 1) := q_tb t_Re_closeText 13 rfl
theorem d_Re_closeText_24 : decode prog_8_method_5_code 24 = .ok (.invokevirtual 67, 3) := q_tb t_Re_closeText 14 rfl
theorem d_Re_closeText_27 : decode prog_8_method_5_code 27 = .ok (.aload_n 0, 1) := q_tb t_Re_closeText 15 rfl
theorem d_Re_closeText_28 : decode prog_8_method_5_code 28 = .ok (.getfield 11, 3) := q_tb t_Re_closeText 16 rfl
theorem d_Re_closeText_31 : decode prog_8_method_5_code 31 = .ok (.aload_n 0, 1) := q_tb t_Re_closeText 17 rfl
theorem d_Re_closeText_32 : decode prog_8_method_5_code 32 = .ok (.getfield 43, 3) := q_tb t_Re_closeText 18 rfl
theorem d_Re_closeText_35 : decode prog_8_method_5_code 35 = .ok (.aaload, 1) := q_tb t_Re_closeText 19 rfl
theorem d_Re_closeText_36 : decode prog_8_method_5_code 36 = .ok (.astore_n 2, 1) := q_tb t_Re_closeText 20 rfl
theorem d_Re_closeText_37 : decode prog_8_method_5_code 37 = .ok (.aload_n 0, 1) := q_tb t_Re_closeText 21 rfl
theorem d_Re_closeText_38 : decode prog_8_method_5_code 38 = .ok (.dup, 1) := q_tb t_Re_closeText 22 rfl
theorem d_Re_closeText_39 : decode prog_8_method_5_code 39 = .ok (.getfield 43, 3) := q_tb t_Re_closeText 23 rfl
theorem d_Re_closeText_42 : decode prog_8_method_5_code 42 = .ok (.iconst 1, 1) := q_tb t_Re_closeText 24 rfl
theorem d_Re_closeText_43 : decode prog_8_method_5_code 43 = .ok (.isub, 1) := q_tb t_Re_closeText 25 rfl
theorem d_Re_closeText_44 : decode prog_8_method_5_code 44 = .ok (.putfield 43, 3) := q_tb t_Re_closeText 26 rfl
theorem d_Re_closeText_47 : decode prog_8_method_5_code 47 = .ok (.aload_n 0, 1) := q_tb t_Re_closeText 27 rfl
theorem d_Re_closeText_48 : decode prog_8_method_5_code 48 = .ok (.aload_n 1, 1) := q_tb t_Re_closeText 28 rfl
theorem d_Re_closeText_49 : decode prog_8_method_5_code 49 = .ok (.aload_n 2, 1) := q_tb t_Re_closeText 29 rfl
theorem d_Re_closeText_50 : decode prog_8_method_5_code 50 = .ok (.invokevirtual 87, 3) := q_tb t_Re_closeText 30 rfl
theorem d_Re_closeText_53 : decode prog_8_method_5_code 53 = .ok (.return_, 1) := q_tb t_Re_closeText 31 rfl
def T_Re_addThing0 : List (Nat × Instr × Nat) := [(0, .aload_n 0, 1), (1, .getfield 40, 3), (4, .aload_n 0, 1), (5, .getfield 29, 3), (8, .getfield 54, 3), (11, .if_icmp .ge 49, 3), (14, .aload_n 0, 1), (15, .getfield 29, 3), (18, .aload_n 0, 1), (19, .getfield 40, 3), (22, .invokevirtual 74, 3), (25, .bipush 42, 2), (27, .if_icmp .ne 33, 3), (30, .aload_n 0, 1), (31, .dup, 1), (32, .getfield 40, 3), (35, .iconst 1, 1), (36, .iadd, 1), (37, .putfield 40, 3), (40, .aload_n 1, 1), (41, .aload_n 2, 1), (42, .getfield 123, 3), (45, .aload_n 2, 1), (46, .getfield 126, 3), (49, .invokevirtual 129, 3), (52, .aload_n 2, 1), (53, .iconst 1, 1), (54, .putfield 133, 3), (57, .goto (-57), 3), (60, .aload_n 1, 1), (61, .aload_n 0, 1), (62, .getfield 17, 3), (65, .aload_n 0, 1), (66, .getfield 43, 3), (69, .aaload, 1), (70, .getfield 123, 3), (73, .aload_n 2, 1), (74, .getfield 126, 3), (77, .invokevirtual 129, 3), (80, .aload_n 0, 1)]
set_option maxRecDepth 100000 in
theorem t_Re_addThing0 : ∀ q ∈ T_Re_addThing0, decode prog_8_method_10_code q.1 = .ok q.2 := by decide +kernel
theorem d_Re_addThing_0 : decode prog_8_method_10_code 0 = .ok (.aload_n 0, 1) := q_tb t_Re_addThing0 0 rfl
theorem d_Re_addThing_1 : decode prog_8_method_10_code 1 = .ok (.getfield 40, 3) := q_tb t_Re_addThing0 1 rfl
theorem d_Re_addThing_4 : decode prog_8_method_10_code 4 = .ok (.aload_n 0, 1) := q_tb t_Re_addThing0 2 rfl
theorem d_Re_addThing_5 : decode prog_8_method_10_code 5 = .ok (.getfield 29, 3) := q_tb t_Re_addThing0 3 rfl
theorem d_Re_addThing_8 : decode prog_8_method_10_code 8 = .ok (.getfield 54, 3) := q_tb t_Re_addThing0 4 rfl
theorem d_Re_addThing_11 : decode prog_8_method_10_code 11 = .ok (.if_icmp .ge 49, 3) := q_tb t_Re_addThing0 5 rfl
theorem d_Re_addThing_14 : decode prog_8_method_10_code 14 = .ok (.aload_n 0, 1) := q_tb t_Re_addThing0 6 rfl
theorem d_Re_addThing_15 : decode prog_8_method_10_code 15 = .ok (.getfield 29, 3) := q_tb t_Re_addThing0 7 rfl
theorem d_Re_addThing_18 : decode prog_8_method_10_code 18 = .ok (.aload_n 0, 1) := q_tb t_Re_addThing0 8 rfl
theorem d_Re_addThing_19 : decode prog_8_method_10_code 19 = .ok (.getfield 40, 3) := q_tb t_Re_addThing0 9 rfl
theorem d_Re_addThing_22 : decode prog_8_method_10_code 22 = .ok (.invokevirtual 74, 3) := q_tb t_Re_addThing0 10 rfl
theorem d_Re_addThing_25 : decode prog_8_method_10_code 25 = .ok (.bipush 42, 2) := q_tb t_Re_addThing0 11 rfl
theorem d_Re_addThing_27 : decode prog_8_method_10_code 27 = .ok (.if_icmp .ne 33, 3) := q_tb t_Re_addThing0 12 rfl
theorem d_Re_addThing_30 : decode prog_8_method_10_code 30 = .ok (.aload_n 0, 1) := q_tb t_Re_addThing0 13 rfl
theorem d_Re_addThing_31 : decode prog_8_method_10_code 31 = .ok (.dup, 1) := q_tb t_Re_addThing0 14 rfl
theorem d_Re_addThing_32 : decode prog_8_method_10_code 32 = .ok (.getfield 40, 3) := q_tb t_Re_addThing0 15 rfl
theorem d_Re_addThing_35 : decode prog_8_method_10_code 35 = .ok (.iconst 1, 1) := q_tb t_Re_addThing0 16 rfl
theorem d_Re_addThing_36 : decode prog_8_method_10_code 36 = .ok (.iadd, 1) := q_tb t_Re_addThing0 17 rfl
theorem d_Re_addThing_37 : decode prog_8_method_10_code 37 = .ok (.putfield 40, 3) := q_tb t_Re_addThing0 18 rfl
theorem d_Re_addThing_40 : decode prog_8_method_10_code 40 = .ok (.aload_n 1, 1) := q_tb t_Re_addThing0 19 rfl
theorem d_Re_addThing_41 : decode prog_8_method_10_code 41 = .ok (.aload_n 2, 1) := q_tb t_Re_addThing0 20 rfl
theorem d_Re_addThing_42 : decode prog_8_method_10_code 42 = .ok (.getfield 123, 3) := q_tb t_Re_addThing0 21 rfl
theorem d_Re_addThing_45 : decode prog_8_method_10_code 45 = .ok (.aload_n 2, 1) := q_tb t_Re_addThing0 22 rfl
theorem d_Re_addThing_46 : decode prog_8_method_10_code 46 = .ok (.getfield 126, 3) := q_tb t_Re_addThing0 23 rfl
theorem d_Re_addThing_49 : decode prog_8_method_10_code 49 = .ok (.invokevirtual 129, 3) := q_tb t_Re_addThing0 24 rfl
theorem d_Re_addThing_52 : decode prog_8_method_10_code 52 = .ok (.aload_n 2, 1) := q_tb t_Re_addThing0 25 rfl
theorem d_Re_addThing_53 : decode prog_8_method_10_code 53 = .ok (.iconst 1, 1) := q_tb t_Re_addThing0 26 rfl
theorem d_Re_addThing_54 : decode prog_8_method_10_code 54 = .ok (.putfield 133, 3) := q_tb t_Re_addThing0 27 rfl
theorem d_Re_addThing_57 : decode prog_8_method_10_code 57 = .ok (.goto (-57), 3) := q_tb t_Re_addThing0 28 rfl
theorem d_Re_addThing_60 : decode prog_8_method_10_code 60 = .ok (.aload_n 1, 1) := q_tb t_Re_addThing0 29 rfl
theorem d_Re_addThing_61 : decode prog_8_method_10_code 61 = .ok (.aload_n 0, 1) := q_tb t_Re_addThing0 30 rfl
theorem d_Re_addThing_62 : decode prog_8_method_10_code 62 = .ok (.getfield 17, 3) := q_tb t_Re_addThing0 31 rfl
theorem d_Re_addThing_65 : decode prog_8_method_10_code 65 = .ok (.aload_n 0, 1) := q_tb t_Re_addThing0 32 rfl
theorem d_Re_addThing_66 : decode prog_8_method_10_code 66 = .ok (.getfield 43, 3) := q_tb t_Re_addThing0 33 rfl
theorem d_Re_addThing_69 : decode prog_8_method_10_code 69 = .ok (.aaload, 1) := q_tb t_Re_addThing0 34 rfl
theorem d_Re_addThing_70 : decode prog_8_method_10_code 70 = .ok (.getfield 123, 3) := q_tb t_Re_addThing0 35 rfl
theorem d_Re_addThing_73 : decode prog_8_method_10_code 73 = .ok (.aload_n 2, 1) := q_tb t_Re_addThing0 36 rfl
theorem d_Re_addThing_74 : decode prog_8_method_10_code 74 = .ok (.getfield 126, 3) := q_tb t_Re_addThing0 37 rfl
theorem d_Re_addThing_77 : decode prog_8_method_10_code 77 = .ok (.invokevirtual 129, 3) := q_tb t_Re_addThing0 38 rfl
theorem d_Re_addThing_80 : decode prog_8_method_10_code 80 = .ok (.aload_n 0, 1) := q_tb t_Re_addThing0 39 rfl
def T_Re_addThing1 : List (Nat × Instr × Nat) := [(81, .getfield 17, 3), (84, .aload_n 0, 1), (85, .getfield 43, 3), (88, .aaload, 1), (89, .aload_n 2, 1), (90, .invokevirtual 137, 3), (93, .return_, 1)]
set_option maxRecDepth 100000 in
theorem t_Re_addThing1 : ∀ q ∈ T_Re_addThing1, decode prog_8_method_10_code q.1 = .ok q.2 := by decide +kernel
theorem d_Re_addThing_81 : decode prog_8_method_10_code 81 = .ok (.getfield 17, 3) := q_tb t_Re_addThing1 0 rfl
theorem d_Re_addThing_84 : decode prog_8_method_10_code 84 = .ok (.aload_n 0, 1) := q_tb t_Re_addThing1 1 rfl
theorem d_Re_addThing_85 : decode prog_8_method_10_code 85 = .ok (.getfield 43, 3) := q_tb t_Re_addThing1 2 rfl
theorem d_Re_addThing_88 : decode prog_8_method_10_code 88 = .ok (.aaload, 1) := q_tb t_Re_addThing1 3 rfl
theorem d_Re_addThing_89 : decode prog_8_method_10_code 89 = .ok (.aload_n 2, 1) := q_tb t_Re_addThing1 4 rfl
theorem d_Re_addThing_90 : decode prog_8_method_10_code 90 = .ok (.invokevirtual 137, 3) := q_tb t_Re_addThing1 5 rfl
theorem d_Re_addThing_93 : decode prog_8_method_10_code 93 = .ok (.return_, 1) := q_tb t_Re_addThing1 6 rfl
def T_Co_addSteps : List (Nat × Instr × Nat) := [(0, .iconst 0, 1), (1, .istore_n 3, 1), (2, .iload_n 3, 1), (3, .aload_n 0, 1), (4, .getfield 9, 3), (7, .if_icmp .ge 27, 3), (10, .iload_n 1, 1), (11, .iload_n 3, 1), (12, .ishr, 1), (13, .iconst 1, 1), (14, .iand, 1), (15, .ifCond .eq 13, 3), (18, .aload_n 0, 1), (19, .getfield 15, 3), (22, .iload_n 3, 1), (23, .dup2, 1), (24, .iaload, 1), (25, .iload_n 2, 1), (26, .ior, 1), (27, .iastore, 1), (28, .iinc 3 1, 3), (31, .goto (-29), 3), (34, .return_, 1)]
set_option maxRecDepth 100000 in
theorem t_Co_addSteps : ∀ q ∈ T_Co_addSteps, decode prog_2_method_5_code q.1 = .ok q.2 := by decide +kernel
theorem d_Co_addSteps_0 : decode prog_2_method_5_code 0 = .ok (.iconst 0, 1) := q_tb t_Co_addSteps 0 rfl
theorem d_Co_addSteps_1 : decode prog_2_method_5_code 1 = .ok (.istore_n 3, 1) := q_tb t_Co_addSteps 1 rfl
theorem d_Co_addSteps_2 : decode prog_2_method_5_code 2 = .ok (.iload_n 3, 1) := q_tb t_Co_addSteps 2 rfl
theorem d_Co_addSteps_3 : decode prog_2_method_5_code 3 = .ok (.aload_n 0, 1) := q_tb t_Co_addSteps 3 rfl
theorem d_Co_addSteps_4 : decode prog_2_method_5_code 4 = .ok (.getfield 9, 3) := q_tb t_Co_addSteps 4 rfl
theorem d_Co_addSteps_7 : decode prog_2_method_5_code 7 = .ok (.if_icmp .ge 27, 3) := q_tb t_Co_addSteps 5 rfl
theorem d_Co_addSteps_10 : decode prog_2_method_5_code 10 = .ok (.iload_n 1, 1) := q_tb t_Co_addSteps 6 rfl
theorem d_Co_addSteps_11 : decode prog_2_method_5_code 11 = .ok (.iload_n 3, 1) := q_tb t_Co_addSteps 7 rfl
theorem d_Co_addSteps_12 : decode prog_2_method_5_code 12 = .ok (.ishr, 1) := q_tb t_Co_addSteps 8 rfl
theorem d_Co_addSteps_13 : decode prog_2_method_5_code 13 = .ok (.iconst 1, 1) := q_tb t_Co_addSteps 9 rfl
theorem d_Co_addSteps_14 : decode prog_2_method_5_code 14 = .ok (.iand, 1) := q_tb t_Co_addSteps 10 rfl
theorem d_Co_addSteps_15 : decode prog_2_method_5_code 15 = .ok (.ifCond .eq 13, 3) := q_tb t_Co_addSteps 11 rfl
theorem d_Co_addSteps_18 : decode prog_2_method_5_code 18 = .ok (.aload_n 0, 1) := q_tb t_Co_addSteps 12 rfl
theorem d_Co_addSteps_19 : decode prog_2_method_5_code 19 = .ok (.getfield 15, 3) := q_tb t_Co_addSteps 13 rfl
theorem d_Co_addSteps_22 : decode prog_2_method_5_code 22 = .ok (.iload_n 3, 1) := q_tb t_Co_addSteps 14 rfl
theorem d_Co_addSteps_23 : decode prog_2_method_5_code 23 = .ok (.dup2, 1) := q_tb t_Co_addSteps 15 rfl
theorem d_Co_addSteps_24 : decode prog_2_method_5_code 24 = .ok (.iaload, 1) := q_tb t_Co_addSteps 16 rfl
theorem d_Co_addSteps_25 : decode prog_2_method_5_code 25 = .ok (.iload_n 2, 1) := q_tb t_Co_addSteps 17 rfl
theorem d_Co_addSteps_26 : decode prog_2_method_5_code 26 = .ok (.ior, 1) := q_tb t_Co_addSteps 18 rfl
theorem d_Co_addSteps_27 : decode prog_2_method_5_code 27 = .ok (.iastore, 1) := q_tb t_Co_addSteps 19 rfl
theorem d_Co_addSteps_28 : decode prog_2_method_5_code 28 = .ok (.iinc 3 1, 3) := q_tb t_Co_addSteps 20 rfl
theorem d_Co_addSteps_31 : decode prog_2_method_5_code 31 = .ok (.goto (-29), 3) := q_tb t_Co_addSteps 21 rfl
theorem d_Co_addSteps_34 : decode prog_2_method_5_code 34 = .ok (.return_, 1) := q_tb t_Co_addSteps 22 rfl
def T_Pa_addBehind : List (Nat × Instr × Nat) := [(0, .aload_n 0, 1), (1, .dup, 1), (2, .getfield 13, 3), (5, .aload_n 0, 1), (6, .getfield 7, 3), (9, .ifCond .eq 10, 3), (12, .aload_n 1, 1), (13, .getfield 13, 3), (16, .goto 4, 3), (19, .iconst 0, 1), (20, .ior, 1), (21, .putfield 13, 3), (24, .aload_n 0, 1), (25, .aload_n 1, 1), (26, .getfield 17, 3), (29, .aload_n 1, 1), (30, .getfield 7, 3), (33, .ifCond .eq 10, 3), (36, .aload_n 0, 1), (37, .getfield 17, 3), (40, .goto 4, 3), (43, .iconst 0, 1), (44, .ior, 1), (45, .putfield 17, 3), (48, .aload_n 0, 1), (49, .dup, 1), (50, .getfield 7, 3), (53, .aload_n 1, 1), (54, .getfield 7, 3), (57, .iand, 1), (58, .putfield 7, 3), (61, .return_, 1)]
set_option maxRecDepth 100000 in
theorem t_Pa_addBehind : ∀ q ∈ T_Pa_addBehind, decode prog_3_method_4_code q.1 = .ok q.2 := by decide +kernel
theorem d_Pa_addBehind_0 : decode prog_3_method_4_code 0 = .ok (.aload_n 0, 1) := q_tb t_Pa_addBehind 0 rfl
theorem d_Pa_addBehind_1 : decode prog_3_method_4_code 1 = .ok (.dup, 1) := q_tb t_Pa_addBehind 1 rfl
theorem d_Pa_addBehind_2 : decode prog_3_method_4_code 2 = .ok (.getfield 13, 3) := q_tb t_Pa_addBehind 2 rfl
theorem d_Pa_addBehind_5 : decode prog_3_method_4_code 5 = .ok (.aload_n 0, 1) := q_tb t_Pa_addBehind 3 rfl
theorem d_Pa_addBehind_6 : decode prog_3_method_4_code 6 = .ok (.getfield 7, 3) := q_tb t_Pa_addBehind 4 rfl
theorem d_Pa_addBehind_9 : decode prog_3_method_4_code 9 = .ok (.ifCond .eq 10, 3) := q_tb t_Pa_addBehind 5 rfl
theorem d_Pa_addBehind_12 : decode prog_3_method_4_code 12 = .ok (.aload_n 1, 1) := q_tb t_Pa_addBehind 6 rfl
theorem d_Pa_addBehind_13 : decode prog_3_method_4_code 13 = .ok (.getfield 13, 3) := q_tb t_Pa_addBehind 7 rfl
theorem d_Pa_addBehind_16 : decode prog_3_method_4_code 16 = .ok (.goto 4, 3) := q_tb t_Pa_addBehind 8 rfl
theorem d_Pa_addBehind_19 : decode prog_3_method_4_code 19 = .ok (.iconst 0, 1) := q_tb t_Pa_addBehind 9 rfl
theorem d_Pa_addBehind_20 : decode prog_3_method_4_code 20 = .ok (.ior, 1) := q_tb t_Pa_addBehind 10 rfl
theorem d_Pa_addBehind_21 : decode prog_3_method_4_code 21 = .ok (.putfield 13, 3) := q_tb t_Pa_addBehind 11 rfl
theorem d_Pa_addBehind_24 : decode prog_3_method_4_code 24 = .ok (.aload_n 0, 1) := q_tb t_Pa_addBehind 12 rfl
theorem d_Pa_addBehind_25 : decode prog_3_method_4_code 25 = .ok (.aload_n 1, 1) := q_tb t_Pa_addBehind 13 rfl
theorem d_Pa_addBehind_26 : decode prog_3_method_4_code 26 = .ok (.getfield 17, 3) := q_tb t_Pa_addBehind 14 rfl
theorem d_Pa_addBehind_29 : decode prog_3_method_4_code 29 = .ok (.aload_n 1, 1) := q_tb t_Pa_addBehind 15 rfl
theorem d_Pa_addBehind_30 : decode prog_3_method_4_code 30 = .ok (.getfield 7, 3) := q_tb t_Pa_addBehind 16 rfl
theorem d_Pa_addBehind_33 : decode prog_3_method_4_code 33 = .ok (.ifCond .eq 10, 3) := q_tb t_Pa_addBehind 17 rfl
theorem d_Pa_addBehind_36 : decode prog_3_method_4_code 36 = .ok (.aload_n 0, 1) := q_tb t_Pa_addBehind 18 rfl
theorem d_Pa_addBehind_37 : decode prog_3_method_4_code 37 = .ok (.getfield 17, 3) := q_tb t_Pa_addBehind 19 rfl
theorem d_Pa_addBehind_40 : decode prog_3_method_4_code 40 = .ok (.goto 4, 3) := q_tb t_Pa_addBehind 20 rfl
theorem d_Pa_addBehind_43 : decode prog_3_method_4_code 43 = .ok (.iconst 0, 1) := q_tb t_Pa_addBehind 21 rfl
theorem d_Pa_addBehind_44 : decode prog_3_method_4_code 44 = .ok (.ior, 1) := q_tb t_Pa_addBehind 22 rfl
theorem d_Pa_addBehind_45 : decode prog_3_method_4_code 45 = .ok (.putfield 17, 3) := q_tb t_Pa_addBehind 23 rfl
theorem d_Pa_addBehind_48 : decode prog_3_method_4_code 48 = .ok (.aload_n 0, 1) := q_tb t_Pa_addBehind 24 rfl
theorem d_Pa_addBehind_49 : decode prog_3_method_4_code 49 = .ok (.dup, 1) := q_tb t_Pa_addBehind 25 rfl
theorem d_Pa_addBehind_50 : decode prog_3_method_4_code 50 = .ok (.getfield 7, 3) := q_tb t_Pa_addBehind 26 rfl
theorem d_Pa_addBehind_53 : decode prog_3_method_4_code 53 = .ok (.aload_n 1, 1) := q_tb t_Pa_addBehind 27 rfl
theorem d_Pa_addBehind_54 : decode prog_3_method_4_code 54 = .ok (.getfield 7, 3) := q_tb t_Pa_addBehind 28 rfl
theorem d_Pa_addBehind_57 : decode prog_3_method_4_code 57 = .ok (.iand, 1) := q_tb t_Pa_addBehind 29 rfl
theorem d_Pa_addBehind_58 : decode prog_3_method_4_code 58 = .ok (.putfield 7, 3) := q_tb t_Pa_addBehind 30 rfl
theorem d_Pa_addBehind_61 : decode prog_3_method_4_code 61 = .ok (.return_, 1) := q_tb t_Pa_addBehind 31 rfl
def T_Re_readAct0 : List (Nat × Instr × Nat) := [(0, .aload_n 0, 1), (1, .getfield 29, 3), (4, .aload_n 0, 1), (5, .getfield 40, 3), (8, .invokevirtual 74, 3), (11, .istore_n 2, 1), (12, .iload_n 2, 1), (13, .bipush 97, 2), (15, .isub, 1), (16, .istore_n 3, 1), (17, .iload_n 3, 1), (18, .ifCond .lt 18, 3), (21, .iload_n 3, 1), (22, .aload_n 0, 1), (23, .getfield 33, 3), (26, .getfield 91, 3), (29, .if_icmp .ge 7, 3), (32, .iconst 1, 1), (33, .goto 4, 3), (36, .iconst 0, 1), (37, .istore 4, 2), (39, .iload_n 2, 1), (40, .bipush 46, 2), (42, .if_icmp .eq 14, 3), (45, .iload 4, 2), (47, .ifCond .ne 9, 3), (50, .aload_n 0, 1), (51, .iconst 1, 1), (52, .invokevirtual 63, 3), (55, .return_, 1), (56, .aload_n 1, 1), (57, .invokevirtual 96, 3), (60, .ifCond .eq 9, 3), (63, .aload_n 0, 1), (64, .iconst 2, 1), (65, .invokevirtual 63, 3), (68, .return_, 1), (69, .aload_n 0, 1), (70, .dup, 1), (71, .getfield 40, 3)]
set_option maxRecDepth 100000 in
theorem t_Re_readAct0 : ∀ q ∈ T_Re_readAct0, decode prog_8_method_6_code q.1 = .ok q.2 := by decide +kernel
theorem d_Re_readAct_0 : decode prog_8_method_6_code 0 = .ok (.aload_n 0, 1) := q_tb t_Re_readAct0 0 rfl
theorem d_Re_readAct_1 : decode prog_8_method_6_code 1 = .ok (.getfield 29, 3) := q_tb t_Re_readAct0 1 rfl
theorem d_Re_readAct_4 : decode prog_8_method_6_code 4 = .ok (.aload_n 0, 1) := q_tb t_Re_readAct0 2 rfl
theorem d_Re_readAct_5 : decode prog_8_method_6_code 5 = .ok (.getfield 40, 3) := q_tb t_Re_readAct0 3 rfl
theorem d_Re_readAct_8 : decode prog_8_method_6_code 8 = .ok (.invokevirtual 74, 3) := q_tb t_Re_readAct0 4 rfl
theorem d_Re_readAct_11 : decode prog_8_method_6_code 11 = .ok (.istore_n 2, 1) := q_tb t_Re_readAct0 5 rfl
theorem d_Re_readAct_12 : decode prog_8_method_6_code 12 = .ok (.iload_n 2, 1) := q_tb t_Re_readAct0 6 rfl
theorem d_Re_readAct_13 : decode prog_8_method_6_code 13 = .ok (.bipush 97, 2) := q_tb t_Re_readAct0 7 rfl
theorem d_Re_readAct_15 : decode prog_8_method_6_code 15 = .ok (.isub, 1) := q_tb t_Re_readAct0 8 rfl
theorem d_Re_readAct_16 : decode prog_8_method_6_code 16 = .ok (.istore_n 3, 1) := q_tb t_Re_readAct0 9 rfl
theorem d_Re_readAct_17 : decode prog_8_method_6_code 17 = .ok (.iload_n 3, 1) := q_tb t_Re_readAct0 10 rfl
theorem d_Re_readAct_18 : decode prog_8_method_6_code 18 = .ok (.ifCond .lt 18, 3) := q_tb t_Re_readAct0 11 rfl
theorem d_Re_readAct_21 : decode prog_8_method_6_code 21 = .ok (.iload_n 3, 1) := q_tb t_Re_readAct0 12 rfl
theorem d_Re_readAct_22 : decode prog_8_method_6_code 22 = .ok (.aload_n 0, 1) := q_tb t_Re_readAct0 13 rfl
theorem d_Re_readAct_23 : decode prog_8_method_6_code 23 = .ok (.getfield 33, 3) := q_tb t_Re_readAct0 14 rfl
theorem d_Re_readAct_26 : decode prog_8_method_6_code 26 = .ok (.getfield 91, 3) := q_tb t_Re_readAct0 15 rfl
theorem d_Re_readAct_29 : decode prog_8_method_6_code 29 = .ok (.if_icmp .ge 7, 3) := q_tb t_Re_readAct0 16 rfl
theorem d_Re_readAct_32 : decode prog_8_method_6_code 32 = .ok (.iconst 1, 1) := q_tb t_Re_readAct0 17 rfl
theorem d_Re_readAct_33 : decode prog_8_method_6_code 33 = .ok (.goto 4, 3) := q_tb t_Re_readAct0 18 rfl
theorem d_Re_readAct_36 : decode prog_8_method_6_code 36 = .ok (.iconst 0, 1) := q_tb t_Re_readAct0 19 rfl
theorem d_Re_readAct_37 : decode prog_8_method_6_code 37 = .ok (.istore 4, 2) := q_tb t_Re_readAct0 20 rfl
theorem d_Re_readAct_39 : decode prog_8_method_6_code 39 = .ok (.iload_n 2, 1) := q_tb t_Re_readAct0 21 rfl
theorem d_Re_readAct_40 : decode prog_8_method_6_code 40 = .ok (.bipush 46, 2) := q_tb t_Re_readAct0 22 rfl
theorem d_Re_readAct_42 : decode prog_8_method_6_code 42 = .ok (.if_icmp .eq 14, 3) := q_tb t_Re_readAct0 23 rfl
theorem d_Re_readAct_45 : decode prog_8_method_6_code 45 = .ok (.iload 4, 2) := q_tb t_Re_readAct0 24 rfl
theorem d_Re_readAct_47 : decode prog_8_method_6_code 47 = .ok (.ifCond .ne 9, 3) := q_tb t_Re_readAct0 25 rfl
theorem d_Re_readAct_50 : decode prog_8_method_6_code 50 = .ok (.aload_n 0, 1) := q_tb t_Re_readAct0 26 rfl
theorem d_Re_readAct_51 : decode prog_8_method_6_code 51 = .ok (.iconst 1, 1) := q_tb t_Re_readAct0 27 rfl
theorem d_Re_readAct_52 : decode prog_8_method_6_code 52 = .ok (.invokevirtual 63, 3) := q_tb t_Re_readAct0 28 rfl
theorem d_Re_readAct_55 : decode prog_8_method_6_code 55 = .ok (.return_, 1) := q_tb t_Re_readAct0 29 rfl
theorem d_Re_readAct_56 : decode prog_8_method_6_code 56 = .ok (.aload_n 1, 1) := q_tb t_Re_readAct0 30 rfl
theorem d_Re_readAct_57 : decode prog_8_method_6_code 57 = .ok (.invokevirtual 96, 3) := q_tb t_Re_readAct0 31 rfl
theorem d_Re_readAct_60 : decode prog_8_method_6_code 60 = .ok (.ifCond .eq 9, 3) := q_tb t_Re_readAct0 32 rfl
theorem d_Re_readAct_63 : decode prog_8_method_6_code 63 = .ok (.aload_n 0, 1) := q_tb t_Re_readAct0 33 rfl
theorem d_Re_readAct_64 : decode prog_8_method_6_code 64 = .ok (.iconst 2, 1) := q_tb t_Re_readAct0 34 rfl
theorem d_Re_readAct_65 : decode prog_8_method_6_code 65 = .ok (.invokevirtual 63, 3) := q_tb t_Re_readAct0 35 rfl
theorem d_Re_readAct_68 : decode prog_8_method_6_code 68 = .ok (.return_, 1) := q_tb t_Re_readAct0 36 rfl
theorem d_Re_readAct_69 : decode prog_8_method_6_code 69 = .ok (.aload_n 0, 1) := q_tb t_Re_readAct0 37 rfl
theorem d_Re_readAct_70 : decode prog_8_method_6_code 70 = .ok (.dup, 1) := q_tb t_Re_readAct0 38 rfl
theorem d_Re_readAct_71 : decode prog_8_method_6_code 71 = .ok (.getfield 40, 3) := q_tb t_Re_readAct0 39 rfl
def T_Re_readAct1 : List (Nat × Instr × Nat) := [(74, .iconst 1, 1), (75, .iadd, 1), (76, .putfield 40, 3), (79, .iload 4, 2), (81, .ifCond .eq 7, 3), (84, .iload_n 3, 1), (85, .goto 4, 3), (88, .iconst 0, 1), (89, .istore 5, 2), (91, .iload 4, 2), (93, .ifCond .eq 10, 3), (96, .aload_n 0, 1), (97, .invokevirtual 100, 3), (100, .goto 5, 3), (103, .bipush 46, 2), (105, .istore 6, 2), (107, .iload 6, 2), (109, .invokestatic 104, 3), (112, .ifCond .eq 20, 3), (115, .aload_n 0, 1), (116, .aload_n 0, 1), (117, .getfield 33, 3), (120, .getfield 108, 3), (123, .iload 5, 2), (125, .iaload, 1), (126, .invokevirtual 112, 3), (129, .goto 4, 3), (132, .iconst 0, 1), (133, .istore 7, 2), (135, .aload_n 0, 1), (136, .getfield 37, 3), (139, .ifCond .ne 32, 3), (142, .aload_n 0, 1), (143, .getfield 21, 3), (146, .iconst 0, 1), (147, .iconst 1, 1), (148, .aload_n 1, 1), (149, .iload 6, 2), (151, .iload 5, 2), (153, .iload 7, 2)]
set_option maxRecDepth 100000 in
theorem t_Re_readAct1 : ∀ q ∈ T_Re_readAct1, decode prog_8_method_6_code q.1 = .ok q.2 := by decide +kernel
theorem d_Re_readAct_74 : decode prog_8_method_6_code 74 = .ok (.iconst 1, 1) := q_tb t_Re_readAct1 0 rfl
theorem d_Re_readAct_75 : decode prog_8_method_6_code 75 = .ok (.iadd, 1) := q_tb t_Re_readAct1 1 rfl
theorem d_Re_readAct_76 : decode prog_8_method_6_code 76 = .ok (.putfield 40, 3) := q_tb t_Re_readAct1 2 rfl
theorem d_Re_readAct_79 : decode prog_8_method_6_code 79 = .ok (.iload 4, 2) := q_tb t_Re_readAct1 3 rfl
theorem d_Re_readAct_81 : decode prog_8_method_6_code 81 = .ok (.ifCond .eq 7, 3) := q_tb t_Re_readAct1 4 rfl
theorem d_Re_readAct_84 : decode prog_8_method_6_code 84 = .ok (.iload_n 3, 1) := q_tb t_Re_readAct1 5 rfl
theorem d_Re_readAct_85 : decode prog_8_method_6_code 85 = .ok (.goto 4, 3) := q_tb t_Re_readAct1 6 rfl
theorem d_Re_readAct_88 : decode prog_8_method_6_code 88 = .ok (.iconst 0, 1) := q_tb t_Re_readAct1 7 rfl
theorem d_Re_readAct_89 : decode prog_8_method_6_code 89 = .ok (.istore 5, 2) := q_tb t_Re_readAct1 8 rfl
theorem d_Re_readAct_91 : decode prog_8_method_6_code 91 = .ok (.iload 4, 2) := q_tb t_Re_readAct1 9 rfl
theorem d_Re_readAct_93 : decode prog_8_method_6_code 93 = .ok (.ifCond .eq 10, 3) := q_tb t_Re_readAct1 10 rfl
theorem d_Re_readAct_96 : decode prog_8_method_6_code 96 = .ok (.aload_n 0, 1) := q_tb t_Re_readAct1 11 rfl
theorem d_Re_readAct_97 : decode prog_8_method_6_code 97 = .ok (.invokevirtual 100, 3) := q_tb t_Re_readAct1 12 rfl
theorem d_Re_readAct_100 : decode prog_8_method_6_code 100 = .ok (.goto 5, 3) := q_tb t_Re_readAct1 13 rfl
theorem d_Re_readAct_103 : decode prog_8_method_6_code 103 = .ok (.bipush 46, 2) := q_tb t_Re_readAct1 14 rfl
theorem d_Re_readAct_105 : decode prog_8_method_6_code 105 = .ok (.istore 6, 2) := q_tb t_Re_readAct1 15 rfl
theorem d_Re_readAct_107 : decode prog_8_method_6_code 107 = .ok (.iload 6, 2) := q_tb t_Re_readAct1 16 rfl
theorem d_Re_readAct_109 : decode prog_8_method_6_code 109 = .ok (.invokestatic 104, 3) := q_tb t_Re_readAct1 17 rfl
theorem d_Re_readAct_112 : decode prog_8_method_6_code 112 = .ok (.ifCond .eq 20, 3) := q_tb t_Re_readAct1 18 rfl
theorem d_Re_readAct_115 : decode prog_8_method_6_code 115 = .ok (.aload_n 0, 1) := q_tb t_Re_readAct1 19 rfl
theorem d_Re_readAct_116 : decode prog_8_method_6_code 116 = .ok (.aload_n 0, 1) := q_tb t_Re_readAct1 20 rfl
theorem d_Re_readAct_117 : decode prog_8_method_6_code 117 = .ok (.getfield 33, 3) := q_tb t_Re_readAct1 21 rfl
theorem d_Re_readAct_120 : decode prog_8_method_6_code 120 = .ok (.getfield 108, 3) := q_tb t_Re_readAct1 22 rfl
theorem d_Re_readAct_123 : decode prog_8_method_6_code 123 = .ok (.iload 5, 2) := q_tb t_Re_readAct1 23 rfl
theorem d_Re_readAct_125 : decode prog_8_method_6_code 125 = .ok (.iaload, 1) := q_tb t_Re_readAct1 24 rfl
theorem d_Re_readAct_126 : decode prog_8_method_6_code 126 = .ok (.invokevirtual 112, 3) := q_tb t_Re_readAct1 25 rfl
theorem d_Re_readAct_129 : decode prog_8_method_6_code 129 = .ok (.goto 4, 3) := q_tb t_Re_readAct1 26 rfl
theorem d_Re_readAct_132 : decode prog_8_method_6_code 132 = .ok (.iconst 0, 1) := q_tb t_Re_readAct1 27 rfl
theorem d_Re_readAct_133 : decode prog_8_method_6_code 133 = .ok (.istore 7, 2) := q_tb t_Re_readAct1 28 rfl
theorem d_Re_readAct_135 : decode prog_8_method_6_code 135 = .ok (.aload_n 0, 1) := q_tb t_Re_readAct1 29 rfl
theorem d_Re_readAct_136 : decode prog_8_method_6_code 136 = .ok (.getfield 37, 3) := q_tb t_Re_readAct1 30 rfl
theorem d_Re_readAct_139 : decode prog_8_method_6_code 139 = .ok (.ifCond .ne 32, 3) := q_tb t_Re_readAct1 31 rfl
theorem d_Re_readAct_142 : decode prog_8_method_6_code 142 = .ok (.aload_n 0, 1) := q_tb t_Re_readAct1 32 rfl
theorem d_Re_readAct_143 : decode prog_8_method_6_code 143 = .ok (.getfield 21, 3) := q_tb t_Re_readAct1 33 rfl
theorem d_Re_readAct_146 : decode prog_8_method_6_code 146 = .ok (.iconst 0, 1) := q_tb t_Re_readAct1 34 rfl
theorem d_Re_readAct_147 : decode prog_8_method_6_code 147 = .ok (.iconst 1, 1) := q_tb t_Re_readAct1 35 rfl
theorem d_Re_readAct_148 : decode prog_8_method_6_code 148 = .ok (.aload_n 1, 1) := q_tb t_Re_readAct1 36 rfl
theorem d_Re_readAct_149 : decode prog_8_method_6_code 149 = .ok (.iload 6, 2) := q_tb t_Re_readAct1 37 rfl
theorem d_Re_readAct_151 : decode prog_8_method_6_code 151 = .ok (.iload 5, 2) := q_tb t_Re_readAct1 38 rfl
theorem d_Re_readAct_153 : decode prog_8_method_6_code 153 = .ok (.iload 7, 2) := q_tb t_Re_readAct1 39 rfl
def T_Re_readAct2 : List (Nat × Instr × Nat) := [(155, .invokevirtual 115, 3), (158, .ishl, 1), (159, .invokevirtual 119, 3), (162, .aload_n 0, 1), (163, .aload_n 1, 1), (164, .aload_n 0, 1), (165, .getfield 21, 3), (168, .invokevirtual 87, 3), (171, .return_, 1)]
set_option maxRecDepth 100000 in
theorem t_Re_readAct2 : ∀ q ∈ T_Re_readAct2, decode prog_8_method_6_code q.1 = .ok q.2 := by decide +kernel
theorem d_Re_readAct_155 : decode prog_8_method_6_code 155 = .ok (.invokevirtual 115, 3) := q_tb t_Re_readAct2 0 rfl
theorem d_Re_readAct_158 : decode prog_8_method_6_code 158 = .ok (.ishl, 1) := q_tb t_Re_readAct2 1 rfl
theorem d_Re_readAct_159 : decode prog_8_method_6_code 159 = .ok (.invokevirtual 119, 3) := q_tb t_Re_readAct2 2 rfl
theorem d_Re_readAct_162 : decode prog_8_method_6_code 162 = .ok (.aload_n 0, 1) := q_tb t_Re_readAct2 3 rfl
theorem d_Re_readAct_163 : decode prog_8_method_6_code 163 = .ok (.aload_n 1, 1) := q_tb t_Re_readAct2 4 rfl
theorem d_Re_readAct_164 : decode prog_8_method_6_code 164 = .ok (.aload_n 0, 1) := q_tb t_Re_readAct2 5 rfl
theorem d_Re_readAct_165 : decode prog_8_method_6_code 165 = .ok (.getfield 21, 3) := q_tb t_Re_readAct2 6 rfl
theorem d_Re_readAct_168 : decode prog_8_method_6_code 168 = .ok (.invokevirtual 87, 3) := q_tb t_Re_readAct2 7 rfl
theorem d_Re_readAct_171 : decode prog_8_method_6_code 171 = .ok (.return_, 1) := q_tb t_Re_readAct2 8 rfl
def T_Co_isFull : List (Nat × Instr × Nat) := [(0, .aload_n 0, 1), (1, .getfield 9, 3), (4, .bipush 12, 2), (6, .if_icmp .le 7, 3), (9, .iconst 1, 1), (10, .goto 4, 3), (13, .iconst 0, 1), (14, .ireturn, 1)]
set_option maxRecDepth 100000 in
theorem t_Co_isFull : ∀ q ∈ T_Co_isFull, decode prog_2_method_3_code q.1 = .ok q.2 := by decide +kernel
theorem d_Co_isFull_0 : decode prog_2_method_3_code 0 = .ok (.aload_n 0, 1) := q_tb t_Co_isFull 0 rfl
theorem d_Co_isFull_1 : decode prog_2_method_3_code 1 = .ok (.getfield 9, 3) := q_tb t_Co_isFull 1 rfl
theorem d_Co_isFull_4 : decode prog_2_method_3_code 4 = .ok (.bipush 12, 2) := q_tb t_Co_isFull 2 rfl
theorem d_Co_isFull_6 : decode prog_2_method_3_code 6 = .ok (.if_icmp .le 7, 3) := q_tb t_Co_isFull 3 rfl
theorem d_Co_isFull_9 : decode prog_2_method_3_code 9 = .ok (.iconst 1, 1) := q_tb t_Co_isFull 4 rfl
theorem d_Co_isFull_10 : decode prog_2_method_3_code 10 = .ok (.goto 4, 3) := q_tb t_Co_isFull 5 rfl
theorem d_Co_isFull_13 : decode prog_2_method_3_code 13 = .ok (.iconst 0, 1) := q_tb t_Co_isFull 6 rfl
theorem d_Co_isFull_14 : decode prog_2_method_3_code 14 = .ok (.ireturn, 1) := q_tb t_Co_isFull 7 rfl
def T_Re_readKind : List (Nat × Instr × Nat) := [(0, .aload_n 0, 1), (1, .getfield 29, 3), (4, .aload_n 0, 1), (5, .getfield 40, 3), (8, .invokevirtual 74, 3), (11, .istore_n 1, 1), (12, .iload_n 1, 1), (13, .bipush 43, 2), (15, .if_icmp .eq 23, 3), (18, .iload_n 1, 1), (19, .bipush 45, 2), (21, .if_icmp .eq 17, 3), (24, .iload_n 1, 1), (25, .invokestatic 104, 3), (28, .ifCond .ne 10, 3), (31, .aload_n 0, 1), (32, .iconst 1, 1), (33, .invokevirtual 63, 3), (36, .iconst (-1), 1), (37, .ireturn, 1), (38, .aload_n 0, 1), (39, .dup, 1), (40, .getfield 40, 3), (43, .iconst 1, 1), (44, .iadd, 1), (45, .putfield 40, 3), (48, .iload_n 1, 1), (49, .ireturn, 1)]
set_option maxRecDepth 100000 in
theorem t_Re_readKind : ∀ q ∈ T_Re_readKind, decode prog_8_method_7_code q.1 = .ok q.2 := by decide +kernel
theorem d_Re_readKind_0 : decode prog_8_method_7_code 0 = .ok (.aload_n 0, 1) := q_tb t_Re_readKind 0 rfl
theorem d_Re_readKind_1 : decode prog_8_method_7_code 1 = .ok (.getfield 29, 3) := q_tb t_Re_readKind 1 rfl
theorem d_Re_readKind_4 : decode prog_8_method_7_code 4 = .ok (.aload_n 0, 1) := q_tb t_Re_readKind 2 rfl
theorem d_Re_readKind_5 : decode prog_8_method_7_code 5 = .ok (.getfield 40, 3) := q_tb t_Re_readKind 3 rfl
theorem d_Re_readKind_8 : decode prog_8_method_7_code 8 = .ok (.invokevirtual 74, 3) := q_tb t_Re_readKind 4 rfl
theorem d_Re_readKind_11 : decode prog_8_method_7_code 11 = .ok (.istore_n 1, 1) := q_tb t_Re_readKind 5 rfl
theorem d_Re_readKind_12 : decode prog_8_method_7_code 12 = .ok (.iload_n 1, 1) := q_tb t_Re_readKind 6 rfl
theorem d_Re_readKind_13 : decode prog_8_method_7_code 13 = .ok (.bipush 43, 2) := q_tb t_Re_readKind 7 rfl
theorem d_Re_readKind_15 : decode prog_8_method_7_code 15 = .ok (.if_icmp .eq 23, 3) := q_tb t_Re_readKind 8 rfl
theorem d_Re_readKind_18 : decode prog_8_method_7_code 18 = .ok (.iload_n 1, 1) := q_tb t_Re_readKind 9 rfl
theorem d_Re_readKind_19 : decode prog_8_method_7_code 19 = .ok (.bipush 45, 2) := q_tb t_Re_readKind 10 rfl
theorem d_Re_readKind_21 : decode prog_8_method_7_code 21 = .ok (.if_icmp .eq 17, 3) := q_tb t_Re_readKind 11 rfl
theorem d_Re_readKind_24 : decode prog_8_method_7_code 24 = .ok (.iload_n 1, 1) := q_tb t_Re_readKind 12 rfl
theorem d_Re_readKind_25 : decode prog_8_method_7_code 25 = .ok (.invokestatic 104, 3) := q_tb t_Re_readKind 13 rfl
theorem d_Re_readKind_28 : decode prog_8_method_7_code 28 = .ok (.ifCond .ne 10, 3) := q_tb t_Re_readKind 14 rfl
theorem d_Re_readKind_31 : decode prog_8_method_7_code 31 = .ok (.aload_n 0, 1) := q_tb t_Re_readKind 15 rfl
theorem d_Re_readKind_32 : decode prog_8_method_7_code 32 = .ok (.iconst 1, 1) := q_tb t_Re_readKind 16 rfl
theorem d_Re_readKind_33 : decode prog_8_method_7_code 33 = .ok (.invokevirtual 63, 3) := q_tb t_Re_readKind 17 rfl
theorem d_Re_readKind_36 : decode prog_8_method_7_code 36 = .ok (.iconst (-1), 1) := q_tb t_Re_readKind 18 rfl
theorem d_Re_readKind_37 : decode prog_8_method_7_code 37 = .ok (.ireturn, 1) := q_tb t_Re_readKind 19 rfl
theorem d_Re_readKind_38 : decode prog_8_method_7_code 38 = .ok (.aload_n 0, 1) := q_tb t_Re_readKind 20 rfl
theorem d_Re_readKind_39 : decode prog_8_method_7_code 39 = .ok (.dup, 1) := q_tb t_Re_readKind 21 rfl
theorem d_Re_readKind_40 : decode prog_8_method_7_code 40 = .ok (.getfield 40, 3) := q_tb t_Re_readKind 22 rfl
theorem d_Re_readKind_43 : decode prog_8_method_7_code 43 = .ok (.iconst 1, 1) := q_tb t_Re_readKind 23 rfl
theorem d_Re_readKind_44 : decode prog_8_method_7_code 44 = .ok (.iadd, 1) := q_tb t_Re_readKind 24 rfl
theorem d_Re_readKind_45 : decode prog_8_method_7_code 45 = .ok (.putfield 40, 3) := q_tb t_Re_readKind 25 rfl
theorem d_Re_readKind_48 : decode prog_8_method_7_code 48 = .ok (.iload_n 1, 1) := q_tb t_Re_readKind 26 rfl
theorem d_Re_readKind_49 : decode prog_8_method_7_code 49 = .ok (.ireturn, 1) := q_tb t_Re_readKind 27 rfl
def T_Re_takesFigure : List (Nat × Instr × Nat) := [(0, .iload_n 0, 1), (1, .bipush 61, 2), (3, .if_icmp .eq 15, 3), (6, .iload_n 0, 1), (7, .bipush 63, 2), (9, .if_icmp .eq 9, 3), (12, .iload_n 0, 1), (13, .bipush 33, 2), (15, .if_icmp .ne 7, 3), (18, .iconst 1, 1), (19, .goto 4, 3), (22, .iconst 0, 1), (23, .ireturn, 1)]
set_option maxRecDepth 100000 in
theorem t_Re_takesFigure : ∀ q ∈ T_Re_takesFigure, decode prog_8_method_8_code q.1 = .ok q.2 := by decide +kernel
theorem d_Re_takesFigure_0 : decode prog_8_method_8_code 0 = .ok (.iload_n 0, 1) := q_tb t_Re_takesFigure 0 rfl
theorem d_Re_takesFigure_1 : decode prog_8_method_8_code 1 = .ok (.bipush 61, 2) := q_tb t_Re_takesFigure 1 rfl
theorem d_Re_takesFigure_3 : decode prog_8_method_8_code 3 = .ok (.if_icmp .eq 15, 3) := q_tb t_Re_takesFigure 2 rfl
theorem d_Re_takesFigure_6 : decode prog_8_method_8_code 6 = .ok (.iload_n 0, 1) := q_tb t_Re_takesFigure 3 rfl
theorem d_Re_takesFigure_7 : decode prog_8_method_8_code 7 = .ok (.bipush 63, 2) := q_tb t_Re_takesFigure 4 rfl
theorem d_Re_takesFigure_9 : decode prog_8_method_8_code 9 = .ok (.if_icmp .eq 9, 3) := q_tb t_Re_takesFigure 5 rfl
theorem d_Re_takesFigure_12 : decode prog_8_method_8_code 12 = .ok (.iload_n 0, 1) := q_tb t_Re_takesFigure 6 rfl
theorem d_Re_takesFigure_13 : decode prog_8_method_8_code 13 = .ok (.bipush 33, 2) := q_tb t_Re_takesFigure 7 rfl
theorem d_Re_takesFigure_15 : decode prog_8_method_8_code 15 = .ok (.if_icmp .ne 7, 3) := q_tb t_Re_takesFigure 8 rfl
theorem d_Re_takesFigure_18 : decode prog_8_method_8_code 18 = .ok (.iconst 1, 1) := q_tb t_Re_takesFigure 9 rfl
theorem d_Re_takesFigure_19 : decode prog_8_method_8_code 19 = .ok (.goto 4, 3) := q_tb t_Re_takesFigure 10 rfl
theorem d_Re_takesFigure_22 : decode prog_8_method_8_code 22 = .ok (.iconst 0, 1) := q_tb t_Re_takesFigure 11 rfl
theorem d_Re_takesFigure_23 : decode prog_8_method_8_code 23 = .ok (.ireturn, 1) := q_tb t_Re_takesFigure 12 rfl
def T_Re_readFigure : List (Nat × Instr × Nat) := [(0, .aload_n 0, 1), (1, .getfield 29, 3), (4, .aload_n 0, 1), (5, .getfield 40, 3), (8, .invokevirtual 74, 3), (11, .bipush 48, 2), (13, .isub, 1), (14, .istore_n 2, 1), (15, .iload_n 2, 1), (16, .ifCond .lt 8, 3), (19, .iload_n 2, 1), (20, .iload_n 1, 1), (21, .if_icmp .lt 10, 3), (24, .aload_n 0, 1), (25, .iconst 1, 1), (26, .invokevirtual 63, 3), (29, .iconst (-1), 1), (30, .ireturn, 1), (31, .aload_n 0, 1), (32, .dup, 1), (33, .getfield 40, 3), (36, .iconst 1, 1), (37, .iadd, 1), (38, .putfield 40, 3), (41, .iload_n 2, 1), (42, .ireturn, 1)]
set_option maxRecDepth 100000 in
theorem t_Re_readFigure : ∀ q ∈ T_Re_readFigure, decode prog_8_method_9_code q.1 = .ok q.2 := by decide +kernel
theorem d_Re_readFigure_0 : decode prog_8_method_9_code 0 = .ok (.aload_n 0, 1) := q_tb t_Re_readFigure 0 rfl
theorem d_Re_readFigure_1 : decode prog_8_method_9_code 1 = .ok (.getfield 29, 3) := q_tb t_Re_readFigure 1 rfl
theorem d_Re_readFigure_4 : decode prog_8_method_9_code 4 = .ok (.aload_n 0, 1) := q_tb t_Re_readFigure 2 rfl
theorem d_Re_readFigure_5 : decode prog_8_method_9_code 5 = .ok (.getfield 40, 3) := q_tb t_Re_readFigure 3 rfl
theorem d_Re_readFigure_8 : decode prog_8_method_9_code 8 = .ok (.invokevirtual 74, 3) := q_tb t_Re_readFigure 4 rfl
theorem d_Re_readFigure_11 : decode prog_8_method_9_code 11 = .ok (.bipush 48, 2) := q_tb t_Re_readFigure 5 rfl
theorem d_Re_readFigure_13 : decode prog_8_method_9_code 13 = .ok (.isub, 1) := q_tb t_Re_readFigure 6 rfl
theorem d_Re_readFigure_14 : decode prog_8_method_9_code 14 = .ok (.istore_n 2, 1) := q_tb t_Re_readFigure 7 rfl
theorem d_Re_readFigure_15 : decode prog_8_method_9_code 15 = .ok (.iload_n 2, 1) := q_tb t_Re_readFigure 8 rfl
theorem d_Re_readFigure_16 : decode prog_8_method_9_code 16 = .ok (.ifCond .lt 8, 3) := q_tb t_Re_readFigure 9 rfl
theorem d_Re_readFigure_19 : decode prog_8_method_9_code 19 = .ok (.iload_n 2, 1) := q_tb t_Re_readFigure 10 rfl
theorem d_Re_readFigure_20 : decode prog_8_method_9_code 20 = .ok (.iload_n 1, 1) := q_tb t_Re_readFigure 11 rfl
theorem d_Re_readFigure_21 : decode prog_8_method_9_code 21 = .ok (.if_icmp .lt 10, 3) := q_tb t_Re_readFigure 12 rfl
theorem d_Re_readFigure_24 : decode prog_8_method_9_code 24 = .ok (.aload_n 0, 1) := q_tb t_Re_readFigure 13 rfl
theorem d_Re_readFigure_25 : decode prog_8_method_9_code 25 = .ok (.iconst 1, 1) := q_tb t_Re_readFigure 14 rfl
theorem d_Re_readFigure_26 : decode prog_8_method_9_code 26 = .ok (.invokevirtual 63, 3) := q_tb t_Re_readFigure 15 rfl
theorem d_Re_readFigure_29 : decode prog_8_method_9_code 29 = .ok (.iconst (-1), 1) := q_tb t_Re_readFigure 16 rfl
theorem d_Re_readFigure_30 : decode prog_8_method_9_code 30 = .ok (.ireturn, 1) := q_tb t_Re_readFigure 17 rfl
theorem d_Re_readFigure_31 : decode prog_8_method_9_code 31 = .ok (.aload_n 0, 1) := q_tb t_Re_readFigure 18 rfl
theorem d_Re_readFigure_32 : decode prog_8_method_9_code 32 = .ok (.dup, 1) := q_tb t_Re_readFigure 19 rfl
theorem d_Re_readFigure_33 : decode prog_8_method_9_code 33 = .ok (.getfield 40, 3) := q_tb t_Re_readFigure 20 rfl
theorem d_Re_readFigure_36 : decode prog_8_method_9_code 36 = .ok (.iconst 1, 1) := q_tb t_Re_readFigure 21 rfl
theorem d_Re_readFigure_37 : decode prog_8_method_9_code 37 = .ok (.iadd, 1) := q_tb t_Re_readFigure 22 rfl
theorem d_Re_readFigure_38 : decode prog_8_method_9_code 38 = .ok (.putfield 40, 3) := q_tb t_Re_readFigure 23 rfl
theorem d_Re_readFigure_41 : decode prog_8_method_9_code 41 = .ok (.iload_n 2, 1) := q_tb t_Re_readFigure 24 rfl
theorem d_Re_readFigure_42 : decode prog_8_method_9_code 42 = .ok (.ireturn, 1) := q_tb t_Re_readFigure 25 rfl
def T_Co_addAct : List (Nat × Instr × Nat) := [(0, .aload_n 0, 1), (1, .getfield 9, 3), (4, .istore 4, 2), (6, .aload_n 0, 1), (7, .getfield 19, 3), (10, .iload 4, 2), (12, .iload_n 1, 1), (13, .iastore, 1), (14, .aload_n 0, 1), (15, .getfield 22, 3), (18, .iload 4, 2), (20, .iload_n 2, 1), (21, .iastore, 1), (22, .aload_n 0, 1), (23, .getfield 25, 3), (26, .iload 4, 2), (28, .iload_n 3, 1), (29, .iastore, 1), (30, .aload_n 0, 1), (31, .dup, 1), (32, .getfield 9, 3), (35, .iconst 1, 1), (36, .iadd, 1), (37, .putfield 9, 3), (40, .iload 4, 2), (42, .ireturn, 1)]
set_option maxRecDepth 100000 in
theorem t_Co_addAct : ∀ q ∈ T_Co_addAct, decode prog_2_method_4_code q.1 = .ok q.2 := by decide +kernel
theorem d_Co_addAct_0 : decode prog_2_method_4_code 0 = .ok (.aload_n 0, 1) := q_tb t_Co_addAct 0 rfl
theorem d_Co_addAct_1 : decode prog_2_method_4_code 1 = .ok (.getfield 9, 3) := q_tb t_Co_addAct 1 rfl
theorem d_Co_addAct_4 : decode prog_2_method_4_code 4 = .ok (.istore 4, 2) := q_tb t_Co_addAct 2 rfl
theorem d_Co_addAct_6 : decode prog_2_method_4_code 6 = .ok (.aload_n 0, 1) := q_tb t_Co_addAct 3 rfl
theorem d_Co_addAct_7 : decode prog_2_method_4_code 7 = .ok (.getfield 19, 3) := q_tb t_Co_addAct 4 rfl
theorem d_Co_addAct_10 : decode prog_2_method_4_code 10 = .ok (.iload 4, 2) := q_tb t_Co_addAct 5 rfl
theorem d_Co_addAct_12 : decode prog_2_method_4_code 12 = .ok (.iload_n 1, 1) := q_tb t_Co_addAct 6 rfl
theorem d_Co_addAct_13 : decode prog_2_method_4_code 13 = .ok (.iastore, 1) := q_tb t_Co_addAct 7 rfl
theorem d_Co_addAct_14 : decode prog_2_method_4_code 14 = .ok (.aload_n 0, 1) := q_tb t_Co_addAct 8 rfl
theorem d_Co_addAct_15 : decode prog_2_method_4_code 15 = .ok (.getfield 22, 3) := q_tb t_Co_addAct 9 rfl
theorem d_Co_addAct_18 : decode prog_2_method_4_code 18 = .ok (.iload 4, 2) := q_tb t_Co_addAct 10 rfl
theorem d_Co_addAct_20 : decode prog_2_method_4_code 20 = .ok (.iload_n 2, 1) := q_tb t_Co_addAct 11 rfl
theorem d_Co_addAct_21 : decode prog_2_method_4_code 21 = .ok (.iastore, 1) := q_tb t_Co_addAct 12 rfl
theorem d_Co_addAct_22 : decode prog_2_method_4_code 22 = .ok (.aload_n 0, 1) := q_tb t_Co_addAct 13 rfl
theorem d_Co_addAct_23 : decode prog_2_method_4_code 23 = .ok (.getfield 25, 3) := q_tb t_Co_addAct 14 rfl
theorem d_Co_addAct_26 : decode prog_2_method_4_code 26 = .ok (.iload 4, 2) := q_tb t_Co_addAct 15 rfl
theorem d_Co_addAct_28 : decode prog_2_method_4_code 28 = .ok (.iload_n 3, 1) := q_tb t_Co_addAct 16 rfl
theorem d_Co_addAct_29 : decode prog_2_method_4_code 29 = .ok (.iastore, 1) := q_tb t_Co_addAct 17 rfl
theorem d_Co_addAct_30 : decode prog_2_method_4_code 30 = .ok (.aload_n 0, 1) := q_tb t_Co_addAct 18 rfl
theorem d_Co_addAct_31 : decode prog_2_method_4_code 31 = .ok (.dup, 1) := q_tb t_Co_addAct 19 rfl
theorem d_Co_addAct_32 : decode prog_2_method_4_code 32 = .ok (.getfield 9, 3) := q_tb t_Co_addAct 20 rfl
theorem d_Co_addAct_35 : decode prog_2_method_4_code 35 = .ok (.iconst 1, 1) := q_tb t_Co_addAct 21 rfl
theorem d_Co_addAct_36 : decode prog_2_method_4_code 36 = .ok (.iadd, 1) := q_tb t_Co_addAct 22 rfl
theorem d_Co_addAct_37 : decode prog_2_method_4_code 37 = .ok (.putfield 9, 3) := q_tb t_Co_addAct 23 rfl
theorem d_Co_addAct_40 : decode prog_2_method_4_code 40 = .ok (.iload 4, 2) := q_tb t_Co_addAct 24 rfl
theorem d_Co_addAct_42 : decode prog_2_method_4_code 42 = .ok (.ireturn, 1) := q_tb t_Co_addAct 25 rfl
def T_Co_finish : List (Nat × Instr × Nat) := [(0, .aload_n 0, 1), (1, .getfield 15, 3), (4, .iconst 0, 1), (5, .aload_n 1, 1), (6, .getfield 37, 3), (9, .iastore, 1), (10, .aload_n 0, 1), (11, .aload_n 1, 1), (12, .getfield 42, 3), (15, .aload_n 1, 1), (16, .getfield 45, 3), (19, .ifCond .eq 7, 3), (22, .iconst 1, 1), (23, .goto 4, 3), (26, .iconst 0, 1), (27, .ior, 1), (28, .putfield 28, 3), (31, .return_, 1)]
set_option maxRecDepth 100000 in
theorem t_Co_finish : ∀ q ∈ T_Co_finish, decode prog_2_method_6_code q.1 = .ok q.2 := by decide +kernel
theorem d_Co_finish_0 : decode prog_2_method_6_code 0 = .ok (.aload_n 0, 1) := q_tb t_Co_finish 0 rfl
theorem d_Co_finish_1 : decode prog_2_method_6_code 1 = .ok (.getfield 15, 3) := q_tb t_Co_finish 1 rfl
theorem d_Co_finish_4 : decode prog_2_method_6_code 4 = .ok (.iconst 0, 1) := q_tb t_Co_finish 2 rfl
theorem d_Co_finish_5 : decode prog_2_method_6_code 5 = .ok (.aload_n 1, 1) := q_tb t_Co_finish 3 rfl
theorem d_Co_finish_6 : decode prog_2_method_6_code 6 = .ok (.getfield 37, 3) := q_tb t_Co_finish 4 rfl
theorem d_Co_finish_9 : decode prog_2_method_6_code 9 = .ok (.iastore, 1) := q_tb t_Co_finish 5 rfl
theorem d_Co_finish_10 : decode prog_2_method_6_code 10 = .ok (.aload_n 0, 1) := q_tb t_Co_finish 6 rfl
theorem d_Co_finish_11 : decode prog_2_method_6_code 11 = .ok (.aload_n 1, 1) := q_tb t_Co_finish 7 rfl
theorem d_Co_finish_12 : decode prog_2_method_6_code 12 = .ok (.getfield 42, 3) := q_tb t_Co_finish 8 rfl
theorem d_Co_finish_15 : decode prog_2_method_6_code 15 = .ok (.aload_n 1, 1) := q_tb t_Co_finish 9 rfl
theorem d_Co_finish_16 : decode prog_2_method_6_code 16 = .ok (.getfield 45, 3) := q_tb t_Co_finish 10 rfl
theorem d_Co_finish_19 : decode prog_2_method_6_code 19 = .ok (.ifCond .eq 7, 3) := q_tb t_Co_finish 11 rfl
theorem d_Co_finish_22 : decode prog_2_method_6_code 22 = .ok (.iconst 1, 1) := q_tb t_Co_finish 12 rfl
theorem d_Co_finish_23 : decode prog_2_method_6_code 23 = .ok (.goto 4, 3) := q_tb t_Co_finish 13 rfl
theorem d_Co_finish_26 : decode prog_2_method_6_code 26 = .ok (.iconst 0, 1) := q_tb t_Co_finish 14 rfl
theorem d_Co_finish_27 : decode prog_2_method_6_code 27 = .ok (.ior, 1) := q_tb t_Co_finish 15 rfl
theorem d_Co_finish_28 : decode prog_2_method_6_code 28 = .ok (.putfield 28, 3) := q_tb t_Co_finish 16 rfl
theorem d_Co_finish_31 : decode prog_2_method_6_code 31 = .ok (.return_, 1) := q_tb t_Co_finish 17 rfl
def T_Co_outcome0 : List (Nat × Instr × Nat) := [(0, .aload_n 0, 1), (1, .getfield 19, 3), (4, .iload_n 1, 1), (5, .iaload, 1), (6, .lookupswitch 116 #[(33, 100), (43, 50), (45, 65), (61, 77), (63, 84)], 50), (56, .iload_n 2, 1), (57, .iload_n 3, 1), (58, .iconst 1, 1), (59, .isub, 1), (60, .if_icmp .ge 9, 3), (63, .iload_n 2, 1), (64, .iconst 1, 1), (65, .iadd, 1), (66, .goto 4, 3), (69, .iconst (-1), 1), (70, .ireturn, 1), (71, .iload_n 2, 1), (72, .ifCond .le 9, 3), (75, .iload_n 2, 1), (76, .iconst 1, 1), (77, .isub, 1), (78, .goto 4, 3), (81, .iconst (-1), 1), (82, .ireturn, 1), (83, .aload_n 0, 1), (84, .getfield 25, 3), (87, .iload_n 1, 1), (88, .iaload, 1), (89, .ireturn, 1), (90, .iload_n 2, 1), (91, .aload_n 0, 1), (92, .getfield 25, 3), (95, .iload_n 1, 1), (96, .iaload, 1), (97, .if_icmp .ne 7, 3), (100, .iload_n 2, 1), (101, .goto 4, 3), (104, .iconst (-1), 1), (105, .ireturn, 1), (106, .iload_n 2, 1)]
set_option maxRecDepth 100000 in
theorem t_Co_outcome0 : ∀ q ∈ T_Co_outcome0, decode prog_2_method_9_code q.1 = .ok q.2 := by decide +kernel
theorem d_Co_outcome_0 : decode prog_2_method_9_code 0 = .ok (.aload_n 0, 1) := q_tb t_Co_outcome0 0 rfl
theorem d_Co_outcome_1 : decode prog_2_method_9_code 1 = .ok (.getfield 19, 3) := q_tb t_Co_outcome0 1 rfl
theorem d_Co_outcome_4 : decode prog_2_method_9_code 4 = .ok (.iload_n 1, 1) := q_tb t_Co_outcome0 2 rfl
theorem d_Co_outcome_5 : decode prog_2_method_9_code 5 = .ok (.iaload, 1) := q_tb t_Co_outcome0 3 rfl
theorem d_Co_outcome_6 : decode prog_2_method_9_code 6 = .ok (.lookupswitch 116 #[(33, 100), (43, 50), (45, 65), (61, 77), (63, 84)], 50) := q_tb t_Co_outcome0 4 rfl
theorem d_Co_outcome_56 : decode prog_2_method_9_code 56 = .ok (.iload_n 2, 1) := q_tb t_Co_outcome0 5 rfl
theorem d_Co_outcome_57 : decode prog_2_method_9_code 57 = .ok (.iload_n 3, 1) := q_tb t_Co_outcome0 6 rfl
theorem d_Co_outcome_58 : decode prog_2_method_9_code 58 = .ok (.iconst 1, 1) := q_tb t_Co_outcome0 7 rfl
theorem d_Co_outcome_59 : decode prog_2_method_9_code 59 = .ok (.isub, 1) := q_tb t_Co_outcome0 8 rfl
theorem d_Co_outcome_60 : decode prog_2_method_9_code 60 = .ok (.if_icmp .ge 9, 3) := q_tb t_Co_outcome0 9 rfl
theorem d_Co_outcome_63 : decode prog_2_method_9_code 63 = .ok (.iload_n 2, 1) := q_tb t_Co_outcome0 10 rfl
theorem d_Co_outcome_64 : decode prog_2_method_9_code 64 = .ok (.iconst 1, 1) := q_tb t_Co_outcome0 11 rfl
theorem d_Co_outcome_65 : decode prog_2_method_9_code 65 = .ok (.iadd, 1) := q_tb t_Co_outcome0 12 rfl
theorem d_Co_outcome_66 : decode prog_2_method_9_code 66 = .ok (.goto 4, 3) := q_tb t_Co_outcome0 13 rfl
theorem d_Co_outcome_69 : decode prog_2_method_9_code 69 = .ok (.iconst (-1), 1) := q_tb t_Co_outcome0 14 rfl
theorem d_Co_outcome_70 : decode prog_2_method_9_code 70 = .ok (.ireturn, 1) := q_tb t_Co_outcome0 15 rfl
theorem d_Co_outcome_71 : decode prog_2_method_9_code 71 = .ok (.iload_n 2, 1) := q_tb t_Co_outcome0 16 rfl
theorem d_Co_outcome_72 : decode prog_2_method_9_code 72 = .ok (.ifCond .le 9, 3) := q_tb t_Co_outcome0 17 rfl
theorem d_Co_outcome_75 : decode prog_2_method_9_code 75 = .ok (.iload_n 2, 1) := q_tb t_Co_outcome0 18 rfl
theorem d_Co_outcome_76 : decode prog_2_method_9_code 76 = .ok (.iconst 1, 1) := q_tb t_Co_outcome0 19 rfl
theorem d_Co_outcome_77 : decode prog_2_method_9_code 77 = .ok (.isub, 1) := q_tb t_Co_outcome0 20 rfl
theorem d_Co_outcome_78 : decode prog_2_method_9_code 78 = .ok (.goto 4, 3) := q_tb t_Co_outcome0 21 rfl
theorem d_Co_outcome_81 : decode prog_2_method_9_code 81 = .ok (.iconst (-1), 1) := q_tb t_Co_outcome0 22 rfl
theorem d_Co_outcome_82 : decode prog_2_method_9_code 82 = .ok (.ireturn, 1) := q_tb t_Co_outcome0 23 rfl
theorem d_Co_outcome_83 : decode prog_2_method_9_code 83 = .ok (.aload_n 0, 1) := q_tb t_Co_outcome0 24 rfl
theorem d_Co_outcome_84 : decode prog_2_method_9_code 84 = .ok (.getfield 25, 3) := q_tb t_Co_outcome0 25 rfl
theorem d_Co_outcome_87 : decode prog_2_method_9_code 87 = .ok (.iload_n 1, 1) := q_tb t_Co_outcome0 26 rfl
theorem d_Co_outcome_88 : decode prog_2_method_9_code 88 = .ok (.iaload, 1) := q_tb t_Co_outcome0 27 rfl
theorem d_Co_outcome_89 : decode prog_2_method_9_code 89 = .ok (.ireturn, 1) := q_tb t_Co_outcome0 28 rfl
theorem d_Co_outcome_90 : decode prog_2_method_9_code 90 = .ok (.iload_n 2, 1) := q_tb t_Co_outcome0 29 rfl
theorem d_Co_outcome_91 : decode prog_2_method_9_code 91 = .ok (.aload_n 0, 1) := q_tb t_Co_outcome0 30 rfl
theorem d_Co_outcome_92 : decode prog_2_method_9_code 92 = .ok (.getfield 25, 3) := q_tb t_Co_outcome0 31 rfl
theorem d_Co_outcome_95 : decode prog_2_method_9_code 95 = .ok (.iload_n 1, 1) := q_tb t_Co_outcome0 32 rfl
theorem d_Co_outcome_96 : decode prog_2_method_9_code 96 = .ok (.iaload, 1) := q_tb t_Co_outcome0 33 rfl
theorem d_Co_outcome_97 : decode prog_2_method_9_code 97 = .ok (.if_icmp .ne 7, 3) := q_tb t_Co_outcome0 34 rfl
theorem d_Co_outcome_100 : decode prog_2_method_9_code 100 = .ok (.iload_n 2, 1) := q_tb t_Co_outcome0 35 rfl
theorem d_Co_outcome_101 : decode prog_2_method_9_code 101 = .ok (.goto 4, 3) := q_tb t_Co_outcome0 36 rfl
theorem d_Co_outcome_104 : decode prog_2_method_9_code 104 = .ok (.iconst (-1), 1) := q_tb t_Co_outcome0 37 rfl
theorem d_Co_outcome_105 : decode prog_2_method_9_code 105 = .ok (.ireturn, 1) := q_tb t_Co_outcome0 38 rfl
theorem d_Co_outcome_106 : decode prog_2_method_9_code 106 = .ok (.iload_n 2, 1) := q_tb t_Co_outcome0 39 rfl
def T_Co_outcome1 : List (Nat × Instr × Nat) := [(107, .aload_n 0, 1), (108, .getfield 25, 3), (111, .iload_n 1, 1), (112, .iaload, 1), (113, .if_icmp .eq 7, 3), (116, .iload_n 2, 1), (117, .goto 4, 3), (120, .iconst (-1), 1), (121, .ireturn, 1), (122, .iload_n 2, 1), (123, .ireturn, 1)]
set_option maxRecDepth 100000 in
theorem t_Co_outcome1 : ∀ q ∈ T_Co_outcome1, decode prog_2_method_9_code q.1 = .ok q.2 := by decide +kernel
theorem d_Co_outcome_107 : decode prog_2_method_9_code 107 = .ok (.aload_n 0, 1) := q_tb t_Co_outcome1 0 rfl
theorem d_Co_outcome_108 : decode prog_2_method_9_code 108 = .ok (.getfield 25, 3) := q_tb t_Co_outcome1 1 rfl
theorem d_Co_outcome_111 : decode prog_2_method_9_code 111 = .ok (.iload_n 1, 1) := q_tb t_Co_outcome1 2 rfl
theorem d_Co_outcome_112 : decode prog_2_method_9_code 112 = .ok (.iaload, 1) := q_tb t_Co_outcome1 3 rfl
theorem d_Co_outcome_113 : decode prog_2_method_9_code 113 = .ok (.if_icmp .eq 7, 3) := q_tb t_Co_outcome1 4 rfl
theorem d_Co_outcome_116 : decode prog_2_method_9_code 116 = .ok (.iload_n 2, 1) := q_tb t_Co_outcome1 5 rfl
theorem d_Co_outcome_117 : decode prog_2_method_9_code 117 = .ok (.goto 4, 3) := q_tb t_Co_outcome1 6 rfl
theorem d_Co_outcome_120 : decode prog_2_method_9_code 120 = .ok (.iconst (-1), 1) := q_tb t_Co_outcome1 7 rfl
theorem d_Co_outcome_121 : decode prog_2_method_9_code 121 = .ok (.ireturn, 1) := q_tb t_Co_outcome1 8 rfl
theorem d_Co_outcome_122 : decode prog_2_method_9_code 122 = .ok (.iload_n 2, 1) := q_tb t_Co_outcome1 9 rfl
theorem d_Co_outcome_123 : decode prog_2_method_9_code 123 = .ok (.ireturn, 1) := q_tb t_Co_outcome1 10 rfl
def T_Co_isEnd : List (Nat × Instr × Nat) := [(0, .aload_n 0, 1), (1, .getfield 28, 3), (4, .iload_n 1, 1), (5, .ishr, 1), (6, .iconst 1, 1), (7, .iand, 1), (8, .ifCond .eq 7, 3), (11, .iconst 1, 1), (12, .goto 4, 3), (15, .iconst 0, 1), (16, .ireturn, 1)]
set_option maxRecDepth 100000 in
theorem t_Co_isEnd : ∀ q ∈ T_Co_isEnd, decode prog_2_method_8_code q.1 = .ok q.2 := by decide +kernel
theorem d_Co_isEnd_0 : decode prog_2_method_8_code 0 = .ok (.aload_n 0, 1) := q_tb t_Co_isEnd 0 rfl
theorem d_Co_isEnd_1 : decode prog_2_method_8_code 1 = .ok (.getfield 28, 3) := q_tb t_Co_isEnd 1 rfl
theorem d_Co_isEnd_4 : decode prog_2_method_8_code 4 = .ok (.iload_n 1, 1) := q_tb t_Co_isEnd 2 rfl
theorem d_Co_isEnd_5 : decode prog_2_method_8_code 5 = .ok (.ishr, 1) := q_tb t_Co_isEnd 3 rfl
theorem d_Co_isEnd_6 : decode prog_2_method_8_code 6 = .ok (.iconst 1, 1) := q_tb t_Co_isEnd 4 rfl
theorem d_Co_isEnd_7 : decode prog_2_method_8_code 7 = .ok (.iand, 1) := q_tb t_Co_isEnd 5 rfl
theorem d_Co_isEnd_8 : decode prog_2_method_8_code 8 = .ok (.ifCond .eq 7, 3) := q_tb t_Co_isEnd 6 rfl
theorem d_Co_isEnd_11 : decode prog_2_method_8_code 11 = .ok (.iconst 1, 1) := q_tb t_Co_isEnd 7 rfl
theorem d_Co_isEnd_12 : decode prog_2_method_8_code 12 = .ok (.goto 4, 3) := q_tb t_Co_isEnd 8 rfl
theorem d_Co_isEnd_15 : decode prog_2_method_8_code 15 = .ok (.iconst 0, 1) := q_tb t_Co_isEnd 9 rfl
theorem d_Co_isEnd_16 : decode prog_2_method_8_code 16 = .ok (.ireturn, 1) := q_tb t_Co_isEnd 10 rfl
def T_Ta_append : List (Nat × Instr × Nat) := [(0, .iload_n 1, 1), (1, .bipush 100, 2), (3, .aload_n 0, 1), (4, .getfield 15, 3), (7, .isub, 1), (8, .if_icmp .le 5, 3), (11, .iconst 0, 1), (12, .ireturn, 1), (13, .iconst 0, 1), (14, .istore 4, 2), (16, .iload 4, 2), (18, .iload_n 1, 1), (19, .if_icmp .ge 30, 3), (22, .aload_n 0, 1), (23, .getfield 9, 3), (26, .aload_n 0, 1), (27, .getfield 15, 3), (30, .iload 4, 2), (32, .iadd, 1), (33, .lload_n 2, 1), (34, .bipush 8, 2), (36, .iload 4, 2), (38, .imul, 1), (39, .lushr, 1), (40, .l2i, 1), (41, .i2b, 1), (42, .bastore, 1), (43, .iinc 4 1, 3), (46, .goto (-30), 3), (49, .aload_n 0, 1), (50, .dup, 1), (51, .getfield 15, 3), (54, .iload_n 1, 1), (55, .iadd, 1), (56, .putfield 15, 3), (59, .iconst 1, 1), (60, .ireturn, 1)]
set_option maxRecDepth 100000 in
theorem t_Ta_append : ∀ q ∈ T_Ta_append, decode prog_7_method_2_code q.1 = .ok q.2 := by decide +kernel
theorem d_Ta_append_0 : decode prog_7_method_2_code 0 = .ok (.iload_n 1, 1) := q_tb t_Ta_append 0 rfl
theorem d_Ta_append_1 : decode prog_7_method_2_code 1 = .ok (.bipush 100, 2) := q_tb t_Ta_append 1 rfl
theorem d_Ta_append_3 : decode prog_7_method_2_code 3 = .ok (.aload_n 0, 1) := q_tb t_Ta_append 2 rfl
theorem d_Ta_append_4 : decode prog_7_method_2_code 4 = .ok (.getfield 15, 3) := q_tb t_Ta_append 3 rfl
theorem d_Ta_append_7 : decode prog_7_method_2_code 7 = .ok (.isub, 1) := q_tb t_Ta_append 4 rfl
theorem d_Ta_append_8 : decode prog_7_method_2_code 8 = .ok (.if_icmp .le 5, 3) := q_tb t_Ta_append 5 rfl
theorem d_Ta_append_11 : decode prog_7_method_2_code 11 = .ok (.iconst 0, 1) := q_tb t_Ta_append 6 rfl
theorem d_Ta_append_12 : decode prog_7_method_2_code 12 = .ok (.ireturn, 1) := q_tb t_Ta_append 7 rfl
theorem d_Ta_append_13 : decode prog_7_method_2_code 13 = .ok (.iconst 0, 1) := q_tb t_Ta_append 8 rfl
theorem d_Ta_append_14 : decode prog_7_method_2_code 14 = .ok (.istore 4, 2) := q_tb t_Ta_append 9 rfl
theorem d_Ta_append_16 : decode prog_7_method_2_code 16 = .ok (.iload 4, 2) := q_tb t_Ta_append 10 rfl
theorem d_Ta_append_18 : decode prog_7_method_2_code 18 = .ok (.iload_n 1, 1) := q_tb t_Ta_append 11 rfl
theorem d_Ta_append_19 : decode prog_7_method_2_code 19 = .ok (.if_icmp .ge 30, 3) := q_tb t_Ta_append 12 rfl
theorem d_Ta_append_22 : decode prog_7_method_2_code 22 = .ok (.aload_n 0, 1) := q_tb t_Ta_append 13 rfl
theorem d_Ta_append_23 : decode prog_7_method_2_code 23 = .ok (.getfield 9, 3) := q_tb t_Ta_append 14 rfl
theorem d_Ta_append_26 : decode prog_7_method_2_code 26 = .ok (.aload_n 0, 1) := q_tb t_Ta_append 15 rfl
theorem d_Ta_append_27 : decode prog_7_method_2_code 27 = .ok (.getfield 15, 3) := q_tb t_Ta_append 16 rfl
theorem d_Ta_append_30 : decode prog_7_method_2_code 30 = .ok (.iload 4, 2) := q_tb t_Ta_append 17 rfl
theorem d_Ta_append_32 : decode prog_7_method_2_code 32 = .ok (.iadd, 1) := q_tb t_Ta_append 18 rfl
theorem d_Ta_append_33 : decode prog_7_method_2_code 33 = .ok (.lload_n 2, 1) := q_tb t_Ta_append 19 rfl
theorem d_Ta_append_34 : decode prog_7_method_2_code 34 = .ok (.bipush 8, 2) := q_tb t_Ta_append 20 rfl
theorem d_Ta_append_36 : decode prog_7_method_2_code 36 = .ok (.iload 4, 2) := q_tb t_Ta_append 21 rfl
theorem d_Ta_append_38 : decode prog_7_method_2_code 38 = .ok (.imul, 1) := q_tb t_Ta_append 22 rfl
theorem d_Ta_append_39 : decode prog_7_method_2_code 39 = .ok (.lushr, 1) := q_tb t_Ta_append 23 rfl
theorem d_Ta_append_40 : decode prog_7_method_2_code 40 = .ok (.l2i, 1) := q_tb t_Ta_append 24 rfl
theorem d_Ta_append_41 : decode prog_7_method_2_code 41 = .ok (.i2b, 1) := q_tb t_Ta_append 25 rfl
theorem d_Ta_append_42 : decode prog_7_method_2_code 42 = .ok (.bastore, 1) := q_tb t_Ta_append 26 rfl
theorem d_Ta_append_43 : decode prog_7_method_2_code 43 = .ok (.iinc 4 1, 3) := q_tb t_Ta_append 27 rfl
theorem d_Ta_append_46 : decode prog_7_method_2_code 46 = .ok (.goto (-30), 3) := q_tb t_Ta_append 28 rfl
theorem d_Ta_append_49 : decode prog_7_method_2_code 49 = .ok (.aload_n 0, 1) := q_tb t_Ta_append 29 rfl
theorem d_Ta_append_50 : decode prog_7_method_2_code 50 = .ok (.dup, 1) := q_tb t_Ta_append 30 rfl
theorem d_Ta_append_51 : decode prog_7_method_2_code 51 = .ok (.getfield 15, 3) := q_tb t_Ta_append 31 rfl
theorem d_Ta_append_54 : decode prog_7_method_2_code 54 = .ok (.iload_n 1, 1) := q_tb t_Ta_append 32 rfl
theorem d_Ta_append_55 : decode prog_7_method_2_code 55 = .ok (.iadd, 1) := q_tb t_Ta_append 33 rfl
theorem d_Ta_append_56 : decode prog_7_method_2_code 56 = .ok (.putfield 15, 3) := q_tb t_Ta_append 34 rfl
theorem d_Ta_append_59 : decode prog_7_method_2_code 59 = .ok (.iconst 1, 1) := q_tb t_Ta_append 35 rfl
theorem d_Ta_append_60 : decode prog_7_method_2_code 60 = .ok (.ireturn, 1) := q_tb t_Ta_append 36 rfl
def T_Co_countSteps : List (Nat × Instr × Nat) := [(0, .iconst 0, 1), (1, .istore_n 1, 1), (2, .iconst 0, 1), (3, .istore_n 2, 1), (4, .iload_n 2, 1), (5, .aload_n 0, 1), (6, .getfield 9, 3), (9, .if_icmp .ge 21, 3), (12, .iload_n 1, 1), (13, .aload_n 0, 1), (14, .getfield 15, 3), (17, .iload_n 2, 1), (18, .iaload, 1), (19, .invokestatic 49, 3), (22, .iadd, 1), (23, .istore_n 1, 1), (24, .iinc 2 1, 3), (27, .goto (-23), 3), (30, .iload_n 1, 1), (31, .ireturn, 1)]
set_option maxRecDepth 100000 in
theorem t_Co_countSteps : ∀ q ∈ T_Co_countSteps, decode prog_2_method_7_code q.1 = .ok q.2 := by decide +kernel
theorem d_Co_countSteps_0 : decode prog_2_method_7_code 0 = .ok (.iconst 0, 1) := q_tb t_Co_countSteps 0 rfl
theorem d_Co_countSteps_1 : decode prog_2_method_7_code 1 = .ok (.istore_n 1, 1) := q_tb t_Co_countSteps 1 rfl
theorem d_Co_countSteps_2 : decode prog_2_method_7_code 2 = .ok (.iconst 0, 1) := q_tb t_Co_countSteps 2 rfl
theorem d_Co_countSteps_3 : decode prog_2_method_7_code 3 = .ok (.istore_n 2, 1) := q_tb t_Co_countSteps 3 rfl
theorem d_Co_countSteps_4 : decode prog_2_method_7_code 4 = .ok (.iload_n 2, 1) := q_tb t_Co_countSteps 4 rfl
theorem d_Co_countSteps_5 : decode prog_2_method_7_code 5 = .ok (.aload_n 0, 1) := q_tb t_Co_countSteps 5 rfl
theorem d_Co_countSteps_6 : decode prog_2_method_7_code 6 = .ok (.getfield 9, 3) := q_tb t_Co_countSteps 6 rfl
theorem d_Co_countSteps_9 : decode prog_2_method_7_code 9 = .ok (.if_icmp .ge 21, 3) := q_tb t_Co_countSteps 7 rfl
theorem d_Co_countSteps_12 : decode prog_2_method_7_code 12 = .ok (.iload_n 1, 1) := q_tb t_Co_countSteps 8 rfl
theorem d_Co_countSteps_13 : decode prog_2_method_7_code 13 = .ok (.aload_n 0, 1) := q_tb t_Co_countSteps 9 rfl
theorem d_Co_countSteps_14 : decode prog_2_method_7_code 14 = .ok (.getfield 15, 3) := q_tb t_Co_countSteps 10 rfl
theorem d_Co_countSteps_17 : decode prog_2_method_7_code 17 = .ok (.iload_n 2, 1) := q_tb t_Co_countSteps 11 rfl
theorem d_Co_countSteps_18 : decode prog_2_method_7_code 18 = .ok (.iaload, 1) := q_tb t_Co_countSteps 12 rfl
theorem d_Co_countSteps_19 : decode prog_2_method_7_code 19 = .ok (.invokestatic 49, 3) := q_tb t_Co_countSteps 13 rfl
theorem d_Co_countSteps_22 : decode prog_2_method_7_code 22 = .ok (.iadd, 1) := q_tb t_Co_countSteps 14 rfl
theorem d_Co_countSteps_23 : decode prog_2_method_7_code 23 = .ok (.istore_n 1, 1) := q_tb t_Co_countSteps 15 rfl
theorem d_Co_countSteps_24 : decode prog_2_method_7_code 24 = .ok (.iinc 2 1, 3) := q_tb t_Co_countSteps 16 rfl
theorem d_Co_countSteps_27 : decode prog_2_method_7_code 27 = .ok (.goto (-23), 3) := q_tb t_Co_countSteps 17 rfl
theorem d_Co_countSteps_30 : decode prog_2_method_7_code 30 = .ok (.iload_n 1, 1) := q_tb t_Co_countSteps 18 rfl
theorem d_Co_countSteps_31 : decode prog_2_method_7_code 31 = .ok (.ireturn, 1) := q_tb t_Co_countSteps 19 rfl
end NAMES3
