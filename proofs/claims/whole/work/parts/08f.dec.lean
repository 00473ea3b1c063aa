/-! names, 3f: decode tables, printed by gen/names2.py -/
section NAMES3
def T_La_feed : List (Nat × Instr × Nat) := [(0, .aload 4, 2), (2, .iconst 0, 1), (3, .aload_n 0, 1), (4, .iload_n 1, 1), (5, .lload_n 2, 1), (6, .invokevirtual 7, 3), (9, .i2l, 1), (10, .lastore, 1), (11, .goto 7, 3), (14, .astore 5, 2), (16, .iconst 1, 1), (17, .ireturn, 1), (18, .iconst 0, 1), (19, .ireturn, 1)]
set_option maxRecDepth 100000 in
theorem t_La_feed : ∀ q ∈ T_La_feed, decode method_3_code q.1 = .ok q.2 := by decide +kernel
theorem d_La_feed_0 : decode method_3_code 0 = .ok (.aload 4, 2) := q_tb t_La_feed 0 rfl
theorem d_La_feed_2 : decode method_3_code 2 = .ok (.iconst 0, 1) := q_tb t_La_feed 1 rfl
theorem d_La_feed_3 : decode method_3_code 3 = .ok (.aload_n 0, 1) := q_tb t_La_feed 2 rfl
theorem d_La_feed_4 : decode method_3_code 4 = .ok (.iload_n 1, 1) := q_tb t_La_feed 3 rfl
theorem d_La_feed_5 : decode method_3_code 5 = .ok (.lload_n 2, 1) := q_tb t_La_feed 4 rfl
theorem d_La_feed_6 : decode method_3_code 6 = .ok (.invokevirtual 7, 3) := q_tb t_La_feed 5 rfl
theorem d_La_feed_9 : decode method_3_code 9 = .ok (.i2l, 1) := q_tb t_La_feed 6 rfl
theorem d_La_feed_10 : decode method_3_code 10 = .ok (.lastore, 1) := q_tb t_La_feed 7 rfl
theorem d_La_feed_11 : decode method_3_code 11 = .ok (.goto 7, 3) := q_tb t_La_feed 8 rfl
theorem d_La_feed_14 : decode method_3_code 14 = .ok (.astore 5, 2) := q_tb t_La_feed 9 rfl
theorem d_La_feed_16 : decode method_3_code 16 = .ok (.iconst 1, 1) := q_tb t_La_feed 10 rfl
theorem d_La_feed_17 : decode method_3_code 17 = .ok (.ireturn, 1) := q_tb t_La_feed 11 rfl
theorem d_La_feed_18 : decode method_3_code 18 = .ok (.iconst 0, 1) := q_tb t_La_feed 12 rfl
theorem d_La_feed_19 : decode method_3_code 19 = .ok (.ireturn, 1) := q_tb t_La_feed 13 rfl
def T_La_variable : List (Nat × Instr × Nat) := [(0, .aload_n 3, 1), (1, .iconst 0, 1), (2, .aload_n 0, 1), (3, .iload_n 1, 1), (4, .iload_n 2, 1), (5, .invokevirtual 15, 3), (8, .i2l, 1), (9, .lastore, 1), (10, .goto 7, 3), (13, .astore 4, 2), (15, .iconst 1, 1), (16, .ireturn, 1), (17, .iconst 0, 1), (18, .ireturn, 1)]
set_option maxRecDepth 100000 in
theorem t_La_variable : ∀ q ∈ T_La_variable, decode method_4_code q.1 = .ok q.2 := by decide +kernel
theorem d_La_variable_0 : decode method_4_code 0 = .ok (.aload_n 3, 1) := q_tb t_La_variable 0 rfl
theorem d_La_variable_1 : decode method_4_code 1 = .ok (.iconst 0, 1) := q_tb t_La_variable 1 rfl
theorem d_La_variable_2 : decode method_4_code 2 = .ok (.aload_n 0, 1) := q_tb t_La_variable 2 rfl
theorem d_La_variable_3 : decode method_4_code 3 = .ok (.iload_n 1, 1) := q_tb t_La_variable 3 rfl
theorem d_La_variable_4 : decode method_4_code 4 = .ok (.iload_n 2, 1) := q_tb t_La_variable 4 rfl
theorem d_La_variable_5 : decode method_4_code 5 = .ok (.invokevirtual 15, 3) := q_tb t_La_variable 5 rfl
theorem d_La_variable_8 : decode method_4_code 8 = .ok (.i2l, 1) := q_tb t_La_variable 6 rfl
theorem d_La_variable_9 : decode method_4_code 9 = .ok (.lastore, 1) := q_tb t_La_variable 7 rfl
theorem d_La_variable_10 : decode method_4_code 10 = .ok (.goto 7, 3) := q_tb t_La_variable 8 rfl
theorem d_La_variable_13 : decode method_4_code 13 = .ok (.astore 4, 2) := q_tb t_La_variable 9 rfl
theorem d_La_variable_15 : decode method_4_code 15 = .ok (.iconst 1, 1) := q_tb t_La_variable 10 rfl
theorem d_La_variable_16 : decode method_4_code 16 = .ok (.ireturn, 1) := q_tb t_La_variable 11 rfl
theorem d_La_variable_17 : decode method_4_code 17 = .ok (.iconst 0, 1) := q_tb t_La_variable 12 rfl
theorem d_La_variable_18 : decode method_4_code 18 = .ok (.ireturn, 1) := q_tb t_La_variable 13 rfl
def T_La_told : List (Nat × Instr × Nat) := [(0, .aload_n 3, 1), (1, .iconst 0, 1), (2, .aload_n 0, 1), (3, .iload_n 1, 1), (4, .iload_n 2, 1), (5, .invokevirtual 19, 3), (8, .i2l, 1), (9, .lastore, 1), (10, .goto 11, 3), (13, .astore 4, 2), (15, .iconst 1, 1), (16, .ireturn, 1), (17, .astore 4, 2), (19, .iconst 2, 1), (20, .ireturn, 1), (21, .iconst 0, 1), (22, .ireturn, 1)]
set_option maxRecDepth 100000 in
theorem t_La_told : ∀ q ∈ T_La_told, decode method_5_code q.1 = .ok q.2 := by decide +kernel
theorem d_La_told_0 : decode method_5_code 0 = .ok (.aload_n 3, 1) := q_tb t_La_told 0 rfl
theorem d_La_told_1 : decode method_5_code 1 = .ok (.iconst 0, 1) := q_tb t_La_told 1 rfl
theorem d_La_told_2 : decode method_5_code 2 = .ok (.aload_n 0, 1) := q_tb t_La_told 2 rfl
theorem d_La_told_3 : decode method_5_code 3 = .ok (.iload_n 1, 1) := q_tb t_La_told 3 rfl
theorem d_La_told_4 : decode method_5_code 4 = .ok (.iload_n 2, 1) := q_tb t_La_told 4 rfl
theorem d_La_told_5 : decode method_5_code 5 = .ok (.invokevirtual 19, 3) := q_tb t_La_told 5 rfl
theorem d_La_told_8 : decode method_5_code 8 = .ok (.i2l, 1) := q_tb t_La_told 6 rfl
theorem d_La_told_9 : decode method_5_code 9 = .ok (.lastore, 1) := q_tb t_La_told 7 rfl
theorem d_La_told_10 : decode method_5_code 10 = .ok (.goto 11, 3) := q_tb t_La_told 8 rfl
theorem d_La_told_13 : decode method_5_code 13 = .ok (.astore 4, 2) := q_tb t_La_told 9 rfl
theorem d_La_told_15 : decode method_5_code 15 = .ok (.iconst 1, 1) := q_tb t_La_told 10 rfl
theorem d_La_told_16 : decode method_5_code 16 = .ok (.ireturn, 1) := q_tb t_La_told 11 rfl
theorem d_La_told_17 : decode method_5_code 17 = .ok (.astore 4, 2) := q_tb t_La_told 12 rfl
theorem d_La_told_19 : decode method_5_code 19 = .ok (.iconst 2, 1) := q_tb t_La_told 13 rfl
theorem d_La_told_20 : decode method_5_code 20 = .ok (.ireturn, 1) := q_tb t_La_told 14 rfl
theorem d_La_told_21 : decode method_5_code 21 = .ok (.iconst 0, 1) := q_tb t_La_told 15 rfl
theorem d_La_told_22 : decode method_5_code 22 = .ok (.ireturn, 1) := q_tb t_La_told 16 rfl
def T_La_place : List (Nat × Instr × Nat) := [(0, .aload_n 3, 1), (1, .iconst 0, 1), (2, .aload_n 0, 1), (3, .iload_n 1, 1), (4, .iload_n 2, 1), (5, .invokevirtual 24, 3), (8, .i2l, 1), (9, .lastore, 1), (10, .goto 11, 3), (13, .astore 4, 2), (15, .iconst 1, 1), (16, .ireturn, 1), (17, .astore 4, 2), (19, .iconst 2, 1), (20, .ireturn, 1), (21, .iconst 0, 1), (22, .ireturn, 1)]
set_option maxRecDepth 100000 in
theorem t_La_place : ∀ q ∈ T_La_place, decode method_6_code q.1 = .ok q.2 := by decide +kernel
theorem d_La_place_0 : decode method_6_code 0 = .ok (.aload_n 3, 1) := q_tb t_La_place 0 rfl
theorem d_La_place_1 : decode method_6_code 1 = .ok (.iconst 0, 1) := q_tb t_La_place 1 rfl
theorem d_La_place_2 : decode method_6_code 2 = .ok (.aload_n 0, 1) := q_tb t_La_place 2 rfl
theorem d_La_place_3 : decode method_6_code 3 = .ok (.iload_n 1, 1) := q_tb t_La_place 3 rfl
theorem d_La_place_4 : decode method_6_code 4 = .ok (.iload_n 2, 1) := q_tb t_La_place 4 rfl
theorem d_La_place_5 : decode method_6_code 5 = .ok (.invokevirtual 24, 3) := q_tb t_La_place 5 rfl
theorem d_La_place_8 : decode method_6_code 8 = .ok (.i2l, 1) := q_tb t_La_place 6 rfl
theorem d_La_place_9 : decode method_6_code 9 = .ok (.lastore, 1) := q_tb t_La_place 7 rfl
theorem d_La_place_10 : decode method_6_code 10 = .ok (.goto 11, 3) := q_tb t_La_place 8 rfl
theorem d_La_place_13 : decode method_6_code 13 = .ok (.astore 4, 2) := q_tb t_La_place 9 rfl
theorem d_La_place_15 : decode method_6_code 15 = .ok (.iconst 1, 1) := q_tb t_La_place 10 rfl
theorem d_La_place_16 : decode method_6_code 16 = .ok (.ireturn, 1) := q_tb t_La_place 11 rfl
theorem d_La_place_17 : decode method_6_code 17 = .ok (.astore 4, 2) := q_tb t_La_place 12 rfl
theorem d_La_place_19 : decode method_6_code 19 = .ok (.iconst 2, 1) := q_tb t_La_place 13 rfl
theorem d_La_place_20 : decode method_6_code 20 = .ok (.ireturn, 1) := q_tb t_La_place 14 rfl
theorem d_La_place_21 : decode method_6_code 21 = .ok (.iconst 0, 1) := q_tb t_La_place 15 rfl
theorem d_La_place_22 : decode method_6_code 22 = .ok (.ireturn, 1) := q_tb t_La_place 16 rfl
def T_La_value : List (Nat × Instr × Nat) := [(0, .aload_n 3, 1), (1, .iconst 0, 1), (2, .aload_n 0, 1), (3, .iload_n 1, 1), (4, .iload_n 2, 1), (5, .invokevirtual 29, 3), (8, .i2l, 1), (9, .lastore, 1), (10, .goto 11, 3), (13, .astore 4, 2), (15, .iconst 1, 1), (16, .ireturn, 1), (17, .astore 4, 2), (19, .iconst 2, 1), (20, .ireturn, 1), (21, .iconst 0, 1), (22, .ireturn, 1)]
set_option maxRecDepth 100000 in
theorem t_La_value : ∀ q ∈ T_La_value, decode method_7_code q.1 = .ok q.2 := by decide +kernel
theorem d_La_value_0 : decode method_7_code 0 = .ok (.aload_n 3, 1) := q_tb t_La_value 0 rfl
theorem d_La_value_1 : decode method_7_code 1 = .ok (.iconst 0, 1) := q_tb t_La_value 1 rfl
theorem d_La_value_2 : decode method_7_code 2 = .ok (.aload_n 0, 1) := q_tb t_La_value 2 rfl
theorem d_La_value_3 : decode method_7_code 3 = .ok (.iload_n 1, 1) := q_tb t_La_value 3 rfl
theorem d_La_value_4 : decode method_7_code 4 = .ok (.iload_n 2, 1) := q_tb t_La_value 4 rfl
theorem d_La_value_5 : decode method_7_code 5 = .ok (.invokevirtual 29, 3) := q_tb t_La_value 5 rfl
theorem d_La_value_8 : decode method_7_code 8 = .ok (.i2l, 1) := q_tb t_La_value 6 rfl
theorem d_La_value_9 : decode method_7_code 9 = .ok (.lastore, 1) := q_tb t_La_value 7 rfl
theorem d_La_value_10 : decode method_7_code 10 = .ok (.goto 11, 3) := q_tb t_La_value 8 rfl
theorem d_La_value_13 : decode method_7_code 13 = .ok (.astore 4, 2) := q_tb t_La_value 9 rfl
theorem d_La_value_15 : decode method_7_code 15 = .ok (.iconst 1, 1) := q_tb t_La_value 10 rfl
theorem d_La_value_16 : decode method_7_code 16 = .ok (.ireturn, 1) := q_tb t_La_value 11 rfl
theorem d_La_value_17 : decode method_7_code 17 = .ok (.astore 4, 2) := q_tb t_La_value 12 rfl
theorem d_La_value_19 : decode method_7_code 19 = .ok (.iconst 2, 1) := q_tb t_La_value 13 rfl
theorem d_La_value_20 : decode method_7_code 20 = .ok (.ireturn, 1) := q_tb t_La_value 14 rfl
theorem d_La_value_21 : decode method_7_code 21 = .ok (.iconst 0, 1) := q_tb t_La_value 15 rfl
theorem d_La_value_22 : decode method_7_code 22 = .ok (.ireturn, 1) := q_tb t_La_value 16 rfl
def T_La_move : List (Nat × Instr × Nat) := [(0, .aload_n 2, 1), (1, .iconst 0, 1), (2, .aload_n 0, 1), (3, .iload_n 1, 1), (4, .invokevirtual 32, 3), (7, .i2l, 1), (8, .lastore, 1), (9, .goto 6, 3), (12, .astore_n 3, 1), (13, .iconst 1, 1), (14, .ireturn, 1), (15, .iconst 0, 1), (16, .ireturn, 1)]
set_option maxRecDepth 100000 in
theorem t_La_move : ∀ q ∈ T_La_move, decode method_8_code q.1 = .ok q.2 := by decide +kernel
theorem d_La_move_0 : decode method_8_code 0 = .ok (.aload_n 2, 1) := q_tb t_La_move 0 rfl
theorem d_La_move_1 : decode method_8_code 1 = .ok (.iconst 0, 1) := q_tb t_La_move 1 rfl
theorem d_La_move_2 : decode method_8_code 2 = .ok (.aload_n 0, 1) := q_tb t_La_move 2 rfl
theorem d_La_move_3 : decode method_8_code 3 = .ok (.iload_n 1, 1) := q_tb t_La_move 3 rfl
theorem d_La_move_4 : decode method_8_code 4 = .ok (.invokevirtual 32, 3) := q_tb t_La_move 4 rfl
theorem d_La_move_7 : decode method_8_code 7 = .ok (.i2l, 1) := q_tb t_La_move 5 rfl
theorem d_La_move_8 : decode method_8_code 8 = .ok (.lastore, 1) := q_tb t_La_move 6 rfl
theorem d_La_move_9 : decode method_8_code 9 = .ok (.goto 6, 3) := q_tb t_La_move 7 rfl
theorem d_La_move_12 : decode method_8_code 12 = .ok (.astore_n 3, 1) := q_tb t_La_move 8 rfl
theorem d_La_move_13 : decode method_8_code 13 = .ok (.iconst 1, 1) := q_tb t_La_move 9 rfl
theorem d_La_move_14 : decode method_8_code 14 = .ok (.ireturn, 1) := q_tb t_La_move 10 rfl
theorem d_La_move_15 : decode method_8_code 15 = .ok (.iconst 0, 1) := q_tb t_La_move 11 rfl
theorem d_La_move_16 : decode method_8_code 16 = .ok (.ireturn, 1) := q_tb t_La_move 12 rfl
def T_La_now : List (Nat × Instr × Nat) := [(0, .aload_n 2, 1), (1, .iconst 0, 1), (2, .aload_n 0, 1), (3, .iload_n 1, 1), (4, .invokevirtual 36, 3), (7, .i2l, 1), (8, .lastore, 1), (9, .goto 6, 3), (12, .astore_n 3, 1), (13, .iconst 1, 1), (14, .ireturn, 1), (15, .iconst 0, 1), (16, .ireturn, 1)]
set_option maxRecDepth 100000 in
theorem t_La_now : ∀ q ∈ T_La_now, decode method_9_code q.1 = .ok q.2 := by decide +kernel
theorem d_La_now_0 : decode method_9_code 0 = .ok (.aload_n 2, 1) := q_tb t_La_now 0 rfl
theorem d_La_now_1 : decode method_9_code 1 = .ok (.iconst 0, 1) := q_tb t_La_now 1 rfl
theorem d_La_now_2 : decode method_9_code 2 = .ok (.aload_n 0, 1) := q_tb t_La_now 2 rfl
theorem d_La_now_3 : decode method_9_code 3 = .ok (.iload_n 1, 1) := q_tb t_La_now 3 rfl
theorem d_La_now_4 : decode method_9_code 4 = .ok (.invokevirtual 36, 3) := q_tb t_La_now 4 rfl
theorem d_La_now_7 : decode method_9_code 7 = .ok (.i2l, 1) := q_tb t_La_now 5 rfl
theorem d_La_now_8 : decode method_9_code 8 = .ok (.lastore, 1) := q_tb t_La_now 6 rfl
theorem d_La_now_9 : decode method_9_code 9 = .ok (.goto 6, 3) := q_tb t_La_now 7 rfl
theorem d_La_now_12 : decode method_9_code 12 = .ok (.astore_n 3, 1) := q_tb t_La_now 8 rfl
theorem d_La_now_13 : decode method_9_code 13 = .ok (.iconst 1, 1) := q_tb t_La_now 9 rfl
theorem d_La_now_14 : decode method_9_code 14 = .ok (.ireturn, 1) := q_tb t_La_now 10 rfl
theorem d_La_now_15 : decode method_9_code 15 = .ok (.iconst 0, 1) := q_tb t_La_now 11 rfl
theorem d_La_now_16 : decode method_9_code 16 = .ok (.ireturn, 1) := q_tb t_La_now 12 rfl
def T_La_has : List (Nat × Instr × Nat) := [(0, .aload_n 2, 1), (1, .iconst 0, 1), (2, .aload_n 0, 1), (3, .iload_n 1, 1), (4, .invokevirtual 39, 3), (7, .i2l, 1), (8, .lastore, 1), (9, .goto 6, 3), (12, .astore_n 3, 1), (13, .iconst 1, 1), (14, .ireturn, 1), (15, .iconst 0, 1), (16, .ireturn, 1)]
set_option maxRecDepth 100000 in
theorem t_La_has : ∀ q ∈ T_La_has, decode method_10_code q.1 = .ok q.2 := by decide +kernel
theorem d_La_has_0 : decode method_10_code 0 = .ok (.aload_n 2, 1) := q_tb t_La_has 0 rfl
theorem d_La_has_1 : decode method_10_code 1 = .ok (.iconst 0, 1) := q_tb t_La_has 1 rfl
theorem d_La_has_2 : decode method_10_code 2 = .ok (.aload_n 0, 1) := q_tb t_La_has 2 rfl
theorem d_La_has_3 : decode method_10_code 3 = .ok (.iload_n 1, 1) := q_tb t_La_has 3 rfl
theorem d_La_has_4 : decode method_10_code 4 = .ok (.invokevirtual 39, 3) := q_tb t_La_has 4 rfl
theorem d_La_has_7 : decode method_10_code 7 = .ok (.i2l, 1) := q_tb t_La_has 5 rfl
theorem d_La_has_8 : decode method_10_code 8 = .ok (.lastore, 1) := q_tb t_La_has 6 rfl
theorem d_La_has_9 : decode method_10_code 9 = .ok (.goto 6, 3) := q_tb t_La_has 7 rfl
theorem d_La_has_12 : decode method_10_code 12 = .ok (.astore_n 3, 1) := q_tb t_La_has 8 rfl
theorem d_La_has_13 : decode method_10_code 13 = .ok (.iconst 1, 1) := q_tb t_La_has 9 rfl
theorem d_La_has_14 : decode method_10_code 14 = .ok (.ireturn, 1) := q_tb t_La_has 10 rfl
theorem d_La_has_15 : decode method_10_code 15 = .ok (.iconst 0, 1) := q_tb t_La_has 11 rfl
theorem d_La_has_16 : decode method_10_code 16 = .ok (.ireturn, 1) := q_tb t_La_has 12 rfl
def T_La_falls : List (Nat × Instr × Nat) := [(0, .aload_n 1, 1), (1, .iconst 0, 1), (2, .aload_n 0, 1), (3, .invokevirtual 42, 3), (6, .ifCond .eq 7, 3), (9, .lconst 1, 1), (10, .goto 4, 3), (13, .lconst 0, 1), (14, .lastore, 1), (15, .goto 6, 3), (18, .astore_n 2, 1), (19, .iconst 1, 1), (20, .ireturn, 1), (21, .iconst 0, 1), (22, .ireturn, 1)]
set_option maxRecDepth 100000 in
theorem t_La_falls : ∀ q ∈ T_La_falls, decode method_11_code q.1 = .ok q.2 := by decide +kernel
theorem d_La_falls_0 : decode method_11_code 0 = .ok (.aload_n 1, 1) := q_tb t_La_falls 0 rfl
theorem d_La_falls_1 : decode method_11_code 1 = .ok (.iconst 0, 1) := q_tb t_La_falls 1 rfl
theorem d_La_falls_2 : decode method_11_code 2 = .ok (.aload_n 0, 1) := q_tb t_La_falls 2 rfl
theorem d_La_falls_3 : decode method_11_code 3 = .ok (.invokevirtual 42, 3) := q_tb t_La_falls 3 rfl
theorem d_La_falls_6 : decode method_11_code 6 = .ok (.ifCond .eq 7, 3) := q_tb t_La_falls 4 rfl
theorem d_La_falls_9 : decode method_11_code 9 = .ok (.lconst 1, 1) := q_tb t_La_falls 5 rfl
theorem d_La_falls_10 : decode method_11_code 10 = .ok (.goto 4, 3) := q_tb t_La_falls 6 rfl
theorem d_La_falls_13 : decode method_11_code 13 = .ok (.lconst 0, 1) := q_tb t_La_falls 7 rfl
theorem d_La_falls_14 : decode method_11_code 14 = .ok (.lastore, 1) := q_tb t_La_falls 8 rfl
theorem d_La_falls_15 : decode method_11_code 15 = .ok (.goto 6, 3) := q_tb t_La_falls 9 rfl
theorem d_La_falls_18 : decode method_11_code 18 = .ok (.astore_n 2, 1) := q_tb t_La_falls 10 rfl
theorem d_La_falls_19 : decode method_11_code 19 = .ok (.iconst 1, 1) := q_tb t_La_falls 11 rfl
theorem d_La_falls_20 : decode method_11_code 20 = .ok (.ireturn, 1) := q_tb t_La_falls 12 rfl
theorem d_La_falls_21 : decode method_11_code 21 = .ok (.iconst 0, 1) := q_tb t_La_falls 13 rfl
theorem d_La_falls_22 : decode method_11_code 22 = .ok (.ireturn, 1) := q_tb t_La_falls 14 rfl
def T_La_law0 : List (Nat × Instr × Nat) := [(0, .new 8, 3), (3, .dup, 1), (4, .invokespecial 46, 3), (7, .astore_n 1, 1), (8, .new 47, 3), (11, .dup, 1), (12, .invokespecial 49, 3), (15, .astore_n 2, 1), (16, .iconst 1, 1), (17, .newarray .long, 2), (19, .astore_n 3, 1), (20, .iconst 0, 1), (21, .istore 4, 2), (23, .iload 4, 2), (25, .aload_n 0, 1), (26, .arraylength, 1), (27, .iconst 4, 1), (28, .isub, 1), (29, .if_icmp .gt 826, 3), (32, .aload_n 0, 1), (33, .iload 4, 2), (35, .iaload, 1), (36, .bipush 31, 2), (38, .iand, 1), (39, .tableswitch 810 0 18 #[89, 189, 202, 270, 283, 296, 309, 322, 390, 403, 416, 429, 497, 565, 578, 634, 647, 703, 759], 89), (128, .aload_n 1, 1), (129, .aload_n 0, 1), (130, .iload 4, 2), (132, .iconst 1, 1), (133, .iadd, 1), (134, .iaload, 1), (135, .aload_n 0, 1), (136, .iload 4, 2), (138, .iconst 2, 1), (139, .iadd, 1), (140, .iaload, 1), (141, .i2l, 1), (142, .bipush 32, 2), (144, .lshl, 1), (145, .aload_n 0, 1)]
set_option maxRecDepth 100000 in
theorem t_La_law0 : ∀ q ∈ T_La_law0, decode code q.1 = .ok q.2 := by decide +kernel
theorem d_La_law_0 : decode code 0 = .ok (.new 8, 3) := q_tb t_La_law0 0 rfl
theorem d_La_law_3 : decode code 3 = .ok (.dup, 1) := q_tb t_La_law0 1 rfl
theorem d_La_law_4 : decode code 4 = .ok (.invokespecial 46, 3) := q_tb t_La_law0 2 rfl
theorem d_La_law_7 : decode code 7 = .ok (.astore_n 1, 1) := q_tb t_La_law0 3 rfl
theorem d_La_law_8 : decode code 8 = .ok (.new 47, 3) := q_tb t_La_law0 4 rfl
theorem d_La_law_11 : decode code 11 = .ok (.dup, 1) := q_tb t_La_law0 5 rfl
theorem d_La_law_12 : decode code 12 = .ok (.invokespecial 49, 3) := q_tb t_La_law0 6 rfl
theorem d_La_law_15 : decode code 15 = .ok (.astore_n 2, 1) := q_tb t_La_law0 7 rfl
theorem d_La_law_16 : decode code 16 = .ok (.iconst 1, 1) := q_tb t_La_law0 8 rfl
theorem d_La_law_17 : decode code 17 = .ok (.newarray .long, 2) := q_tb t_La_law0 9 rfl
theorem d_La_law_19 : decode code 19 = .ok (.astore_n 3, 1) := q_tb t_La_law0 10 rfl
theorem d_La_law_20 : decode code 20 = .ok (.iconst 0, 1) := q_tb t_La_law0 11 rfl
theorem d_La_law_21 : decode code 21 = .ok (.istore 4, 2) := q_tb t_La_law0 12 rfl
theorem d_La_law_23 : decode code 23 = .ok (.iload 4, 2) := q_tb t_La_law0 13 rfl
theorem d_La_law_25 : decode code 25 = .ok (.aload_n 0, 1) := q_tb t_La_law0 14 rfl
theorem d_La_law_26 : decode code 26 = .ok (.arraylength, 1) := q_tb t_La_law0 15 rfl
theorem d_La_law_27 : decode code 27 = .ok (.iconst 4, 1) := q_tb t_La_law0 16 rfl
theorem d_La_law_28 : decode code 28 = .ok (.isub, 1) := q_tb t_La_law0 17 rfl
theorem d_La_law_29 : decode code 29 = .ok (.if_icmp .gt 826, 3) := q_tb t_La_law0 18 rfl
theorem d_La_law_32 : decode code 32 = .ok (.aload_n 0, 1) := q_tb t_La_law0 19 rfl
theorem d_La_law_33 : decode code 33 = .ok (.iload 4, 2) := q_tb t_La_law0 20 rfl
theorem d_La_law_35 : decode code 35 = .ok (.iaload, 1) := q_tb t_La_law0 21 rfl
theorem d_La_law_36 : decode code 36 = .ok (.bipush 31, 2) := q_tb t_La_law0 22 rfl
theorem d_La_law_38 : decode code 38 = .ok (.iand, 1) := q_tb t_La_law0 23 rfl
theorem d_La_law_39 : decode code 39 = .ok (.tableswitch 810 0 18 #[89, 189, 202, 270, 283, 296, 309, 322, 390, 403, 416, 429, 497, 565, 578, 634, 647, 703, 759], 89) := q_tb t_La_law0 24 rfl
theorem d_La_law_128 : decode code 128 = .ok (.aload_n 1, 1) := q_tb t_La_law0 25 rfl
theorem d_La_law_129 : decode code 129 = .ok (.aload_n 0, 1) := q_tb t_La_law0 26 rfl
theorem d_La_law_130 : decode code 130 = .ok (.iload 4, 2) := q_tb t_La_law0 27 rfl
theorem d_La_law_132 : decode code 132 = .ok (.iconst 1, 1) := q_tb t_La_law0 28 rfl
theorem d_La_law_133 : decode code 133 = .ok (.iadd, 1) := q_tb t_La_law0 29 rfl
theorem d_La_law_134 : decode code 134 = .ok (.iaload, 1) := q_tb t_La_law0 30 rfl
theorem d_La_law_135 : decode code 135 = .ok (.aload_n 0, 1) := q_tb t_La_law0 31 rfl
theorem d_La_law_136 : decode code 136 = .ok (.iload 4, 2) := q_tb t_La_law0 32 rfl
theorem d_La_law_138 : decode code 138 = .ok (.iconst 2, 1) := q_tb t_La_law0 33 rfl
theorem d_La_law_139 : decode code 139 = .ok (.iadd, 1) := q_tb t_La_law0 34 rfl
theorem d_La_law_140 : decode code 140 = .ok (.iaload, 1) := q_tb t_La_law0 35 rfl
theorem d_La_law_141 : decode code 141 = .ok (.i2l, 1) := q_tb t_La_law0 36 rfl
theorem d_La_law_142 : decode code 142 = .ok (.bipush 32, 2) := q_tb t_La_law0 37 rfl
theorem d_La_law_144 : decode code 144 = .ok (.lshl, 1) := q_tb t_La_law0 38 rfl
theorem d_La_law_145 : decode code 145 = .ok (.aload_n 0, 1) := q_tb t_La_law0 39 rfl
def T_La_law1 : List (Nat × Instr × Nat) := [(146, .iload 4, 2), (148, .iconst 3, 1), (149, .iadd, 1), (150, .iaload, 1), (151, .i2l, 1), (152, .ldc2_w 50, 3), (155, .land, 1), (156, .lor, 1), (157, .aload_n 3, 1), (158, .invokestatic 52, 3), (161, .istore 5, 2), (163, .aload_n 2, 1), (164, .aload_n 0, 1), (165, .iload 4, 2), (167, .iconst 1, 1), (168, .iadd, 1), (169, .iaload, 1), (170, .aload_n 0, 1), (171, .iload 4, 2), (173, .iconst 2, 1), (174, .iadd, 1), (175, .iaload, 1), (176, .i2l, 1), (177, .bipush 32, 2), (179, .lshl, 1), (180, .aload_n 0, 1), (181, .iload 4, 2), (183, .iconst 3, 1), (184, .iadd, 1), (185, .iaload, 1), (186, .i2l, 1), (187, .ldc2_w 50, 3), (190, .land, 1), (191, .lor, 1), (192, .invokevirtual 57, 3), (195, .istore 6, 2), (197, .aload_n 2, 1), (198, .invokevirtual 58, 3), (201, .iload 5, 2), (203, .if_icmp .eq 5, 3)]
set_option maxRecDepth 100000 in
theorem t_La_law1 : ∀ q ∈ T_La_law1, decode code q.1 = .ok q.2 := by decide +kernel
theorem d_La_law_146 : decode code 146 = .ok (.iload 4, 2) := q_tb t_La_law1 0 rfl
theorem d_La_law_148 : decode code 148 = .ok (.iconst 3, 1) := q_tb t_La_law1 1 rfl
theorem d_La_law_149 : decode code 149 = .ok (.iadd, 1) := q_tb t_La_law1 2 rfl
theorem d_La_law_150 : decode code 150 = .ok (.iaload, 1) := q_tb t_La_law1 3 rfl
theorem d_La_law_151 : decode code 151 = .ok (.i2l, 1) := q_tb t_La_law1 4 rfl
theorem d_La_law_152 : decode code 152 = .ok (.ldc2_w 50, 3) := q_tb t_La_law1 5 rfl
theorem d_La_law_155 : decode code 155 = .ok (.land, 1) := q_tb t_La_law1 6 rfl
theorem d_La_law_156 : decode code 156 = .ok (.lor, 1) := q_tb t_La_law1 7 rfl
theorem d_La_law_157 : decode code 157 = .ok (.aload_n 3, 1) := q_tb t_La_law1 8 rfl
theorem d_La_law_158 : decode code 158 = .ok (.invokestatic 52, 3) := q_tb t_La_law1 9 rfl
theorem d_La_law_161 : decode code 161 = .ok (.istore 5, 2) := q_tb t_La_law1 10 rfl
theorem d_La_law_163 : decode code 163 = .ok (.aload_n 2, 1) := q_tb t_La_law1 11 rfl
theorem d_La_law_164 : decode code 164 = .ok (.aload_n 0, 1) := q_tb t_La_law1 12 rfl
theorem d_La_law_165 : decode code 165 = .ok (.iload 4, 2) := q_tb t_La_law1 13 rfl
theorem d_La_law_167 : decode code 167 = .ok (.iconst 1, 1) := q_tb t_La_law1 14 rfl
theorem d_La_law_168 : decode code 168 = .ok (.iadd, 1) := q_tb t_La_law1 15 rfl
theorem d_La_law_169 : decode code 169 = .ok (.iaload, 1) := q_tb t_La_law1 16 rfl
theorem d_La_law_170 : decode code 170 = .ok (.aload_n 0, 1) := q_tb t_La_law1 17 rfl
theorem d_La_law_171 : decode code 171 = .ok (.iload 4, 2) := q_tb t_La_law1 18 rfl
theorem d_La_law_173 : decode code 173 = .ok (.iconst 2, 1) := q_tb t_La_law1 19 rfl
theorem d_La_law_174 : decode code 174 = .ok (.iadd, 1) := q_tb t_La_law1 20 rfl
theorem d_La_law_175 : decode code 175 = .ok (.iaload, 1) := q_tb t_La_law1 21 rfl
theorem d_La_law_176 : decode code 176 = .ok (.i2l, 1) := q_tb t_La_law1 22 rfl
theorem d_La_law_177 : decode code 177 = .ok (.bipush 32, 2) := q_tb t_La_law1 23 rfl
theorem d_La_law_179 : decode code 179 = .ok (.lshl, 1) := q_tb t_La_law1 24 rfl
theorem d_La_law_180 : decode code 180 = .ok (.aload_n 0, 1) := q_tb t_La_law1 25 rfl
theorem d_La_law_181 : decode code 181 = .ok (.iload 4, 2) := q_tb t_La_law1 26 rfl
theorem d_La_law_183 : decode code 183 = .ok (.iconst 3, 1) := q_tb t_La_law1 27 rfl
theorem d_La_law_184 : decode code 184 = .ok (.iadd, 1) := q_tb t_La_law1 28 rfl
theorem d_La_law_185 : decode code 185 = .ok (.iaload, 1) := q_tb t_La_law1 29 rfl
theorem d_La_law_186 : decode code 186 = .ok (.i2l, 1) := q_tb t_La_law1 30 rfl
theorem d_La_law_187 : decode code 187 = .ok (.ldc2_w 50, 3) := q_tb t_La_law1 31 rfl
theorem d_La_law_190 : decode code 190 = .ok (.land, 1) := q_tb t_La_law1 32 rfl
theorem d_La_law_191 : decode code 191 = .ok (.lor, 1) := q_tb t_La_law1 33 rfl
theorem d_La_law_192 : decode code 192 = .ok (.invokevirtual 57, 3) := q_tb t_La_law1 34 rfl
theorem d_La_law_195 : decode code 195 = .ok (.istore 6, 2) := q_tb t_La_law1 35 rfl
theorem d_La_law_197 : decode code 197 = .ok (.aload_n 2, 1) := q_tb t_La_law1 36 rfl
theorem d_La_law_198 : decode code 198 = .ok (.invokevirtual 58, 3) := q_tb t_La_law1 37 rfl
theorem d_La_law_201 : decode code 201 = .ok (.iload 5, 2) := q_tb t_La_law1 38 rfl
theorem d_La_law_203 : decode code 203 = .ok (.if_icmp .eq 5, 3) := q_tb t_La_law1 39 rfl
def T_La_law2 : List (Nat × Instr × Nat) := [(206, .iconst 0, 1), (207, .ireturn, 1), (208, .iload 5, 2), (210, .ifCond .ne 15, 3), (213, .aload_n 3, 1), (214, .iconst 0, 1), (215, .laload, 1), (216, .iload 6, 2), (218, .i2l, 1), (219, .lcmp, 1), (220, .ifCond .eq 5, 3), (223, .iconst 0, 1), (224, .ireturn, 1), (225, .goto 624, 3), (228, .aload_n 1, 1), (229, .invokevirtual 62, 3), (232, .aload_n 2, 1), (233, .invokevirtual 65, 3), (236, .if_icmp .eq 613, 3), (239, .iconst 0, 1), (240, .ireturn, 1), (241, .aload_n 1, 1), (242, .aload_n 0, 1), (243, .iload 4, 2), (245, .iconst 1, 1), (246, .iadd, 1), (247, .iaload, 1), (248, .aload_n 0, 1), (249, .iload 4, 2), (251, .iconst 2, 1), (252, .iadd, 1), (253, .iaload, 1), (254, .aload_n 3, 1), (255, .invokestatic 66, 3), (258, .istore 5, 2), (260, .aload_n 2, 1), (261, .aload_n 0, 1), (262, .iload 4, 2), (264, .iconst 1, 1), (265, .iadd, 1)]
set_option maxRecDepth 100000 in
theorem t_La_law2 : ∀ q ∈ T_La_law2, decode code q.1 = .ok q.2 := by decide +kernel
theorem d_La_law_206 : decode code 206 = .ok (.iconst 0, 1) := q_tb t_La_law2 0 rfl
theorem d_La_law_207 : decode code 207 = .ok (.ireturn, 1) := q_tb t_La_law2 1 rfl
theorem d_La_law_208 : decode code 208 = .ok (.iload 5, 2) := q_tb t_La_law2 2 rfl
theorem d_La_law_210 : decode code 210 = .ok (.ifCond .ne 15, 3) := q_tb t_La_law2 3 rfl
theorem d_La_law_213 : decode code 213 = .ok (.aload_n 3, 1) := q_tb t_La_law2 4 rfl
theorem d_La_law_214 : decode code 214 = .ok (.iconst 0, 1) := q_tb t_La_law2 5 rfl
theorem d_La_law_215 : decode code 215 = .ok (.laload, 1) := q_tb t_La_law2 6 rfl
theorem d_La_law_216 : decode code 216 = .ok (.iload 6, 2) := q_tb t_La_law2 7 rfl
theorem d_La_law_218 : decode code 218 = .ok (.i2l, 1) := q_tb t_La_law2 8 rfl
theorem d_La_law_219 : decode code 219 = .ok (.lcmp, 1) := q_tb t_La_law2 9 rfl
theorem d_La_law_220 : decode code 220 = .ok (.ifCond .eq 5, 3) := q_tb t_La_law2 10 rfl
theorem d_La_law_223 : decode code 223 = .ok (.iconst 0, 1) := q_tb t_La_law2 11 rfl
theorem d_La_law_224 : decode code 224 = .ok (.ireturn, 1) := q_tb t_La_law2 12 rfl
theorem d_La_law_225 : decode code 225 = .ok (.goto 624, 3) := q_tb t_La_law2 13 rfl
theorem d_La_law_228 : decode code 228 = .ok (.aload_n 1, 1) := q_tb t_La_law2 14 rfl
theorem d_La_law_229 : decode code 229 = .ok (.invokevirtual 62, 3) := q_tb t_La_law2 15 rfl
theorem d_La_law_232 : decode code 232 = .ok (.aload_n 2, 1) := q_tb t_La_law2 16 rfl
theorem d_La_law_233 : decode code 233 = .ok (.invokevirtual 65, 3) := q_tb t_La_law2 17 rfl
theorem d_La_law_236 : decode code 236 = .ok (.if_icmp .eq 613, 3) := q_tb t_La_law2 18 rfl
theorem d_La_law_239 : decode code 239 = .ok (.iconst 0, 1) := q_tb t_La_law2 19 rfl
theorem d_La_law_240 : decode code 240 = .ok (.ireturn, 1) := q_tb t_La_law2 20 rfl
theorem d_La_law_241 : decode code 241 = .ok (.aload_n 1, 1) := q_tb t_La_law2 21 rfl
theorem d_La_law_242 : decode code 242 = .ok (.aload_n 0, 1) := q_tb t_La_law2 22 rfl
theorem d_La_law_243 : decode code 243 = .ok (.iload 4, 2) := q_tb t_La_law2 23 rfl
theorem d_La_law_245 : decode code 245 = .ok (.iconst 1, 1) := q_tb t_La_law2 24 rfl
theorem d_La_law_246 : decode code 246 = .ok (.iadd, 1) := q_tb t_La_law2 25 rfl
theorem d_La_law_247 : decode code 247 = .ok (.iaload, 1) := q_tb t_La_law2 26 rfl
theorem d_La_law_248 : decode code 248 = .ok (.aload_n 0, 1) := q_tb t_La_law2 27 rfl
theorem d_La_law_249 : decode code 249 = .ok (.iload 4, 2) := q_tb t_La_law2 28 rfl
theorem d_La_law_251 : decode code 251 = .ok (.iconst 2, 1) := q_tb t_La_law2 29 rfl
theorem d_La_law_252 : decode code 252 = .ok (.iadd, 1) := q_tb t_La_law2 30 rfl
theorem d_La_law_253 : decode code 253 = .ok (.iaload, 1) := q_tb t_La_law2 31 rfl
theorem d_La_law_254 : decode code 254 = .ok (.aload_n 3, 1) := q_tb t_La_law2 32 rfl
theorem d_La_law_255 : decode code 255 = .ok (.invokestatic 66, 3) := q_tb t_La_law2 33 rfl
theorem d_La_law_258 : decode code 258 = .ok (.istore 5, 2) := q_tb t_La_law2 34 rfl
theorem d_La_law_260 : decode code 260 = .ok (.aload_n 2, 1) := q_tb t_La_law2 35 rfl
theorem d_La_law_261 : decode code 261 = .ok (.aload_n 0, 1) := q_tb t_La_law2 36 rfl
theorem d_La_law_262 : decode code 262 = .ok (.iload 4, 2) := q_tb t_La_law2 37 rfl
theorem d_La_law_264 : decode code 264 = .ok (.iconst 1, 1) := q_tb t_La_law2 38 rfl
theorem d_La_law_265 : decode code 265 = .ok (.iadd, 1) := q_tb t_La_law2 39 rfl
def T_La_law3 : List (Nat × Instr × Nat) := [(266, .iaload, 1), (267, .aload_n 0, 1), (268, .iload 4, 2), (270, .iconst 2, 1), (271, .iadd, 1), (272, .iaload, 1), (273, .invokevirtual 69, 3), (276, .istore 6, 2), (278, .aload_n 2, 1), (279, .invokevirtual 58, 3), (282, .iload 5, 2), (284, .if_icmp .eq 5, 3), (287, .iconst 0, 1), (288, .ireturn, 1), (289, .iload 5, 2), (291, .ifCond .ne 15, 3), (294, .aload_n 3, 1), (295, .iconst 0, 1), (296, .laload, 1), (297, .iload 6, 2), (299, .i2l, 1), (300, .lcmp, 1), (301, .ifCond .eq 5, 3), (304, .iconst 0, 1), (305, .ireturn, 1), (306, .goto 543, 3), (309, .aload_n 1, 1), (310, .invokevirtual 70, 3), (313, .aload_n 2, 1), (314, .invokevirtual 73, 3), (317, .if_icmp .eq 532, 3), (320, .iconst 0, 1), (321, .ireturn, 1), (322, .aload_n 1, 1), (323, .invokevirtual 74, 3), (326, .aload_n 2, 1), (327, .invokevirtual 77, 3), (330, .if_icmp .eq 519, 3), (333, .iconst 0, 1), (334, .ireturn, 1)]
set_option maxRecDepth 100000 in
theorem t_La_law3 : ∀ q ∈ T_La_law3, decode code q.1 = .ok q.2 := by decide +kernel
theorem d_La_law_266 : decode code 266 = .ok (.iaload, 1) := q_tb t_La_law3 0 rfl
theorem d_La_law_267 : decode code 267 = .ok (.aload_n 0, 1) := q_tb t_La_law3 1 rfl
theorem d_La_law_268 : decode code 268 = .ok (.iload 4, 2) := q_tb t_La_law3 2 rfl
theorem d_La_law_270 : decode code 270 = .ok (.iconst 2, 1) := q_tb t_La_law3 3 rfl
theorem d_La_law_271 : decode code 271 = .ok (.iadd, 1) := q_tb t_La_law3 4 rfl
theorem d_La_law_272 : decode code 272 = .ok (.iaload, 1) := q_tb t_La_law3 5 rfl
theorem d_La_law_273 : decode code 273 = .ok (.invokevirtual 69, 3) := q_tb t_La_law3 6 rfl
theorem d_La_law_276 : decode code 276 = .ok (.istore 6, 2) := q_tb t_La_law3 7 rfl
theorem d_La_law_278 : decode code 278 = .ok (.aload_n 2, 1) := q_tb t_La_law3 8 rfl
theorem d_La_law_279 : decode code 279 = .ok (.invokevirtual 58, 3) := q_tb t_La_law3 9 rfl
theorem d_La_law_282 : decode code 282 = .ok (.iload 5, 2) := q_tb t_La_law3 10 rfl
theorem d_La_law_284 : decode code 284 = .ok (.if_icmp .eq 5, 3) := q_tb t_La_law3 11 rfl
theorem d_La_law_287 : decode code 287 = .ok (.iconst 0, 1) := q_tb t_La_law3 12 rfl
theorem d_La_law_288 : decode code 288 = .ok (.ireturn, 1) := q_tb t_La_law3 13 rfl
theorem d_La_law_289 : decode code 289 = .ok (.iload 5, 2) := q_tb t_La_law3 14 rfl
theorem d_La_law_291 : decode code 291 = .ok (.ifCond .ne 15, 3) := q_tb t_La_law3 15 rfl
theorem d_La_law_294 : decode code 294 = .ok (.aload_n 3, 1) := q_tb t_La_law3 16 rfl
theorem d_La_law_295 : decode code 295 = .ok (.iconst 0, 1) := q_tb t_La_law3 17 rfl
theorem d_La_law_296 : decode code 296 = .ok (.laload, 1) := q_tb t_La_law3 18 rfl
theorem d_La_law_297 : decode code 297 = .ok (.iload 6, 2) := q_tb t_La_law3 19 rfl
theorem d_La_law_299 : decode code 299 = .ok (.i2l, 1) := q_tb t_La_law3 20 rfl
theorem d_La_law_300 : decode code 300 = .ok (.lcmp, 1) := q_tb t_La_law3 21 rfl
theorem d_La_law_301 : decode code 301 = .ok (.ifCond .eq 5, 3) := q_tb t_La_law3 22 rfl
theorem d_La_law_304 : decode code 304 = .ok (.iconst 0, 1) := q_tb t_La_law3 23 rfl
theorem d_La_law_305 : decode code 305 = .ok (.ireturn, 1) := q_tb t_La_law3 24 rfl
theorem d_La_law_306 : decode code 306 = .ok (.goto 543, 3) := q_tb t_La_law3 25 rfl
theorem d_La_law_309 : decode code 309 = .ok (.aload_n 1, 1) := q_tb t_La_law3 26 rfl
theorem d_La_law_310 : decode code 310 = .ok (.invokevirtual 70, 3) := q_tb t_La_law3 27 rfl
theorem d_La_law_313 : decode code 313 = .ok (.aload_n 2, 1) := q_tb t_La_law3 28 rfl
theorem d_La_law_314 : decode code 314 = .ok (.invokevirtual 73, 3) := q_tb t_La_law3 29 rfl
theorem d_La_law_317 : decode code 317 = .ok (.if_icmp .eq 532, 3) := q_tb t_La_law3 30 rfl
theorem d_La_law_320 : decode code 320 = .ok (.iconst 0, 1) := q_tb t_La_law3 31 rfl
theorem d_La_law_321 : decode code 321 = .ok (.ireturn, 1) := q_tb t_La_law3 32 rfl
theorem d_La_law_322 : decode code 322 = .ok (.aload_n 1, 1) := q_tb t_La_law3 33 rfl
theorem d_La_law_323 : decode code 323 = .ok (.invokevirtual 74, 3) := q_tb t_La_law3 34 rfl
theorem d_La_law_326 : decode code 326 = .ok (.aload_n 2, 1) := q_tb t_La_law3 35 rfl
theorem d_La_law_327 : decode code 327 = .ok (.invokevirtual 77, 3) := q_tb t_La_law3 36 rfl
theorem d_La_law_330 : decode code 330 = .ok (.if_icmp .eq 519, 3) := q_tb t_La_law3 37 rfl
theorem d_La_law_333 : decode code 333 = .ok (.iconst 0, 1) := q_tb t_La_law3 38 rfl
theorem d_La_law_334 : decode code 334 = .ok (.ireturn, 1) := q_tb t_La_law3 39 rfl
def T_La_law4 : List (Nat × Instr × Nat) := [(335, .aload_n 1, 1), (336, .invokevirtual 78, 3), (339, .aload_n 2, 1), (340, .invokevirtual 81, 3), (343, .if_icmp .eq 506, 3), (346, .iconst 0, 1), (347, .ireturn, 1), (348, .aload_n 1, 1), (349, .invokevirtual 82, 3), (352, .aload_n 2, 1), (353, .invokevirtual 85, 3), (356, .if_icmp .eq 493, 3), (359, .iconst 0, 1), (360, .ireturn, 1), (361, .aload_n 1, 1), (362, .aload_n 0, 1), (363, .iload 4, 2), (365, .iconst 1, 1), (366, .iadd, 1), (367, .iaload, 1), (368, .aload_n 0, 1), (369, .iload 4, 2), (371, .iconst 2, 1), (372, .iadd, 1), (373, .iaload, 1), (374, .aload_n 3, 1), (375, .invokestatic 86, 3), (378, .istore 5, 2), (380, .aload_n 2, 1), (381, .aload_n 0, 1), (382, .iload 4, 2), (384, .iconst 1, 1), (385, .iadd, 1), (386, .iaload, 1), (387, .aload_n 0, 1), (388, .iload 4, 2), (390, .iconst 2, 1), (391, .iadd, 1), (392, .iaload, 1), (393, .invokevirtual 88, 3)]
set_option maxRecDepth 100000 in
theorem t_La_law4 : ∀ q ∈ T_La_law4, decode code q.1 = .ok q.2 := by decide +kernel
theorem d_La_law_335 : decode code 335 = .ok (.aload_n 1, 1) := q_tb t_La_law4 0 rfl
theorem d_La_law_336 : decode code 336 = .ok (.invokevirtual 78, 3) := q_tb t_La_law4 1 rfl
theorem d_La_law_339 : decode code 339 = .ok (.aload_n 2, 1) := q_tb t_La_law4 2 rfl
theorem d_La_law_340 : decode code 340 = .ok (.invokevirtual 81, 3) := q_tb t_La_law4 3 rfl
theorem d_La_law_343 : decode code 343 = .ok (.if_icmp .eq 506, 3) := q_tb t_La_law4 4 rfl
theorem d_La_law_346 : decode code 346 = .ok (.iconst 0, 1) := q_tb t_La_law4 5 rfl
theorem d_La_law_347 : decode code 347 = .ok (.ireturn, 1) := q_tb t_La_law4 6 rfl
theorem d_La_law_348 : decode code 348 = .ok (.aload_n 1, 1) := q_tb t_La_law4 7 rfl
theorem d_La_law_349 : decode code 349 = .ok (.invokevirtual 82, 3) := q_tb t_La_law4 8 rfl
theorem d_La_law_352 : decode code 352 = .ok (.aload_n 2, 1) := q_tb t_La_law4 9 rfl
theorem d_La_law_353 : decode code 353 = .ok (.invokevirtual 85, 3) := q_tb t_La_law4 10 rfl
theorem d_La_law_356 : decode code 356 = .ok (.if_icmp .eq 493, 3) := q_tb t_La_law4 11 rfl
theorem d_La_law_359 : decode code 359 = .ok (.iconst 0, 1) := q_tb t_La_law4 12 rfl
theorem d_La_law_360 : decode code 360 = .ok (.ireturn, 1) := q_tb t_La_law4 13 rfl
theorem d_La_law_361 : decode code 361 = .ok (.aload_n 1, 1) := q_tb t_La_law4 14 rfl
theorem d_La_law_362 : decode code 362 = .ok (.aload_n 0, 1) := q_tb t_La_law4 15 rfl
theorem d_La_law_363 : decode code 363 = .ok (.iload 4, 2) := q_tb t_La_law4 16 rfl
theorem d_La_law_365 : decode code 365 = .ok (.iconst 1, 1) := q_tb t_La_law4 17 rfl
theorem d_La_law_366 : decode code 366 = .ok (.iadd, 1) := q_tb t_La_law4 18 rfl
theorem d_La_law_367 : decode code 367 = .ok (.iaload, 1) := q_tb t_La_law4 19 rfl
theorem d_La_law_368 : decode code 368 = .ok (.aload_n 0, 1) := q_tb t_La_law4 20 rfl
theorem d_La_law_369 : decode code 369 = .ok (.iload 4, 2) := q_tb t_La_law4 21 rfl
theorem d_La_law_371 : decode code 371 = .ok (.iconst 2, 1) := q_tb t_La_law4 22 rfl
theorem d_La_law_372 : decode code 372 = .ok (.iadd, 1) := q_tb t_La_law4 23 rfl
theorem d_La_law_373 : decode code 373 = .ok (.iaload, 1) := q_tb t_La_law4 24 rfl
theorem d_La_law_374 : decode code 374 = .ok (.aload_n 3, 1) := q_tb t_La_law4 25 rfl
theorem d_La_law_375 : decode code 375 = .ok (.invokestatic 86, 3) := q_tb t_La_law4 26 rfl
theorem d_La_law_378 : decode code 378 = .ok (.istore 5, 2) := q_tb t_La_law4 27 rfl
theorem d_La_law_380 : decode code 380 = .ok (.aload_n 2, 1) := q_tb t_La_law4 28 rfl
theorem d_La_law_381 : decode code 381 = .ok (.aload_n 0, 1) := q_tb t_La_law4 29 rfl
theorem d_La_law_382 : decode code 382 = .ok (.iload 4, 2) := q_tb t_La_law4 30 rfl
theorem d_La_law_384 : decode code 384 = .ok (.iconst 1, 1) := q_tb t_La_law4 31 rfl
theorem d_La_law_385 : decode code 385 = .ok (.iadd, 1) := q_tb t_La_law4 32 rfl
theorem d_La_law_386 : decode code 386 = .ok (.iaload, 1) := q_tb t_La_law4 33 rfl
theorem d_La_law_387 : decode code 387 = .ok (.aload_n 0, 1) := q_tb t_La_law4 34 rfl
theorem d_La_law_388 : decode code 388 = .ok (.iload 4, 2) := q_tb t_La_law4 35 rfl
theorem d_La_law_390 : decode code 390 = .ok (.iconst 2, 1) := q_tb t_La_law4 36 rfl
theorem d_La_law_391 : decode code 391 = .ok (.iadd, 1) := q_tb t_La_law4 37 rfl
theorem d_La_law_392 : decode code 392 = .ok (.iaload, 1) := q_tb t_La_law4 38 rfl
theorem d_La_law_393 : decode code 393 = .ok (.invokevirtual 88, 3) := q_tb t_La_law4 39 rfl
def T_La_law5 : List (Nat × Instr × Nat) := [(396, .istore 6, 2), (398, .aload_n 2, 1), (399, .invokevirtual 58, 3), (402, .iload 5, 2), (404, .if_icmp .eq 5, 3), (407, .iconst 0, 1), (408, .ireturn, 1), (409, .iload 5, 2), (411, .ifCond .ne 15, 3), (414, .aload_n 3, 1), (415, .iconst 0, 1), (416, .laload, 1), (417, .iload 6, 2), (419, .i2l, 1), (420, .lcmp, 1), (421, .ifCond .eq 5, 3), (424, .iconst 0, 1), (425, .ireturn, 1), (426, .goto 423, 3), (429, .aload_n 1, 1), (430, .invokevirtual 89, 3), (433, .aload_n 2, 1), (434, .invokevirtual 92, 3), (437, .if_icmp .eq 412, 3), (440, .iconst 0, 1), (441, .ireturn, 1), (442, .aload_n 1, 1), (443, .invokevirtual 93, 3), (446, .aload_n 2, 1), (447, .invokevirtual 96, 3), (450, .if_icmp .eq 399, 3), (453, .iconst 0, 1), (454, .ireturn, 1), (455, .aload_n 1, 1), (456, .invokevirtual 97, 3), (459, .aload_n 2, 1), (460, .invokevirtual 100, 3), (463, .if_icmp .eq 386, 3), (466, .iconst 0, 1), (467, .ireturn, 1)]
set_option maxRecDepth 100000 in
theorem t_La_law5 : ∀ q ∈ T_La_law5, decode code q.1 = .ok q.2 := by decide +kernel
theorem d_La_law_396 : decode code 396 = .ok (.istore 6, 2) := q_tb t_La_law5 0 rfl
theorem d_La_law_398 : decode code 398 = .ok (.aload_n 2, 1) := q_tb t_La_law5 1 rfl
theorem d_La_law_399 : decode code 399 = .ok (.invokevirtual 58, 3) := q_tb t_La_law5 2 rfl
theorem d_La_law_402 : decode code 402 = .ok (.iload 5, 2) := q_tb t_La_law5 3 rfl
theorem d_La_law_404 : decode code 404 = .ok (.if_icmp .eq 5, 3) := q_tb t_La_law5 4 rfl
theorem d_La_law_407 : decode code 407 = .ok (.iconst 0, 1) := q_tb t_La_law5 5 rfl
theorem d_La_law_408 : decode code 408 = .ok (.ireturn, 1) := q_tb t_La_law5 6 rfl
theorem d_La_law_409 : decode code 409 = .ok (.iload 5, 2) := q_tb t_La_law5 7 rfl
theorem d_La_law_411 : decode code 411 = .ok (.ifCond .ne 15, 3) := q_tb t_La_law5 8 rfl
theorem d_La_law_414 : decode code 414 = .ok (.aload_n 3, 1) := q_tb t_La_law5 9 rfl
theorem d_La_law_415 : decode code 415 = .ok (.iconst 0, 1) := q_tb t_La_law5 10 rfl
theorem d_La_law_416 : decode code 416 = .ok (.laload, 1) := q_tb t_La_law5 11 rfl
theorem d_La_law_417 : decode code 417 = .ok (.iload 6, 2) := q_tb t_La_law5 12 rfl
theorem d_La_law_419 : decode code 419 = .ok (.i2l, 1) := q_tb t_La_law5 13 rfl
theorem d_La_law_420 : decode code 420 = .ok (.lcmp, 1) := q_tb t_La_law5 14 rfl
theorem d_La_law_421 : decode code 421 = .ok (.ifCond .eq 5, 3) := q_tb t_La_law5 15 rfl
theorem d_La_law_424 : decode code 424 = .ok (.iconst 0, 1) := q_tb t_La_law5 16 rfl
theorem d_La_law_425 : decode code 425 = .ok (.ireturn, 1) := q_tb t_La_law5 17 rfl
theorem d_La_law_426 : decode code 426 = .ok (.goto 423, 3) := q_tb t_La_law5 18 rfl
theorem d_La_law_429 : decode code 429 = .ok (.aload_n 1, 1) := q_tb t_La_law5 19 rfl
theorem d_La_law_430 : decode code 430 = .ok (.invokevirtual 89, 3) := q_tb t_La_law5 20 rfl
theorem d_La_law_433 : decode code 433 = .ok (.aload_n 2, 1) := q_tb t_La_law5 21 rfl
theorem d_La_law_434 : decode code 434 = .ok (.invokevirtual 92, 3) := q_tb t_La_law5 22 rfl
theorem d_La_law_437 : decode code 437 = .ok (.if_icmp .eq 412, 3) := q_tb t_La_law5 23 rfl
theorem d_La_law_440 : decode code 440 = .ok (.iconst 0, 1) := q_tb t_La_law5 24 rfl
theorem d_La_law_441 : decode code 441 = .ok (.ireturn, 1) := q_tb t_La_law5 25 rfl
theorem d_La_law_442 : decode code 442 = .ok (.aload_n 1, 1) := q_tb t_La_law5 26 rfl
theorem d_La_law_443 : decode code 443 = .ok (.invokevirtual 93, 3) := q_tb t_La_law5 27 rfl
theorem d_La_law_446 : decode code 446 = .ok (.aload_n 2, 1) := q_tb t_La_law5 28 rfl
theorem d_La_law_447 : decode code 447 = .ok (.invokevirtual 96, 3) := q_tb t_La_law5 29 rfl
theorem d_La_law_450 : decode code 450 = .ok (.if_icmp .eq 399, 3) := q_tb t_La_law5 30 rfl
theorem d_La_law_453 : decode code 453 = .ok (.iconst 0, 1) := q_tb t_La_law5 31 rfl
theorem d_La_law_454 : decode code 454 = .ok (.ireturn, 1) := q_tb t_La_law5 32 rfl
theorem d_La_law_455 : decode code 455 = .ok (.aload_n 1, 1) := q_tb t_La_law5 33 rfl
theorem d_La_law_456 : decode code 456 = .ok (.invokevirtual 97, 3) := q_tb t_La_law5 34 rfl
theorem d_La_law_459 : decode code 459 = .ok (.aload_n 2, 1) := q_tb t_La_law5 35 rfl
theorem d_La_law_460 : decode code 460 = .ok (.invokevirtual 100, 3) := q_tb t_La_law5 36 rfl
theorem d_La_law_463 : decode code 463 = .ok (.if_icmp .eq 386, 3) := q_tb t_La_law5 37 rfl
theorem d_La_law_466 : decode code 466 = .ok (.iconst 0, 1) := q_tb t_La_law5 38 rfl
theorem d_La_law_467 : decode code 467 = .ok (.ireturn, 1) := q_tb t_La_law5 39 rfl
def T_La_law6 : List (Nat × Instr × Nat) := [(468, .aload_n 1, 1), (469, .aload_n 0, 1), (470, .iload 4, 2), (472, .iconst 1, 1), (473, .iadd, 1), (474, .iaload, 1), (475, .aload_n 0, 1), (476, .iload 4, 2), (478, .iconst 2, 1), (479, .iadd, 1), (480, .iaload, 1), (481, .aload_n 3, 1), (482, .invokestatic 101, 3), (485, .istore 5, 2), (487, .aload_n 2, 1), (488, .aload_n 0, 1), (489, .iload 4, 2), (491, .iconst 1, 1), (492, .iadd, 1), (493, .iaload, 1), (494, .aload_n 0, 1), (495, .iload 4, 2), (497, .iconst 2, 1), (498, .iadd, 1), (499, .iaload, 1), (500, .invokevirtual 103, 3), (503, .istore 6, 2), (505, .aload_n 2, 1), (506, .invokevirtual 58, 3), (509, .iload 5, 2), (511, .if_icmp .eq 5, 3), (514, .iconst 0, 1), (515, .ireturn, 1), (516, .iload 5, 2), (518, .ifCond .ne 15, 3), (521, .aload_n 3, 1), (522, .iconst 0, 1), (523, .laload, 1), (524, .iload 6, 2), (526, .i2l, 1)]
set_option maxRecDepth 100000 in
theorem t_La_law6 : ∀ q ∈ T_La_law6, decode code q.1 = .ok q.2 := by decide +kernel
theorem d_La_law_468 : decode code 468 = .ok (.aload_n 1, 1) := q_tb t_La_law6 0 rfl
theorem d_La_law_469 : decode code 469 = .ok (.aload_n 0, 1) := q_tb t_La_law6 1 rfl
theorem d_La_law_470 : decode code 470 = .ok (.iload 4, 2) := q_tb t_La_law6 2 rfl
theorem d_La_law_472 : decode code 472 = .ok (.iconst 1, 1) := q_tb t_La_law6 3 rfl
theorem d_La_law_473 : decode code 473 = .ok (.iadd, 1) := q_tb t_La_law6 4 rfl
theorem d_La_law_474 : decode code 474 = .ok (.iaload, 1) := q_tb t_La_law6 5 rfl
theorem d_La_law_475 : decode code 475 = .ok (.aload_n 0, 1) := q_tb t_La_law6 6 rfl
theorem d_La_law_476 : decode code 476 = .ok (.iload 4, 2) := q_tb t_La_law6 7 rfl
theorem d_La_law_478 : decode code 478 = .ok (.iconst 2, 1) := q_tb t_La_law6 8 rfl
theorem d_La_law_479 : decode code 479 = .ok (.iadd, 1) := q_tb t_La_law6 9 rfl
theorem d_La_law_480 : decode code 480 = .ok (.iaload, 1) := q_tb t_La_law6 10 rfl
theorem d_La_law_481 : decode code 481 = .ok (.aload_n 3, 1) := q_tb t_La_law6 11 rfl
theorem d_La_law_482 : decode code 482 = .ok (.invokestatic 101, 3) := q_tb t_La_law6 12 rfl
theorem d_La_law_485 : decode code 485 = .ok (.istore 5, 2) := q_tb t_La_law6 13 rfl
theorem d_La_law_487 : decode code 487 = .ok (.aload_n 2, 1) := q_tb t_La_law6 14 rfl
theorem d_La_law_488 : decode code 488 = .ok (.aload_n 0, 1) := q_tb t_La_law6 15 rfl
theorem d_La_law_489 : decode code 489 = .ok (.iload 4, 2) := q_tb t_La_law6 16 rfl
theorem d_La_law_491 : decode code 491 = .ok (.iconst 1, 1) := q_tb t_La_law6 17 rfl
theorem d_La_law_492 : decode code 492 = .ok (.iadd, 1) := q_tb t_La_law6 18 rfl
theorem d_La_law_493 : decode code 493 = .ok (.iaload, 1) := q_tb t_La_law6 19 rfl
theorem d_La_law_494 : decode code 494 = .ok (.aload_n 0, 1) := q_tb t_La_law6 20 rfl
theorem d_La_law_495 : decode code 495 = .ok (.iload 4, 2) := q_tb t_La_law6 21 rfl
theorem d_La_law_497 : decode code 497 = .ok (.iconst 2, 1) := q_tb t_La_law6 22 rfl
theorem d_La_law_498 : decode code 498 = .ok (.iadd, 1) := q_tb t_La_law6 23 rfl
theorem d_La_law_499 : decode code 499 = .ok (.iaload, 1) := q_tb t_La_law6 24 rfl
theorem d_La_law_500 : decode code 500 = .ok (.invokevirtual 103, 3) := q_tb t_La_law6 25 rfl
theorem d_La_law_503 : decode code 503 = .ok (.istore 6, 2) := q_tb t_La_law6 26 rfl
theorem d_La_law_505 : decode code 505 = .ok (.aload_n 2, 1) := q_tb t_La_law6 27 rfl
theorem d_La_law_506 : decode code 506 = .ok (.invokevirtual 58, 3) := q_tb t_La_law6 28 rfl
theorem d_La_law_509 : decode code 509 = .ok (.iload 5, 2) := q_tb t_La_law6 29 rfl
theorem d_La_law_511 : decode code 511 = .ok (.if_icmp .eq 5, 3) := q_tb t_La_law6 30 rfl
theorem d_La_law_514 : decode code 514 = .ok (.iconst 0, 1) := q_tb t_La_law6 31 rfl
theorem d_La_law_515 : decode code 515 = .ok (.ireturn, 1) := q_tb t_La_law6 32 rfl
theorem d_La_law_516 : decode code 516 = .ok (.iload 5, 2) := q_tb t_La_law6 33 rfl
theorem d_La_law_518 : decode code 518 = .ok (.ifCond .ne 15, 3) := q_tb t_La_law6 34 rfl
theorem d_La_law_521 : decode code 521 = .ok (.aload_n 3, 1) := q_tb t_La_law6 35 rfl
theorem d_La_law_522 : decode code 522 = .ok (.iconst 0, 1) := q_tb t_La_law6 36 rfl
theorem d_La_law_523 : decode code 523 = .ok (.laload, 1) := q_tb t_La_law6 37 rfl
theorem d_La_law_524 : decode code 524 = .ok (.iload 6, 2) := q_tb t_La_law6 38 rfl
theorem d_La_law_526 : decode code 526 = .ok (.i2l, 1) := q_tb t_La_law6 39 rfl
def T_La_law7 : List (Nat × Instr × Nat) := [(527, .lcmp, 1), (528, .ifCond .eq 5, 3), (531, .iconst 0, 1), (532, .ireturn, 1), (533, .goto 316, 3), (536, .aload_n 1, 1), (537, .aload_n 0, 1), (538, .iload 4, 2), (540, .iconst 1, 1), (541, .iadd, 1), (542, .iaload, 1), (543, .aload_n 0, 1), (544, .iload 4, 2), (546, .iconst 2, 1), (547, .iadd, 1), (548, .iaload, 1), (549, .aload_n 3, 1), (550, .invokestatic 104, 3), (553, .istore 5, 2), (555, .aload_n 2, 1), (556, .aload_n 0, 1), (557, .iload 4, 2), (559, .iconst 1, 1), (560, .iadd, 1), (561, .iaload, 1), (562, .aload_n 0, 1), (563, .iload 4, 2), (565, .iconst 2, 1), (566, .iadd, 1), (567, .iaload, 1), (568, .invokevirtual 106, 3), (571, .istore 6, 2), (573, .aload_n 2, 1), (574, .invokevirtual 58, 3), (577, .iload 5, 2), (579, .if_icmp .eq 5, 3), (582, .iconst 0, 1), (583, .ireturn, 1), (584, .iload 5, 2), (586, .ifCond .ne 15, 3)]
set_option maxRecDepth 100000 in
theorem t_La_law7 : ∀ q ∈ T_La_law7, decode code q.1 = .ok q.2 := by decide +kernel
theorem d_La_law_527 : decode code 527 = .ok (.lcmp, 1) := q_tb t_La_law7 0 rfl
theorem d_La_law_528 : decode code 528 = .ok (.ifCond .eq 5, 3) := q_tb t_La_law7 1 rfl
theorem d_La_law_531 : decode code 531 = .ok (.iconst 0, 1) := q_tb t_La_law7 2 rfl
theorem d_La_law_532 : decode code 532 = .ok (.ireturn, 1) := q_tb t_La_law7 3 rfl
theorem d_La_law_533 : decode code 533 = .ok (.goto 316, 3) := q_tb t_La_law7 4 rfl
theorem d_La_law_536 : decode code 536 = .ok (.aload_n 1, 1) := q_tb t_La_law7 5 rfl
theorem d_La_law_537 : decode code 537 = .ok (.aload_n 0, 1) := q_tb t_La_law7 6 rfl
theorem d_La_law_538 : decode code 538 = .ok (.iload 4, 2) := q_tb t_La_law7 7 rfl
theorem d_La_law_540 : decode code 540 = .ok (.iconst 1, 1) := q_tb t_La_law7 8 rfl
theorem d_La_law_541 : decode code 541 = .ok (.iadd, 1) := q_tb t_La_law7 9 rfl
theorem d_La_law_542 : decode code 542 = .ok (.iaload, 1) := q_tb t_La_law7 10 rfl
theorem d_La_law_543 : decode code 543 = .ok (.aload_n 0, 1) := q_tb t_La_law7 11 rfl
theorem d_La_law_544 : decode code 544 = .ok (.iload 4, 2) := q_tb t_La_law7 12 rfl
theorem d_La_law_546 : decode code 546 = .ok (.iconst 2, 1) := q_tb t_La_law7 13 rfl
theorem d_La_law_547 : decode code 547 = .ok (.iadd, 1) := q_tb t_La_law7 14 rfl
theorem d_La_law_548 : decode code 548 = .ok (.iaload, 1) := q_tb t_La_law7 15 rfl
theorem d_La_law_549 : decode code 549 = .ok (.aload_n 3, 1) := q_tb t_La_law7 16 rfl
theorem d_La_law_550 : decode code 550 = .ok (.invokestatic 104, 3) := q_tb t_La_law7 17 rfl
theorem d_La_law_553 : decode code 553 = .ok (.istore 5, 2) := q_tb t_La_law7 18 rfl
theorem d_La_law_555 : decode code 555 = .ok (.aload_n 2, 1) := q_tb t_La_law7 19 rfl
theorem d_La_law_556 : decode code 556 = .ok (.aload_n 0, 1) := q_tb t_La_law7 20 rfl
theorem d_La_law_557 : decode code 557 = .ok (.iload 4, 2) := q_tb t_La_law7 21 rfl
theorem d_La_law_559 : decode code 559 = .ok (.iconst 1, 1) := q_tb t_La_law7 22 rfl
theorem d_La_law_560 : decode code 560 = .ok (.iadd, 1) := q_tb t_La_law7 23 rfl
theorem d_La_law_561 : decode code 561 = .ok (.iaload, 1) := q_tb t_La_law7 24 rfl
theorem d_La_law_562 : decode code 562 = .ok (.aload_n 0, 1) := q_tb t_La_law7 25 rfl
theorem d_La_law_563 : decode code 563 = .ok (.iload 4, 2) := q_tb t_La_law7 26 rfl
theorem d_La_law_565 : decode code 565 = .ok (.iconst 2, 1) := q_tb t_La_law7 27 rfl
theorem d_La_law_566 : decode code 566 = .ok (.iadd, 1) := q_tb t_La_law7 28 rfl
theorem d_La_law_567 : decode code 567 = .ok (.iaload, 1) := q_tb t_La_law7 29 rfl
theorem d_La_law_568 : decode code 568 = .ok (.invokevirtual 106, 3) := q_tb t_La_law7 30 rfl
theorem d_La_law_571 : decode code 571 = .ok (.istore 6, 2) := q_tb t_La_law7 31 rfl
theorem d_La_law_573 : decode code 573 = .ok (.aload_n 2, 1) := q_tb t_La_law7 32 rfl
theorem d_La_law_574 : decode code 574 = .ok (.invokevirtual 58, 3) := q_tb t_La_law7 33 rfl
theorem d_La_law_577 : decode code 577 = .ok (.iload 5, 2) := q_tb t_La_law7 34 rfl
theorem d_La_law_579 : decode code 579 = .ok (.if_icmp .eq 5, 3) := q_tb t_La_law7 35 rfl
theorem d_La_law_582 : decode code 582 = .ok (.iconst 0, 1) := q_tb t_La_law7 36 rfl
theorem d_La_law_583 : decode code 583 = .ok (.ireturn, 1) := q_tb t_La_law7 37 rfl
theorem d_La_law_584 : decode code 584 = .ok (.iload 5, 2) := q_tb t_La_law7 38 rfl
theorem d_La_law_586 : decode code 586 = .ok (.ifCond .ne 15, 3) := q_tb t_La_law7 39 rfl
def T_La_law8 : List (Nat × Instr × Nat) := [(589, .aload_n 3, 1), (590, .iconst 0, 1), (591, .laload, 1), (592, .iload 6, 2), (594, .i2l, 1), (595, .lcmp, 1), (596, .ifCond .eq 5, 3), (599, .iconst 0, 1), (600, .ireturn, 1), (601, .goto 248, 3), (604, .aload_n 1, 1), (605, .invokevirtual 107, 3), (608, .aload_n 2, 1), (609, .invokevirtual 110, 3), (612, .if_icmp .eq 237, 3), (615, .iconst 0, 1), (616, .ireturn, 1), (617, .aload_n 1, 1), (618, .aload_n 0, 1), (619, .iload 4, 2), (621, .iconst 1, 1), (622, .iadd, 1), (623, .iaload, 1), (624, .aload_n 3, 1), (625, .invokestatic 111, 3), (628, .istore 5, 2), (630, .aload_n 2, 1), (631, .aload_n 0, 1), (632, .iload 4, 2), (634, .iconst 1, 1), (635, .iadd, 1), (636, .iaload, 1), (637, .invokevirtual 114, 3), (640, .istore 6, 2), (642, .aload_n 2, 1), (643, .invokevirtual 58, 3), (646, .iload 5, 2), (648, .if_icmp .eq 5, 3), (651, .iconst 0, 1), (652, .ireturn, 1)]
set_option maxRecDepth 100000 in
theorem t_La_law8 : ∀ q ∈ T_La_law8, decode code q.1 = .ok q.2 := by decide +kernel
theorem d_La_law_589 : decode code 589 = .ok (.aload_n 3, 1) := q_tb t_La_law8 0 rfl
theorem d_La_law_590 : decode code 590 = .ok (.iconst 0, 1) := q_tb t_La_law8 1 rfl
theorem d_La_law_591 : decode code 591 = .ok (.laload, 1) := q_tb t_La_law8 2 rfl
theorem d_La_law_592 : decode code 592 = .ok (.iload 6, 2) := q_tb t_La_law8 3 rfl
theorem d_La_law_594 : decode code 594 = .ok (.i2l, 1) := q_tb t_La_law8 4 rfl
theorem d_La_law_595 : decode code 595 = .ok (.lcmp, 1) := q_tb t_La_law8 5 rfl
theorem d_La_law_596 : decode code 596 = .ok (.ifCond .eq 5, 3) := q_tb t_La_law8 6 rfl
theorem d_La_law_599 : decode code 599 = .ok (.iconst 0, 1) := q_tb t_La_law8 7 rfl
theorem d_La_law_600 : decode code 600 = .ok (.ireturn, 1) := q_tb t_La_law8 8 rfl
theorem d_La_law_601 : decode code 601 = .ok (.goto 248, 3) := q_tb t_La_law8 9 rfl
theorem d_La_law_604 : decode code 604 = .ok (.aload_n 1, 1) := q_tb t_La_law8 10 rfl
theorem d_La_law_605 : decode code 605 = .ok (.invokevirtual 107, 3) := q_tb t_La_law8 11 rfl
theorem d_La_law_608 : decode code 608 = .ok (.aload_n 2, 1) := q_tb t_La_law8 12 rfl
theorem d_La_law_609 : decode code 609 = .ok (.invokevirtual 110, 3) := q_tb t_La_law8 13 rfl
theorem d_La_law_612 : decode code 612 = .ok (.if_icmp .eq 237, 3) := q_tb t_La_law8 14 rfl
theorem d_La_law_615 : decode code 615 = .ok (.iconst 0, 1) := q_tb t_La_law8 15 rfl
theorem d_La_law_616 : decode code 616 = .ok (.ireturn, 1) := q_tb t_La_law8 16 rfl
theorem d_La_law_617 : decode code 617 = .ok (.aload_n 1, 1) := q_tb t_La_law8 17 rfl
theorem d_La_law_618 : decode code 618 = .ok (.aload_n 0, 1) := q_tb t_La_law8 18 rfl
theorem d_La_law_619 : decode code 619 = .ok (.iload 4, 2) := q_tb t_La_law8 19 rfl
theorem d_La_law_621 : decode code 621 = .ok (.iconst 1, 1) := q_tb t_La_law8 20 rfl
theorem d_La_law_622 : decode code 622 = .ok (.iadd, 1) := q_tb t_La_law8 21 rfl
theorem d_La_law_623 : decode code 623 = .ok (.iaload, 1) := q_tb t_La_law8 22 rfl
theorem d_La_law_624 : decode code 624 = .ok (.aload_n 3, 1) := q_tb t_La_law8 23 rfl
theorem d_La_law_625 : decode code 625 = .ok (.invokestatic 111, 3) := q_tb t_La_law8 24 rfl
theorem d_La_law_628 : decode code 628 = .ok (.istore 5, 2) := q_tb t_La_law8 25 rfl
theorem d_La_law_630 : decode code 630 = .ok (.aload_n 2, 1) := q_tb t_La_law8 26 rfl
theorem d_La_law_631 : decode code 631 = .ok (.aload_n 0, 1) := q_tb t_La_law8 27 rfl
theorem d_La_law_632 : decode code 632 = .ok (.iload 4, 2) := q_tb t_La_law8 28 rfl
theorem d_La_law_634 : decode code 634 = .ok (.iconst 1, 1) := q_tb t_La_law8 29 rfl
theorem d_La_law_635 : decode code 635 = .ok (.iadd, 1) := q_tb t_La_law8 30 rfl
theorem d_La_law_636 : decode code 636 = .ok (.iaload, 1) := q_tb t_La_law8 31 rfl
theorem d_La_law_637 : decode code 637 = .ok (.invokevirtual 114, 3) := q_tb t_La_law8 32 rfl
theorem d_La_law_640 : decode code 640 = .ok (.istore 6, 2) := q_tb t_La_law8 33 rfl
theorem d_La_law_642 : decode code 642 = .ok (.aload_n 2, 1) := q_tb t_La_law8 34 rfl
theorem d_La_law_643 : decode code 643 = .ok (.invokevirtual 58, 3) := q_tb t_La_law8 35 rfl
theorem d_La_law_646 : decode code 646 = .ok (.iload 5, 2) := q_tb t_La_law8 36 rfl
theorem d_La_law_648 : decode code 648 = .ok (.if_icmp .eq 5, 3) := q_tb t_La_law8 37 rfl
theorem d_La_law_651 : decode code 651 = .ok (.iconst 0, 1) := q_tb t_La_law8 38 rfl
theorem d_La_law_652 : decode code 652 = .ok (.ireturn, 1) := q_tb t_La_law8 39 rfl
def T_La_law9 : List (Nat × Instr × Nat) := [(653, .iload 5, 2), (655, .ifCond .ne 15, 3), (658, .aload_n 3, 1), (659, .iconst 0, 1), (660, .laload, 1), (661, .iload 6, 2), (663, .i2l, 1), (664, .lcmp, 1), (665, .ifCond .eq 5, 3), (668, .iconst 0, 1), (669, .ireturn, 1), (670, .goto 179, 3), (673, .aload_n 1, 1), (674, .invokevirtual 115, 3), (677, .aload_n 2, 1), (678, .invokevirtual 118, 3), (681, .if_icmp .eq 168, 3), (684, .iconst 0, 1), (685, .ireturn, 1), (686, .aload_n 1, 1), (687, .aload_n 0, 1), (688, .iload 4, 2), (690, .iconst 1, 1), (691, .iadd, 1), (692, .iaload, 1), (693, .aload_n 3, 1), (694, .invokestatic 119, 3), (697, .istore 5, 2), (699, .aload_n 2, 1), (700, .aload_n 0, 1), (701, .iload 4, 2), (703, .iconst 1, 1), (704, .iadd, 1), (705, .iaload, 1), (706, .invokevirtual 121, 3), (709, .istore 6, 2), (711, .aload_n 2, 1), (712, .invokevirtual 58, 3), (715, .iload 5, 2), (717, .if_icmp .eq 5, 3)]
set_option maxRecDepth 100000 in
theorem t_La_law9 : ∀ q ∈ T_La_law9, decode code q.1 = .ok q.2 := by decide +kernel
theorem d_La_law_653 : decode code 653 = .ok (.iload 5, 2) := q_tb t_La_law9 0 rfl
theorem d_La_law_655 : decode code 655 = .ok (.ifCond .ne 15, 3) := q_tb t_La_law9 1 rfl
theorem d_La_law_658 : decode code 658 = .ok (.aload_n 3, 1) := q_tb t_La_law9 2 rfl
theorem d_La_law_659 : decode code 659 = .ok (.iconst 0, 1) := q_tb t_La_law9 3 rfl
theorem d_La_law_660 : decode code 660 = .ok (.laload, 1) := q_tb t_La_law9 4 rfl
theorem d_La_law_661 : decode code 661 = .ok (.iload 6, 2) := q_tb t_La_law9 5 rfl
theorem d_La_law_663 : decode code 663 = .ok (.i2l, 1) := q_tb t_La_law9 6 rfl
theorem d_La_law_664 : decode code 664 = .ok (.lcmp, 1) := q_tb t_La_law9 7 rfl
theorem d_La_law_665 : decode code 665 = .ok (.ifCond .eq 5, 3) := q_tb t_La_law9 8 rfl
theorem d_La_law_668 : decode code 668 = .ok (.iconst 0, 1) := q_tb t_La_law9 9 rfl
theorem d_La_law_669 : decode code 669 = .ok (.ireturn, 1) := q_tb t_La_law9 10 rfl
theorem d_La_law_670 : decode code 670 = .ok (.goto 179, 3) := q_tb t_La_law9 11 rfl
theorem d_La_law_673 : decode code 673 = .ok (.aload_n 1, 1) := q_tb t_La_law9 12 rfl
theorem d_La_law_674 : decode code 674 = .ok (.invokevirtual 115, 3) := q_tb t_La_law9 13 rfl
theorem d_La_law_677 : decode code 677 = .ok (.aload_n 2, 1) := q_tb t_La_law9 14 rfl
theorem d_La_law_678 : decode code 678 = .ok (.invokevirtual 118, 3) := q_tb t_La_law9 15 rfl
theorem d_La_law_681 : decode code 681 = .ok (.if_icmp .eq 168, 3) := q_tb t_La_law9 16 rfl
theorem d_La_law_684 : decode code 684 = .ok (.iconst 0, 1) := q_tb t_La_law9 17 rfl
theorem d_La_law_685 : decode code 685 = .ok (.ireturn, 1) := q_tb t_La_law9 18 rfl
theorem d_La_law_686 : decode code 686 = .ok (.aload_n 1, 1) := q_tb t_La_law9 19 rfl
theorem d_La_law_687 : decode code 687 = .ok (.aload_n 0, 1) := q_tb t_La_law9 20 rfl
theorem d_La_law_688 : decode code 688 = .ok (.iload 4, 2) := q_tb t_La_law9 21 rfl
theorem d_La_law_690 : decode code 690 = .ok (.iconst 1, 1) := q_tb t_La_law9 22 rfl
theorem d_La_law_691 : decode code 691 = .ok (.iadd, 1) := q_tb t_La_law9 23 rfl
theorem d_La_law_692 : decode code 692 = .ok (.iaload, 1) := q_tb t_La_law9 24 rfl
theorem d_La_law_693 : decode code 693 = .ok (.aload_n 3, 1) := q_tb t_La_law9 25 rfl
theorem d_La_law_694 : decode code 694 = .ok (.invokestatic 119, 3) := q_tb t_La_law9 26 rfl
theorem d_La_law_697 : decode code 697 = .ok (.istore 5, 2) := q_tb t_La_law9 27 rfl
theorem d_La_law_699 : decode code 699 = .ok (.aload_n 2, 1) := q_tb t_La_law9 28 rfl
theorem d_La_law_700 : decode code 700 = .ok (.aload_n 0, 1) := q_tb t_La_law9 29 rfl
theorem d_La_law_701 : decode code 701 = .ok (.iload 4, 2) := q_tb t_La_law9 30 rfl
theorem d_La_law_703 : decode code 703 = .ok (.iconst 1, 1) := q_tb t_La_law9 31 rfl
theorem d_La_law_704 : decode code 704 = .ok (.iadd, 1) := q_tb t_La_law9 32 rfl
theorem d_La_law_705 : decode code 705 = .ok (.iaload, 1) := q_tb t_La_law9 33 rfl
theorem d_La_law_706 : decode code 706 = .ok (.invokevirtual 121, 3) := q_tb t_La_law9 34 rfl
theorem d_La_law_709 : decode code 709 = .ok (.istore 6, 2) := q_tb t_La_law9 35 rfl
theorem d_La_law_711 : decode code 711 = .ok (.aload_n 2, 1) := q_tb t_La_law9 36 rfl
theorem d_La_law_712 : decode code 712 = .ok (.invokevirtual 58, 3) := q_tb t_La_law9 37 rfl
theorem d_La_law_715 : decode code 715 = .ok (.iload 5, 2) := q_tb t_La_law9 38 rfl
theorem d_La_law_717 : decode code 717 = .ok (.if_icmp .eq 5, 3) := q_tb t_La_law9 39 rfl
def T_La_law10 : List (Nat × Instr × Nat) := [(720, .iconst 0, 1), (721, .ireturn, 1), (722, .iload 5, 2), (724, .ifCond .ne 15, 3), (727, .aload_n 3, 1), (728, .iconst 0, 1), (729, .laload, 1), (730, .iload 6, 2), (732, .i2l, 1), (733, .lcmp, 1), (734, .ifCond .eq 5, 3), (737, .iconst 0, 1), (738, .ireturn, 1), (739, .goto 110, 3), (742, .aload_n 1, 1), (743, .aload_n 0, 1), (744, .iload 4, 2), (746, .iconst 1, 1), (747, .iadd, 1), (748, .iaload, 1), (749, .aload_n 3, 1), (750, .invokestatic 122, 3), (753, .istore 5, 2), (755, .aload_n 2, 1), (756, .aload_n 0, 1), (757, .iload 4, 2), (759, .iconst 1, 1), (760, .iadd, 1), (761, .iaload, 1), (762, .invokevirtual 124, 3), (765, .istore 6, 2), (767, .aload_n 2, 1), (768, .invokevirtual 58, 3), (771, .iload 5, 2), (773, .if_icmp .eq 5, 3), (776, .iconst 0, 1), (777, .ireturn, 1), (778, .iload 5, 2), (780, .ifCond .ne 15, 3), (783, .aload_n 3, 1)]
set_option maxRecDepth 100000 in
theorem t_La_law10 : ∀ q ∈ T_La_law10, decode code q.1 = .ok q.2 := by decide +kernel
theorem d_La_law_720 : decode code 720 = .ok (.iconst 0, 1) := q_tb t_La_law10 0 rfl
theorem d_La_law_721 : decode code 721 = .ok (.ireturn, 1) := q_tb t_La_law10 1 rfl
theorem d_La_law_722 : decode code 722 = .ok (.iload 5, 2) := q_tb t_La_law10 2 rfl
theorem d_La_law_724 : decode code 724 = .ok (.ifCond .ne 15, 3) := q_tb t_La_law10 3 rfl
theorem d_La_law_727 : decode code 727 = .ok (.aload_n 3, 1) := q_tb t_La_law10 4 rfl
theorem d_La_law_728 : decode code 728 = .ok (.iconst 0, 1) := q_tb t_La_law10 5 rfl
theorem d_La_law_729 : decode code 729 = .ok (.laload, 1) := q_tb t_La_law10 6 rfl
theorem d_La_law_730 : decode code 730 = .ok (.iload 6, 2) := q_tb t_La_law10 7 rfl
theorem d_La_law_732 : decode code 732 = .ok (.i2l, 1) := q_tb t_La_law10 8 rfl
theorem d_La_law_733 : decode code 733 = .ok (.lcmp, 1) := q_tb t_La_law10 9 rfl
theorem d_La_law_734 : decode code 734 = .ok (.ifCond .eq 5, 3) := q_tb t_La_law10 10 rfl
theorem d_La_law_737 : decode code 737 = .ok (.iconst 0, 1) := q_tb t_La_law10 11 rfl
theorem d_La_law_738 : decode code 738 = .ok (.ireturn, 1) := q_tb t_La_law10 12 rfl
theorem d_La_law_739 : decode code 739 = .ok (.goto 110, 3) := q_tb t_La_law10 13 rfl
theorem d_La_law_742 : decode code 742 = .ok (.aload_n 1, 1) := q_tb t_La_law10 14 rfl
theorem d_La_law_743 : decode code 743 = .ok (.aload_n 0, 1) := q_tb t_La_law10 15 rfl
theorem d_La_law_744 : decode code 744 = .ok (.iload 4, 2) := q_tb t_La_law10 16 rfl
theorem d_La_law_746 : decode code 746 = .ok (.iconst 1, 1) := q_tb t_La_law10 17 rfl
theorem d_La_law_747 : decode code 747 = .ok (.iadd, 1) := q_tb t_La_law10 18 rfl
theorem d_La_law_748 : decode code 748 = .ok (.iaload, 1) := q_tb t_La_law10 19 rfl
theorem d_La_law_749 : decode code 749 = .ok (.aload_n 3, 1) := q_tb t_La_law10 20 rfl
theorem d_La_law_750 : decode code 750 = .ok (.invokestatic 122, 3) := q_tb t_La_law10 21 rfl
theorem d_La_law_753 : decode code 753 = .ok (.istore 5, 2) := q_tb t_La_law10 22 rfl
theorem d_La_law_755 : decode code 755 = .ok (.aload_n 2, 1) := q_tb t_La_law10 23 rfl
theorem d_La_law_756 : decode code 756 = .ok (.aload_n 0, 1) := q_tb t_La_law10 24 rfl
theorem d_La_law_757 : decode code 757 = .ok (.iload 4, 2) := q_tb t_La_law10 25 rfl
theorem d_La_law_759 : decode code 759 = .ok (.iconst 1, 1) := q_tb t_La_law10 26 rfl
theorem d_La_law_760 : decode code 760 = .ok (.iadd, 1) := q_tb t_La_law10 27 rfl
theorem d_La_law_761 : decode code 761 = .ok (.iaload, 1) := q_tb t_La_law10 28 rfl
theorem d_La_law_762 : decode code 762 = .ok (.invokevirtual 124, 3) := q_tb t_La_law10 29 rfl
theorem d_La_law_765 : decode code 765 = .ok (.istore 6, 2) := q_tb t_La_law10 30 rfl
theorem d_La_law_767 : decode code 767 = .ok (.aload_n 2, 1) := q_tb t_La_law10 31 rfl
theorem d_La_law_768 : decode code 768 = .ok (.invokevirtual 58, 3) := q_tb t_La_law10 32 rfl
theorem d_La_law_771 : decode code 771 = .ok (.iload 5, 2) := q_tb t_La_law10 33 rfl
theorem d_La_law_773 : decode code 773 = .ok (.if_icmp .eq 5, 3) := q_tb t_La_law10 34 rfl
theorem d_La_law_776 : decode code 776 = .ok (.iconst 0, 1) := q_tb t_La_law10 35 rfl
theorem d_La_law_777 : decode code 777 = .ok (.ireturn, 1) := q_tb t_La_law10 36 rfl
theorem d_La_law_778 : decode code 778 = .ok (.iload 5, 2) := q_tb t_La_law10 37 rfl
theorem d_La_law_780 : decode code 780 = .ok (.ifCond .ne 15, 3) := q_tb t_La_law10 38 rfl
theorem d_La_law_783 : decode code 783 = .ok (.aload_n 3, 1) := q_tb t_La_law10 39 rfl
def T_La_law11 : List (Nat × Instr × Nat) := [(784, .iconst 0, 1), (785, .laload, 1), (786, .iload 6, 2), (788, .i2l, 1), (789, .lcmp, 1), (790, .ifCond .eq 5, 3), (793, .iconst 0, 1), (794, .ireturn, 1), (795, .goto 54, 3), (798, .aload_n 1, 1), (799, .aload_n 3, 1), (800, .invokestatic 125, 3), (803, .istore 5, 2), (805, .aload_n 2, 1), (806, .invokevirtual 128, 3), (809, .istore 6, 2), (811, .aload_n 2, 1), (812, .invokevirtual 58, 3), (815, .iload 5, 2), (817, .if_icmp .eq 5, 3), (820, .iconst 0, 1), (821, .ireturn, 1), (822, .iload 5, 2), (824, .ifCond .ne 22, 3), (827, .aload_n 3, 1), (828, .iconst 0, 1), (829, .laload, 1), (830, .iload 6, 2), (832, .ifCond .eq 7, 3), (835, .lconst 1, 1), (836, .goto 4, 3), (839, .lconst 0, 1), (840, .lcmp, 1), (841, .ifCond .eq 5, 3), (844, .iconst 0, 1), (845, .ireturn, 1), (846, .goto 3, 3), (849, .iinc 4 4, 3), (852, .goto (-829), 3), (855, .iconst 1, 1)]
set_option maxRecDepth 100000 in
theorem t_La_law11 : ∀ q ∈ T_La_law11, decode code q.1 = .ok q.2 := by decide +kernel
theorem d_La_law_784 : decode code 784 = .ok (.iconst 0, 1) := q_tb t_La_law11 0 rfl
theorem d_La_law_785 : decode code 785 = .ok (.laload, 1) := q_tb t_La_law11 1 rfl
theorem d_La_law_786 : decode code 786 = .ok (.iload 6, 2) := q_tb t_La_law11 2 rfl
theorem d_La_law_788 : decode code 788 = .ok (.i2l, 1) := q_tb t_La_law11 3 rfl
theorem d_La_law_789 : decode code 789 = .ok (.lcmp, 1) := q_tb t_La_law11 4 rfl
theorem d_La_law_790 : decode code 790 = .ok (.ifCond .eq 5, 3) := q_tb t_La_law11 5 rfl
theorem d_La_law_793 : decode code 793 = .ok (.iconst 0, 1) := q_tb t_La_law11 6 rfl
theorem d_La_law_794 : decode code 794 = .ok (.ireturn, 1) := q_tb t_La_law11 7 rfl
theorem d_La_law_795 : decode code 795 = .ok (.goto 54, 3) := q_tb t_La_law11 8 rfl
theorem d_La_law_798 : decode code 798 = .ok (.aload_n 1, 1) := q_tb t_La_law11 9 rfl
theorem d_La_law_799 : decode code 799 = .ok (.aload_n 3, 1) := q_tb t_La_law11 10 rfl
theorem d_La_law_800 : decode code 800 = .ok (.invokestatic 125, 3) := q_tb t_La_law11 11 rfl
theorem d_La_law_803 : decode code 803 = .ok (.istore 5, 2) := q_tb t_La_law11 12 rfl
theorem d_La_law_805 : decode code 805 = .ok (.aload_n 2, 1) := q_tb t_La_law11 13 rfl
theorem d_La_law_806 : decode code 806 = .ok (.invokevirtual 128, 3) := q_tb t_La_law11 14 rfl
theorem d_La_law_809 : decode code 809 = .ok (.istore 6, 2) := q_tb t_La_law11 15 rfl
theorem d_La_law_811 : decode code 811 = .ok (.aload_n 2, 1) := q_tb t_La_law11 16 rfl
theorem d_La_law_812 : decode code 812 = .ok (.invokevirtual 58, 3) := q_tb t_La_law11 17 rfl
theorem d_La_law_815 : decode code 815 = .ok (.iload 5, 2) := q_tb t_La_law11 18 rfl
theorem d_La_law_817 : decode code 817 = .ok (.if_icmp .eq 5, 3) := q_tb t_La_law11 19 rfl
theorem d_La_law_820 : decode code 820 = .ok (.iconst 0, 1) := q_tb t_La_law11 20 rfl
theorem d_La_law_821 : decode code 821 = .ok (.ireturn, 1) := q_tb t_La_law11 21 rfl
theorem d_La_law_822 : decode code 822 = .ok (.iload 5, 2) := q_tb t_La_law11 22 rfl
theorem d_La_law_824 : decode code 824 = .ok (.ifCond .ne 22, 3) := q_tb t_La_law11 23 rfl
theorem d_La_law_827 : decode code 827 = .ok (.aload_n 3, 1) := q_tb t_La_law11 24 rfl
theorem d_La_law_828 : decode code 828 = .ok (.iconst 0, 1) := q_tb t_La_law11 25 rfl
theorem d_La_law_829 : decode code 829 = .ok (.laload, 1) := q_tb t_La_law11 26 rfl
theorem d_La_law_830 : decode code 830 = .ok (.iload 6, 2) := q_tb t_La_law11 27 rfl
theorem d_La_law_832 : decode code 832 = .ok (.ifCond .eq 7, 3) := q_tb t_La_law11 28 rfl
theorem d_La_law_835 : decode code 835 = .ok (.lconst 1, 1) := q_tb t_La_law11 29 rfl
theorem d_La_law_836 : decode code 836 = .ok (.goto 4, 3) := q_tb t_La_law11 30 rfl
theorem d_La_law_839 : decode code 839 = .ok (.lconst 0, 1) := q_tb t_La_law11 31 rfl
theorem d_La_law_840 : decode code 840 = .ok (.lcmp, 1) := q_tb t_La_law11 32 rfl
theorem d_La_law_841 : decode code 841 = .ok (.ifCond .eq 5, 3) := q_tb t_La_law11 33 rfl
theorem d_La_law_844 : decode code 844 = .ok (.iconst 0, 1) := q_tb t_La_law11 34 rfl
theorem d_La_law_845 : decode code 845 = .ok (.ireturn, 1) := q_tb t_La_law11 35 rfl
theorem d_La_law_846 : decode code 846 = .ok (.goto 3, 3) := q_tb t_La_law11 36 rfl
theorem d_La_law_849 : decode code 849 = .ok (.iinc 4 4, 3) := q_tb t_La_law11 37 rfl
theorem d_La_law_852 : decode code 852 = .ok (.goto (-829), 3) := q_tb t_La_law11 38 rfl
theorem d_La_law_855 : decode code 855 = .ok (.iconst 1, 1) := q_tb t_La_law11 39 rfl
def T_La_law12 : List (Nat × Instr × Nat) := [(856, .ireturn, 1)]
set_option maxRecDepth 100000 in
theorem t_La_law12 : ∀ q ∈ T_La_law12, decode code q.1 = .ok q.2 := by decide +kernel
theorem d_La_law_856 : decode code 856 = .ok (.ireturn, 1) := q_tb t_La_law12 0 rfl
end NAMES3
