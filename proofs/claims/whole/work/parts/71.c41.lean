/-! constructors -/
section C41
variable {g : q_G}
set_option maxRecDepth 10000 in
set_option maxHeartbeats 2000000 in
theorem c_Ta_init (hG : q_GG g) {hp : List va_E} {a L : Nat} (h_o : hp[a]? = some (.inr (1, [.null, .int 0]))) (hL : hp.length = L) : q_C g m_Ta_init true (q_R 1 20 1 100) [.ref a] hp (q_ho none (fun h => K_n a L hp h ∧ h.length = L + 1 ∧ h[a]? = some (.inr (1, [.ref L, .int 0])) ∧ h[L]? = some (a_B 100 (fun _ => 0)))) := by
  refine q_C.of hG (by decide) (Nat.le_of_ble_eq_true rfl) ?_
  have ha : a < L := by rw [← hL]; exact (List.getElem?_eq_some_iff.mp h_o).1
  have hF : K_n a L hp hp := K_n.rfl hL
  refine q_aload_n d_Ta_init_0 rfl rfl ?_
  refine q_objInit d_Ta_init_1 lo_Ta_3 oi_1 oi_2 (Nat.le_of_ble_eq_true rfl) (Nat.le_of_ble_eq_true rfl) ?_
  refine q_aload_n d_Ta_init_4 rfl rfl ?_
  refine q_bipush (v := 100) d_Ta_init_5 (by decide) ?_
  refine x_newa_b (L := L) d_Ta_init_7 a_b (by decide) (N := 100) rfl (by decide) (Nat.le_of_ble_eq_true rfl) (Nat.le_of_ble_eq_true rfl) hL (fun hp1 e1 => ?_)
  have h_n0 := q_apl e1 hL
  have h_o := q_app e1 h_o
  have hF := K_n.app hF e1
  have hL := q_len e1 hL
  refine x_putF d_Ta_init_9 f_Ta_9 rfl (fun q h => by cases h; rfl) h_o (Nat.le_of_ble_eq_true rfl) rfl rfl (fun hp2 e2 h_o => ?_)
  have h_n0 := q_keep e2 h_n0 (by omega)
  have hF := K_n.set hF e2 (by omega)
  have hL := q_lns e2 hL
  refine q_vret d_Ta_init_12 rfl ?_ (Nat.le_of_ble_eq_true rfl) (Nat.le_of_ble_eq_true rfl) (by decide)
  exact ⟨_, rfl, rfl, hF, hL, h_o, h_n0⟩
set_option maxRecDepth 10000 in
set_option maxHeartbeats 2000000 in
theorem c_St_init (hG : q_GG g) {hp : List va_E} {a L : Nat} (h_o : hp[a]? = some (.inr (8, [.null, .null]))) (hL : hp.length = L) : q_C g m_St_init true (q_R 1 20 2 11) [.ref a] hp (q_ho none (fun h => K_n a L hp h ∧ h.length = L + 2 ∧ h[a]? = some (.inr (8, [.ref L, .ref (L + 1)])) ∧ h[L]? = some (a_I 6 (fun _ => 0)) ∧ h[L + 1]? = some (a_I 5 (fun _ => 0)))) := by
  refine q_C.of hG (by decide) (Nat.le_of_ble_eq_true rfl) ?_
  have ha : a < L := by rw [← hL]; exact (List.getElem?_eq_some_iff.mp h_o).1
  have hF : K_n a L hp hp := K_n.rfl hL
  refine q_aload_n d_St_init_0 rfl rfl ?_
  refine q_objInit d_St_init_1 lo_St_3 oi_1 oi_2 (Nat.le_of_ble_eq_true rfl) (Nat.le_of_ble_eq_true rfl) ?_
  refine q_aload_n d_St_init_4 rfl rfl ?_
  refine q_bipush (v := 6) d_St_init_5 (by decide) ?_
  refine x_newa_i (L := L) d_St_init_7 a_i (by decide) (N := 6) rfl (by decide) (Nat.le_of_ble_eq_true rfl) (Nat.le_of_ble_eq_true rfl) hL (fun hp1 e1 => ?_)
  have h_n0 := q_apl e1 hL
  have h_o := q_app e1 h_o
  have hF := K_n.app hF e1
  have hL := q_len e1 hL
  refine x_putF d_St_init_9 f_St_9 rfl (fun q h => by cases h; rfl) h_o (Nat.le_of_ble_eq_true rfl) rfl rfl (fun hp2 e2 h_o => ?_)
  have h_n0 := q_keep e2 h_n0 (by omega)
  have hF := K_n.set hF e2 (by omega)
  have hL := q_lns e2 hL
  refine q_aload_n d_St_init_12 rfl rfl ?_
  refine q_iconst (v := 5) d_St_init_13 (by decide) ?_
  refine x_newa_i (L := L + 1) d_St_init_14 a_i (by decide) (N := 5) rfl (by decide) (Nat.le_of_ble_eq_true rfl) (Nat.le_of_ble_eq_true rfl) hL (fun hp3 e3 => ?_)
  have h_n1 := q_apl e3 hL
  have h_o := q_app e3 h_o
  have h_n0 := q_app e3 h_n0
  have hF := K_n.app hF e3
  have hL := q_len e3 hL
  refine x_putF d_St_init_16 f_St_15 rfl (fun q h => by cases h; rfl) h_o (Nat.le_of_ble_eq_true rfl) rfl rfl (fun hp4 e4 h_o => ?_)
  have h_n0 := q_keep e4 h_n0 (by omega)
  have h_n1 := q_keep e4 h_n1 (by omega)
  have hF := K_n.set hF e4 (by omega)
  have hL := q_lns e4 hL
  refine q_vret d_St_init_19 rfl ?_ (Nat.le_of_ble_eq_true rfl) (Nat.le_of_ble_eq_true rfl) (by decide)
  exact ⟨_, rfl, rfl, hF, hL, h_o, h_n0, h_n1⟩
set_option maxRecDepth 10000 in
set_option maxHeartbeats 2000000 in
theorem c_Co_init (hG : q_GG g) {hp : List va_E} {a L : Nat} (h_o : hp[a]? = some (.inr (3, [.int 0, .int 0, .null, .null, .null, .null]))) (hL : hp.length = L) : q_C g m_Co_init true (q_R 1 20 4 52) [.ref a] hp (q_ho none (fun h => K_n a L hp h ∧ h.length = L + 4 ∧ h[a]? = some (.inr (3, [.int 1, .int 0, .ref L, .ref (L + 1), .ref (L + 2), .ref (L + 3)])) ∧ h[L]? = some (a_I 13 (fun _ => 0)) ∧ h[L + 1]? = some (a_I 13 (fun _ => 0)) ∧ h[L + 2]? = some (a_I 13 (fun _ => 0)) ∧ h[L + 3]? = some (a_I 13 (fun _ => 0)))) := by
  refine q_C.of hG (by decide) (Nat.le_of_ble_eq_true rfl) ?_
  have ha : a < L := by rw [← hL]; exact (List.getElem?_eq_some_iff.mp h_o).1
  have hF : K_n a L hp hp := K_n.rfl hL
  refine q_aload_n d_Co_init_0 rfl rfl ?_
  refine q_objInit d_Co_init_1 lo_Co_3 oi_1 oi_2 (Nat.le_of_ble_eq_true rfl) (Nat.le_of_ble_eq_true rfl) ?_
  refine q_aload_n d_Co_init_4 rfl rfl ?_
  refine q_iconst (v := 1) d_Co_init_5 (by decide) ?_
  refine x_put d_Co_init_6 f_Co_9 h_o (Nat.le_of_ble_eq_true rfl) rfl rfl (fun hp1 e1 h_o => ?_)
  have hF := K_n.set hF e1 (by omega)
  have hL := q_lns e1 hL
  refine q_aload_n d_Co_init_9 rfl rfl ?_
  refine q_bipush (v := 13) d_Co_init_10 (by decide) ?_
  refine x_newa_i (L := L) d_Co_init_12 a_i (by decide) (N := 13) rfl (by decide) (Nat.le_of_ble_eq_true rfl) (Nat.le_of_ble_eq_true rfl) hL (fun hp2 e2 => ?_)
  have h_n0 := q_apl e2 hL
  have h_o := q_app e2 h_o
  have hF := K_n.app hF e2
  have hL := q_len e2 hL
  refine x_putF d_Co_init_14 f_Co_15 rfl (fun q h => by cases h; rfl) h_o (Nat.le_of_ble_eq_true rfl) rfl rfl (fun hp3 e3 h_o => ?_)
  have h_n0 := q_keep e3 h_n0 (by omega)
  have hF := K_n.set hF e3 (by omega)
  have hL := q_lns e3 hL
  refine q_aload_n d_Co_init_17 rfl rfl ?_
  refine q_bipush (v := 13) d_Co_init_18 (by decide) ?_
  refine x_newa_i (L := L + 1) d_Co_init_20 a_i (by decide) (N := 13) rfl (by decide) (Nat.le_of_ble_eq_true rfl) (Nat.le_of_ble_eq_true rfl) hL (fun hp4 e4 => ?_)
  have h_n1 := q_apl e4 hL
  have h_o := q_app e4 h_o
  have h_n0 := q_app e4 h_n0
  have hF := K_n.app hF e4
  have hL := q_len e4 hL
  refine x_putF d_Co_init_22 f_Co_19 rfl (fun q h => by cases h; rfl) h_o (Nat.le_of_ble_eq_true rfl) rfl rfl (fun hp5 e5 h_o => ?_)
  have h_n0 := q_keep e5 h_n0 (by omega)
  have h_n1 := q_keep e5 h_n1 (by omega)
  have hF := K_n.set hF e5 (by omega)
  have hL := q_lns e5 hL
  refine q_aload_n d_Co_init_25 rfl rfl ?_
  refine q_bipush (v := 13) d_Co_init_26 (by decide) ?_
  refine x_newa_i (L := L + 2) d_Co_init_28 a_i (by decide) (N := 13) rfl (by decide) (Nat.le_of_ble_eq_true rfl) (Nat.le_of_ble_eq_true rfl) hL (fun hp6 e6 => ?_)
  have h_n2 := q_apl e6 hL
  have h_o := q_app e6 h_o
  have h_n0 := q_app e6 h_n0
  have h_n1 := q_app e6 h_n1
  have hF := K_n.app hF e6
  have hL := q_len e6 hL
  refine x_putF d_Co_init_30 f_Co_22 rfl (fun q h => by cases h; rfl) h_o (Nat.le_of_ble_eq_true rfl) rfl rfl (fun hp7 e7 h_o => ?_)
  have h_n0 := q_keep e7 h_n0 (by omega)
  have h_n1 := q_keep e7 h_n1 (by omega)
  have h_n2 := q_keep e7 h_n2 (by omega)
  have hF := K_n.set hF e7 (by omega)
  have hL := q_lns e7 hL
  refine q_aload_n d_Co_init_33 rfl rfl ?_
  refine q_bipush (v := 13) d_Co_init_34 (by decide) ?_
  refine x_newa_i (L := L + 3) d_Co_init_36 a_i (by decide) (N := 13) rfl (by decide) (Nat.le_of_ble_eq_true rfl) (Nat.le_of_ble_eq_true rfl) hL (fun hp8 e8 => ?_)
  have h_n3 := q_apl e8 hL
  have h_o := q_app e8 h_o
  have h_n0 := q_app e8 h_n0
  have h_n1 := q_app e8 h_n1
  have h_n2 := q_app e8 h_n2
  have hF := K_n.app hF e8
  have hL := q_len e8 hL
  refine x_putF d_Co_init_38 f_Co_25 rfl (fun q h => by cases h; rfl) h_o (Nat.le_of_ble_eq_true rfl) rfl rfl (fun hp9 e9 h_o => ?_)
  have h_n0 := q_keep e9 h_n0 (by omega)
  have h_n1 := q_keep e9 h_n1 (by omega)
  have h_n2 := q_keep e9 h_n2 (by omega)
  have h_n3 := q_keep e9 h_n3 (by omega)
  have hF := K_n.set hF e9 (by omega)
  have hL := q_lns e9 hL
  refine q_vret d_Co_init_41 rfl ?_ (Nat.le_of_ble_eq_true rfl) (Nat.le_of_ble_eq_true rfl) (by decide)
  exact ⟨_, rfl, rfl, hF, hL, h_o, h_n0, h_n1, h_n2, h_n3⟩
set_option maxRecDepth 10000 in
set_option maxHeartbeats 2000000 in
theorem c_Ss_init (hG : q_GG g) {hp : List va_E} {a L : Nat} (h_o : hp[a]? = some (.inr (7, [.null, .int 0]))) (hL : hp.length = L) : q_C g m_Ss_init true (q_R 1 20 1 469) [.ref a] hp (q_ho none (fun h => K_n a L hp h ∧ h.length = L + 1 ∧ h[a]? = some (.inr (7, [.ref L, .int 469])) ∧ h[L]? = some (a_J 469 (fun _ => 0)))) := by
  refine q_C.of hG (by decide) (Nat.le_of_ble_eq_true rfl) ?_
  have ha : a < L := by rw [← hL]; exact (List.getElem?_eq_some_iff.mp h_o).1
  have hF : K_n a L hp hp := K_n.rfl hL
  refine q_aload_n d_Ss_init_0 rfl rfl ?_
  refine q_objInit d_Ss_init_1 lo_Ss_3 oi_1 oi_2 (Nat.le_of_ble_eq_true rfl) (Nat.le_of_ble_eq_true rfl) ?_
  refine q_aload_n d_Ss_init_4 rfl rfl ?_
  refine q_sipush (v := 469) d_Ss_init_5 (by decide) ?_
  refine x_newa_l (L := L) d_Ss_init_8 a_l (by decide) (N := 469) rfl (by decide) (Nat.le_of_ble_eq_true rfl) (Nat.le_of_ble_eq_true rfl) hL (fun hp1 e1 => ?_)
  have h_n0 := q_apl e1 hL
  have h_o := q_app e1 h_o
  have hF := K_n.app hF e1
  have hL := q_len e1 hL
  refine x_putF d_Ss_init_10 f_Ss_11 rfl (fun q h => by cases h; rfl) h_o (Nat.le_of_ble_eq_true rfl) rfl rfl (fun hp2 e2 h_o => ?_)
  have h_n0 := q_keep e2 h_n0 (by omega)
  have hF := K_n.set hF e2 (by omega)
  have hL := q_lns e2 hL
  refine q_aload_n d_Ss_init_13 rfl rfl ?_
  refine q_sipush (v := 469) d_Ss_init_14 (by decide) ?_
  refine x_put d_Ss_init_17 f_Ss_15 h_o (Nat.le_of_ble_eq_true rfl) rfl rfl (fun hp3 e3 h_o => ?_)
  have h_n0 := q_keep e3 h_n0 (by omega)
  have hF := K_n.set hF e3 (by omega)
  have hL := q_lns e3 hL
  refine q_vret d_Ss_init_20 rfl ?_ (Nat.le_of_ble_eq_true rfl) (Nat.le_of_ble_eq_true rfl) (by decide)
  exact ⟨_, rfl, rfl, hF, hL, h_o, h_n0⟩
end C41
