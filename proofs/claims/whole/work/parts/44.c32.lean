/-! the whole class: told, where it does not fail -/
section C32
variable {g : q_G}
set_option maxRecDepth 10000 in
set_option maxHeartbeats 2000000 in
theorem c_S_told0 (hG : q_GG g) {n : Nat} {f : Nat → Int32} {w : w_T} {S : x_S} {B : z_S} {cp cv : Nat → Nat} {gone : Nat} {hp : List va_E} {i : Nat} (h : T_A n f w S B cp cv gone hp) (hok : w_ok w) (hi : i < w_p w) : q_C g m_S_told false (q_R 2 40 0 0) [.ref 0, .int (nI i), .int 0] hp (q_ret (some (.int (nI (c_n (w_c w i))))) hp) := by
  refine q_C.of hG (by decide) (Nat.le_of_ble_eq_true rfl) ?_
  have h_s := h.1
  have h_w := h.2.2.2.1.1
  have h_cr := h.2.2.2.1.2.2.2.1
  have hp6 := hok.2.1
  have hC := h.2.2.2.1.2.2.2.2 i (by omega)
  have h_co := hC.1
  obtain ⟨c1, c2, ce, c4⟩ := hok.2.2.2 i (by omega)
  have hin : vp_in (nI i) 6 := vp_in_nI (by omega) (by decide)
  refine q_iload_n d_S_told_0 rfl ?_
  refine q_aload_n d_S_told_1 rfl rfl ?_
  refine q_get d_S_told_2 f_S_19 h_s rfl ?_
  refine q_get d_S_told_5 f_S_75 h_w rfl ?_
  refine x_callS d_S_told_8 l_S_95 s_S_checkIndex (c_S_checkIndex hG hi (by omega)) rfl rfl (Nat.le_of_ble_eq_true rfl) (Nat.le_of_ble_eq_true rfl) (Nat.le_of_ble_eq_true rfl) (Nat.le_of_ble_eq_true rfl) ?_
  refine q_aload_n d_S_told_11 rfl rfl ?_
  refine q_get d_S_told_12 f_S_19 h_s rfl ?_
  refine q_get d_S_told_15 f_S_78 h_w rfl ?_
  refine q_iload_n d_S_told_18 rfl ?_
  refine q_aald d_S_told_19 h_cr rfl hin (cr_at (by omega)) ?_
  refine q_astore_n d_S_told_20 rfl rfl (by decide) rfl ?_
  refine q_iload_n d_S_told_21 rfl ?_
  refine q_tableIn (tgt := 48) d_S_told_22 (by decide) (by decide) rfl (by decide) ?_
  refine q_aload_n d_S_told_48 rfl rfl ?_
  refine q_get d_S_told_49 f_S_98 h_co rfl ?_
  refine q_iret d_S_told_52 rfl ?_ (Nat.le_of_ble_eq_true rfl) (Nat.le_of_ble_eq_true rfl) (by decide)
  exact ⟨rfl, rfl⟩
set_option maxRecDepth 10000 in
set_option maxHeartbeats 2000000 in
theorem c_S_told1 (hG : q_GG g) {n : Nat} {f : Nat → Int32} {w : w_T} {S : x_S} {B : z_S} {cp cv : Nat → Nat} {gone : Nat} {hp : List va_E} {i : Nat} (h : T_A n f w S B cp cv gone hp) (hok : w_ok w) (hi : i < w_p w) : q_C g m_S_told false (q_R 2 40 0 0) [.ref 0, .int (nI i), .int 1] hp (q_ret (some (.int (co_cs (fun j => nI (c_s (w_c w i) j)) (c_n (w_c w i))))) hp) := by
  refine q_C.of hG (by decide) (Nat.le_of_ble_eq_true rfl) ?_
  have h_s := h.1
  have h_w := h.2.2.2.1.1
  have h_cr := h.2.2.2.1.2.2.2.1
  have hp6 := hok.2.1
  have hC := h.2.2.2.1.2.2.2.2 i (by omega)
  have h_co := hC.1
  obtain ⟨c1, c2, ce, c4⟩ := hok.2.2.2 i (by omega)
  have hin : vp_in (nI i) 6 := vp_in_nI (by omega) (by decide)
  refine q_iload_n d_S_told_0 rfl ?_
  refine q_aload_n d_S_told_1 rfl rfl ?_
  refine q_get d_S_told_2 f_S_19 h_s rfl ?_
  refine q_get d_S_told_5 f_S_75 h_w rfl ?_
  refine x_callS d_S_told_8 l_S_95 s_S_checkIndex (c_S_checkIndex hG hi (by omega)) rfl rfl (Nat.le_of_ble_eq_true rfl) (Nat.le_of_ble_eq_true rfl) (Nat.le_of_ble_eq_true rfl) (Nat.le_of_ble_eq_true rfl) ?_
  refine q_aload_n d_S_told_11 rfl rfl ?_
  refine q_get d_S_told_12 f_S_19 h_s rfl ?_
  refine q_get d_S_told_15 f_S_78 h_w rfl ?_
  refine q_iload_n d_S_told_18 rfl ?_
  refine q_aald d_S_told_19 h_cr rfl hin (cr_at (by omega)) ?_
  refine q_astore_n d_S_told_20 rfl rfl (by decide) rfl ?_
  refine q_iload_n d_S_told_21 rfl ?_
  refine q_tableIn (tgt := 53) d_S_told_22 (by decide) (by decide) rfl (by decide) ?_
  refine q_aload_n d_S_told_53 rfl rfl ?_
  refine x_callV d_S_told_54 l_S_103 i_Co_countSteps v_Co_countSteps rfl h_co (c_Co_countSteps hG c2 h_co hC.2.1) rfl rfl (Nat.le_of_ble_eq_true rfl) (Nat.le_of_ble_eq_true rfl) (Nat.le_of_ble_eq_true rfl) (Nat.le_of_ble_eq_true rfl) ?_
  refine q_iret d_S_told_57 rfl ?_ (Nat.le_of_ble_eq_true rfl) (Nat.le_of_ble_eq_true rfl) (by decide)
  exact ⟨rfl, rfl⟩
set_option maxRecDepth 10000 in
set_option maxHeartbeats 2000000 in
theorem c_S_told2 (hG : q_GG g) {n : Nat} {f : Nat → Int32} {w : w_T} {S : x_S} {B : z_S} {cp cv : Nat → Nat} {gone : Nat} {hp : List va_E} {i : Nat} (h : T_A n f w S B cp cv gone hp) (hok : w_ok w) (hi : i < w_p w) : q_C g m_S_told false (q_R 2 40 0 0) [.ref 0, .int (nI i), .int 2] hp (q_ret (some (.int (nI (pb_cnt 13 (c_e (w_c w i)))))) hp) := by
  refine q_C.of hG (by decide) (Nat.le_of_ble_eq_true rfl) ?_
  have h_s := h.1
  have h_w := h.2.2.2.1.1
  have h_cr := h.2.2.2.1.2.2.2.1
  have hp6 := hok.2.1
  have hC := h.2.2.2.1.2.2.2.2 i (by omega)
  have h_co := hC.1
  obtain ⟨c1, c2, ce, c4⟩ := hok.2.2.2 i (by omega)
  have hin : vp_in (nI i) 6 := vp_in_nI (by omega) (by decide)
  refine q_iload_n d_S_told_0 rfl ?_
  refine q_aload_n d_S_told_1 rfl rfl ?_
  refine q_get d_S_told_2 f_S_19 h_s rfl ?_
  refine q_get d_S_told_5 f_S_75 h_w rfl ?_
  refine x_callS d_S_told_8 l_S_95 s_S_checkIndex (c_S_checkIndex hG hi (by omega)) rfl rfl (Nat.le_of_ble_eq_true rfl) (Nat.le_of_ble_eq_true rfl) (Nat.le_of_ble_eq_true rfl) (Nat.le_of_ble_eq_true rfl) ?_
  refine q_aload_n d_S_told_11 rfl rfl ?_
  refine q_get d_S_told_12 f_S_19 h_s rfl ?_
  refine q_get d_S_told_15 f_S_78 h_w rfl ?_
  refine q_iload_n d_S_told_18 rfl ?_
  refine q_aald d_S_told_19 h_cr rfl hin (cr_at (by omega)) ?_
  refine q_astore_n d_S_told_20 rfl rfl (by decide) rfl ?_
  refine q_iload_n d_S_told_21 rfl ?_
  refine q_tableIn (tgt := 58) d_S_told_22 (by decide) (by decide) rfl (by decide) ?_
  refine q_aload_n d_S_told_58 rfl rfl ?_
  refine q_get d_S_told_59 f_S_107 h_co rfl ?_
  refine x_callS d_S_told_62 l_S_110 s_In_bitCount (c_In_bitCount hG) rfl rfl (Nat.le_of_ble_eq_true rfl) (Nat.le_of_ble_eq_true rfl) (Nat.le_of_ble_eq_true rfl) (Nat.le_of_ble_eq_true rfl) ?_
  rw [pb_ib _ ce]
  refine q_iret d_S_told_65 rfl ?_ (Nat.le_of_ble_eq_true rfl) (Nat.le_of_ble_eq_true rfl) (by decide)
  exact ⟨rfl, rfl⟩
end C32
