/-! the whole class: calls that can fail, where they do not -/
section C29
variable {g : q_G}
theorem w_A.set2 {w : w_T} {hp : List va_E} {x : va_E} (h : w_A w hp) : w_A w (hp.set (1 + 1) x) := by
  have hk : ∀ k, 3 ≤ k → (hp.set (1 + 1) x)[k]? = hp[k]? := fun k e => List.getElem?_set_ne (by omega)
  exact ⟨(hk _ (by omega)).trans h.1, (hk _ (by omega)).trans h.2.1, (hk _ (by omega)).trans h.2.2.1, (hk _ (by omega)).trans h.2.2.2.1, fun q hq => have c := h.2.2.2.2 q hq; ⟨(hk _ (by omega)).trans c.1, (hk _ (by omega)).trans c.2.1, (hk _ (by omega)).trans c.2.2.1, (hk _ (by omega)).trans c.2.2.2.1, (hk _ (by omega)).trans c.2.2.2.2⟩⟩
set_option maxRecDepth 10000 in
set_option maxHeartbeats 2000000 in
theorem c_S_checkIndex (hG : q_GG g) {hp : List va_E} {i n : Nat} (hi : i < n) (hn : n < 2 ^ 31) : q_C g m_S_checkIndex false (q_R 0 0 0 0) [.int (nI i), .int (nI n)] hp (q_ret none hp) := by
  refine q_C.of hG (by decide) (Nat.le_of_ble_eq_true rfl) ?_
  refine q_iload_n d_S_checkIndex_0 rfl ?_
  refine q_if_lt (tgt := 9) d_S_checkIndex_1 (by decide) (fun b1 => ?_) (fun b1 => ?_)
  · skip
    exact absurd b1 (nI_pos (by omega))
  · skip
    refine q_iload_n d_S_checkIndex_4 rfl ?_
    refine q_iload_n d_S_checkIndex_5 rfl ?_
    refine q_icmp_lt (tgt := 19) d_S_checkIndex_6 (by decide) (fun b6 => ?_) (fun b6 => ?_)
    · skip
      refine q_vret d_S_checkIndex_19 rfl ?_ (Nat.le_of_ble_eq_true rfl) (Nat.le_of_ble_eq_true rfl) (by decide)
      exact ⟨rfl, rfl⟩
    · skip
      exact absurd (nI_lt hi hn) b6
set_option maxRecDepth 10000 in
set_option maxHeartbeats 2000000 in
theorem c_S_checkSearchable (hG : q_GG g) {n : Nat} {f : Nat → Int32} {w : w_T} {S : x_S} {B : z_S} {cp cv : Nat → Nat} {gone : Nat} {hp : List va_E} (h : T_A n f w S B cp cv gone hp) (hok : w_ok w) (hN : w_q w ≤ 30000) : q_C g m_S_checkSearchable false (q_R 2 30 0 0) [.ref 0] hp (q_ret none hp) := by
  refine q_C.of hG (by decide) (Nat.le_of_ble_eq_true rfl) ?_
  have h_s := h.1
  have h_t := h.2.1
  have h_w := h.2.2.2.1.1
  have h_r := h.2.2.2.2.1.1
  have h_e := h.2.2.2.2.2.1.1
  have h_c := h.2.2.2.2.2.2.1
  have h_cp := h.2.2.2.2.2.2.2.1
  have h_cv := h.2.2.2.2.2.2.2.2
  refine q_aload_n d_S_checkSearchable_0 rfl rfl ?_
  refine q_get d_S_checkSearchable_1 f_S_19 h_s rfl ?_
  refine x_callV d_S_checkSearchable_4 l_S_118 i_Wo_isSearchable v_Wo_isSearchable rfl h_w (c_Wo_isSearchable hG hok h.2.2.2.1) rfl rfl (Nat.le_of_ble_eq_true rfl) (Nat.le_of_ble_eq_true rfl) (Nat.le_of_ble_eq_true rfl) (Nat.le_of_ble_eq_true rfl) ?_
  refine q_if_ne (tgt := 20) d_S_checkSearchable_7 (by decide) (fun b7 => ?_) (fun b7 => ?_)
  · skip
    refine q_vret d_S_checkSearchable_20 rfl ?_ (Nat.le_of_ble_eq_true rfl) (Nat.le_of_ble_eq_true rfl) (by decide)
    exact ⟨rfl, rfl⟩
  · skip
    rw [if_pos hN] at b7
    exact absurd b7 (by decide)
set_option maxRecDepth 10000 in
set_option maxHeartbeats 2000000 in
theorem c_S_now (hG : q_GG g) {n : Nat} {f : Nat → Int32} {w : w_T} {S : x_S} {B : z_S} {cp cv : Nat → Nat} {gone : Nat} {hp : List va_E} {i : Nat} (h : T_A n f w S B cp cv gone hp) (hok : w_ok w) (hi : i < w_p w) : q_C g m_S_now false (q_R 1 20 0 0) [.ref 0, .int (nI i)] hp (q_ret (some (.int (nI (cp i)))) hp) := by
  refine q_C.of hG (by decide) (Nat.le_of_ble_eq_true rfl) ?_
  have h_s := h.1
  have h_t := h.2.1
  have h_w := h.2.2.2.1.1
  have h_r := h.2.2.2.2.1.1
  have h_e := h.2.2.2.2.2.1.1
  have h_c := h.2.2.2.2.2.2.1
  have h_cp := h.2.2.2.2.2.2.2.1
  have h_cv := h.2.2.2.2.2.2.2.2
  have h5 := hok.1
  have h6 := hok.2.1
  have hcl : (nI i).toNatClampNeg = i := nI_clamp (by omega)
  have hin : vp_in (nI i) 6 := vp_in_nI (by omega) (by decide)
  refine q_iload_n d_S_now_0 rfl ?_
  refine q_aload_n d_S_now_1 rfl rfl ?_
  refine q_get d_S_now_2 f_S_19 h_s rfl ?_
  refine q_get d_S_now_5 f_S_75 h_w rfl ?_
  refine x_callS d_S_now_8 l_S_95 s_S_checkIndex (c_S_checkIndex hG hi (by omega)) rfl rfl (Nat.le_of_ble_eq_true rfl) (Nat.le_of_ble_eq_true rfl) (Nat.le_of_ble_eq_true rfl) (Nat.le_of_ble_eq_true rfl) ?_
  refine q_aload_n d_S_now_11 rfl rfl ?_
  refine q_get d_S_now_12 f_S_44 h_s rfl ?_
  refine q_get d_S_now_15 f_S_142 h_c rfl ?_
  refine q_iload_n d_S_now_18 rfl ?_
  refine q_iald d_S_now_19 h_cp rfl hin ?_
  rw [hcl]
  refine q_iret d_S_now_20 rfl ?_ (Nat.le_of_ble_eq_true rfl) (Nat.le_of_ble_eq_true rfl) (by decide)
  exact ⟨rfl, rfl⟩
set_option maxRecDepth 10000 in
set_option maxHeartbeats 2000000 in
theorem c_S_has (hG : q_GG g) {n : Nat} {f : Nat → Int32} {w : w_T} {S : x_S} {B : z_S} {cp cv : Nat → Nat} {gone : Nat} {hp : List va_E} {i : Nat} (h : T_A n f w S B cp cv gone hp) (hok : w_ok w) (hi : i < w_n w) : q_C g m_S_has false (q_R 1 20 0 0) [.ref 0, .int (nI i)] hp (q_ret (some (.int (nI (cv i)))) hp) := by
  refine q_C.of hG (by decide) (Nat.le_of_ble_eq_true rfl) ?_
  have h_s := h.1
  have h_t := h.2.1
  have h_w := h.2.2.2.1.1
  have h_r := h.2.2.2.2.1.1
  have h_e := h.2.2.2.2.2.1.1
  have h_c := h.2.2.2.2.2.2.1
  have h_cp := h.2.2.2.2.2.2.2.1
  have h_cv := h.2.2.2.2.2.2.2.2
  have h5 := hok.1
  have h6 := hok.2.1
  have hcl : (nI i).toNatClampNeg = i := nI_clamp (by omega)
  have hin : vp_in (nI i) 5 := vp_in_nI (by omega) (by decide)
  refine q_iload_n d_S_has_0 rfl ?_
  refine q_aload_n d_S_has_1 rfl rfl ?_
  refine q_get d_S_has_2 f_S_19 h_s rfl ?_
  refine q_get d_S_has_5 f_S_65 h_w rfl ?_
  refine x_callS d_S_has_8 l_S_95 s_S_checkIndex (c_S_checkIndex hG hi (by omega)) rfl rfl (Nat.le_of_ble_eq_true rfl) (Nat.le_of_ble_eq_true rfl) (Nat.le_of_ble_eq_true rfl) (Nat.le_of_ble_eq_true rfl) ?_
  refine q_aload_n d_S_has_11 rfl rfl ?_
  refine q_get d_S_has_12 f_S_44 h_s rfl ?_
  refine q_get d_S_has_15 f_S_146 h_c rfl ?_
  refine q_iload_n d_S_has_18 rfl ?_
  refine q_iald d_S_has_19 h_cv rfl hin ?_
  rw [hcl]
  refine q_iret d_S_has_20 rfl ?_ (Nat.le_of_ble_eq_true rfl) (Nat.le_of_ble_eq_true rfl) (by decide)
  exact ⟨rfl, rfl⟩
set_option maxRecDepth 10000 in
set_option maxHeartbeats 2000000 in
theorem c_S_feed (hG : q_GG g) {n : Nat} {f : Nat → Int32} {w : w_T} {S : x_S} {B : z_S} {cp cv : Nat → Nat} {gone : Nat} {hp : List va_E} {k : Nat} {x : Int64} (h : T_A n f w S B cp cv gone hp) (hk1 : 1 ≤ k) (hk8 : k ≤ 8) (hL : n + k ≤ 100) : q_C g m_S_feed true (q_R 1 20 0 0) [.ref 0, .int (nI k), .long x] hp (q_ho (some (.int (nI (n + k)))) (fun hp2 => T_A (n + k) (ta_ap x n k f) w S B cp cv gone hp2 ∧ F_T hp hp2)) := by
  refine q_C.of hG (by decide) (Nat.le_of_ble_eq_true rfl) ?_
  have h_s := h.1
  have h_t := h.2.1
  have h_w := h.2.2.2.1.1
  have h_r := h.2.2.2.2.1.1
  have h_e := h.2.2.2.2.2.1.1
  have h_c := h.2.2.2.2.2.2.1
  have h_cp := h.2.2.2.2.2.2.2.1
  have h_cv := h.2.2.2.2.2.2.2.2
  refine q_iload_n d_S_feed_0 rfl ?_
  refine q_iconst (v := 1) d_S_feed_1 (by decide) ?_
  refine q_icmp_lt (tgt := 11) d_S_feed_2 (by decide) (fun b2 => ?_) (fun b2 => ?_)
  · skip
    exact absurd b2 (nI_nlt (b := 1) (by omega) (by omega))
  · skip
    refine q_iload_n d_S_feed_5 rfl ?_
    refine q_bipush (v := 8) d_S_feed_6 (by decide) ?_
    refine q_icmp_le (tgt := 21) d_S_feed_8 (by decide) (fun b8 => ?_) (fun b8 => ?_)
    · skip
      refine q_aload_n d_S_feed_21 rfl rfl ?_
      refine q_get d_S_feed_22 f_S_10 h_s rfl ?_
      refine q_iload_n d_S_feed_25 rfl ?_
      refine q_lload_n d_S_feed_26 rfl ?_
      refine x_callV (as := [.int (nI k), .long x]) d_S_feed_27 l_S_55 i_Ta_append v_Ta_append rfl h_t (c_Ta_append hG h_t h.2.2.1 hL) rfl rfl (Nat.le_of_ble_eq_true rfl) (Nat.le_of_ble_eq_true rfl) (Nat.le_of_ble_eq_true rfl) (Nat.le_of_ble_eq_true rfl) ?_
      have g1 := h.mix (n' := n + k) (f' := ta_ap x n k f) (hp' := (hp.set (1 + 1) (a_B 100 (ta_ap x n k f))).set 1 (o_Ta 1 (nI (n + k)))) (fun j hj => by rw [List.getElem?_set_ne (by omega), List.getElem?_set_ne (by omega)]) (q_self (q_keep rfl h.2.1 (by omega))) (q_keep rfl (q_self h.2.2.1) (by omega)) (h.2.2.2.1.set2.set1)
      have h_s := g1.1
      have h_t := g1.2.1
      refine q_if_eq (tgt := 43) d_S_feed_30 (by decide) (fun b30 => ?_) (fun b30 => ?_)
      · skip
        exact absurd b30 (by decide)
      · skip
        refine q_aload_n d_S_feed_33 rfl rfl ?_
        refine q_get d_S_feed_34 f_S_10 h_s rfl ?_
        refine q_get d_S_feed_37 f_S_59 h_t rfl ?_
        refine q_goto (tgt := 44) d_S_feed_40 (by decide) ?_
        refine q_iret d_S_feed_44 rfl ?_ (Nat.le_of_ble_eq_true rfl) (Nat.le_of_ble_eq_true rfl) (by decide)
        exact ⟨_, rfl, rfl, g1, (F_T.set _ (by omega)).trans (F_T.set _ (by omega))⟩
    · skip
      exact absurd (nI_le (b := 8) (by omega) (by decide)) b8
set_option maxRecDepth 10000 in
set_option maxHeartbeats 2000000 in
theorem c_S_feed0 (hG : q_GG g) {n : Nat} {f : Nat → Int32} {w : w_T} {S : x_S} {B : z_S} {cp cv : Nat → Nat} {gone : Nat} {hp : List va_E} {k : Nat} {x : Int64} (h : T_A n f w S B cp cv gone hp) (hk1 : 1 ≤ k) (hk8 : k ≤ 8) (hn100 : n ≤ 100) (hL : 100 < n + k) : q_C g m_S_feed true (q_R 1 20 0 0) [.ref 0, .int (nI k), .long x] hp (q_ho (some (.int (-1))) (fun hp2 => T_A n f w S B cp cv gone hp2 ∧ F_T hp hp2)) := by
  refine q_C.of hG (by decide) (Nat.le_of_ble_eq_true rfl) ?_
  have h_s := h.1
  have h_t := h.2.1
  have h_w := h.2.2.2.1.1
  have h_r := h.2.2.2.2.1.1
  have h_e := h.2.2.2.2.2.1.1
  have h_c := h.2.2.2.2.2.2.1
  have h_cp := h.2.2.2.2.2.2.2.1
  have h_cv := h.2.2.2.2.2.2.2.2
  refine q_iload_n d_S_feed_0 rfl ?_
  refine q_iconst (v := 1) d_S_feed_1 (by decide) ?_
  refine q_icmp_lt (tgt := 11) d_S_feed_2 (by decide) (fun b2 => ?_) (fun b2 => ?_)
  · skip
    exact absurd b2 (nI_nlt (b := 1) (by omega) (by omega))
  · skip
    refine q_iload_n d_S_feed_5 rfl ?_
    refine q_bipush (v := 8) d_S_feed_6 (by decide) ?_
    refine q_icmp_le (tgt := 21) d_S_feed_8 (by decide) (fun b8 => ?_) (fun b8 => ?_)
    · skip
      refine q_aload_n d_S_feed_21 rfl rfl ?_
      refine q_get d_S_feed_22 f_S_10 h_s rfl ?_
      refine q_iload_n d_S_feed_25 rfl ?_
      refine q_lload_n d_S_feed_26 rfl ?_
      refine x_callV (as := [.int (nI k), .long x]) d_S_feed_27 l_S_55 i_Ta_append v_Ta_append rfl h_t (c_Ta_append0 hG h_t hn100 (by omega) hL) rfl rfl (Nat.le_of_ble_eq_true rfl) (Nat.le_of_ble_eq_true rfl) (Nat.le_of_ble_eq_true rfl) (Nat.le_of_ble_eq_true rfl) ?_
      refine q_if_eq (tgt := 43) d_S_feed_30 (by decide) (fun b30 => ?_) (fun b30 => ?_)
      · skip
        refine q_iconst (v := (-1)) d_S_feed_43 (by decide) ?_
        refine q_iret d_S_feed_44 rfl ?_ (Nat.le_of_ble_eq_true rfl) (Nat.le_of_ble_eq_true rfl) (by decide)
        exact ⟨hp, rfl, rfl, h, F_T.refl hp⟩
      · skip
        exact absurd rfl b30
    · skip
      exact absurd (nI_le (b := 8) (by omega) (by decide)) b8
set_option maxRecDepth 10000 in
set_option maxHeartbeats 2000000 in
theorem c_S_variable5 (hG : q_GG g) {n : Nat} {f : Nat → Int32} {w : w_T} {S : x_S} {B : z_S} {cp cv : Nat → Nat} {gone : Nat} {hp : List va_E} {x y : Nat} (h : T_A n f w S B cp cv gone hp) (hx2 : 2 ≤ x) (hx5 : x ≤ 5) (hyx : y < x) (h5 : w_n w = 5) : q_C g m_S_variable false (q_R 4 80 0 0) [.ref 0, .int (nI x), .int (nI y)] hp (q_ret (some (.int (-1))) hp) := by
  refine q_C.of hG (by decide) (Nat.le_of_ble_eq_true rfl) ?_
  have h_s := h.1
  have h_t := h.2.1
  have h_w := h.2.2.2.1.1
  have h_r := h.2.2.2.2.1.1
  have h_e := h.2.2.2.2.2.1.1
  have h_c := h.2.2.2.2.2.2.1
  have h_cp := h.2.2.2.2.2.2.2.1
  have h_cv := h.2.2.2.2.2.2.2.2
  refine q_iload_n d_S_variable_0 rfl ?_
  refine q_iconst (v := 2) d_S_variable_1 (by decide) ?_
  refine q_icmp_lt (tgt := 19) d_S_variable_2 (by decide) (fun b2 => ?_) (fun b2 => ?_)
  · skip
    exact absurd b2 (nI_nlt (b := 2) (by omega) (by omega))
  · skip
    refine q_iload_n d_S_variable_5 rfl ?_
    refine q_iconst (v := 5) d_S_variable_6 (by decide) ?_
    refine q_icmp_gt (tgt := 19) d_S_variable_7 (by decide) (fun b7 => ?_) (fun b7 => ?_)
    · skip
      exact absurd b7 (nI_nlt (a := 5) (b := x) (by omega) (by omega))
    · skip
      refine q_iload_n d_S_variable_10 rfl ?_
      refine q_if_lt (tgt := 19) d_S_variable_11 (by decide) (fun b11 => ?_) (fun b11 => ?_)
      · skip
        exact absurd b11 (nI_pos (by omega))
      · skip
        refine q_iload_n d_S_variable_14 rfl ?_
        refine q_iload_n d_S_variable_15 rfl ?_
        refine q_icmp_lt (tgt := 29) d_S_variable_16 (by decide) (fun b16 => ?_) (fun b16 => ?_)
        · skip
          refine q_aload_n d_S_variable_29 rfl rfl ?_
          refine q_get d_S_variable_30 f_S_19 h_s rfl ?_
          refine q_get d_S_variable_33 f_S_65 h_w rfl ?_
          refine q_iconst (v := 5) d_S_variable_36 (by decide) ?_
          refine q_icmp_lt (tgt := 42) d_S_variable_37 (by decide) (fun b37 => ?_) (fun b37 => ?_)
          · skip
            exact absurd b37 (by rw [h5]; decide)
          · skip
            refine q_iconst (v := (-1)) d_S_variable_40 (by decide) ?_
            refine q_iret d_S_variable_41 rfl ?_ (Nat.le_of_ble_eq_true rfl) (Nat.le_of_ble_eq_true rfl) (by decide)
            exact ⟨rfl, rfl⟩
        · skip
          exact absurd (nI_lt (by omega) (by omega)) b16
def w_av (w : w_T) (x y : Nat) : w_T := (w_n w + 1, va_up (w_z w) (w_n w) x, va_up (w_f w) (w_n w) y, w_p w, w_c w)
theorem w_av_A {w : w_T} {x y : Nat} {hp : List va_E} (h : w_A w hp) : w_A (w_av w x y) (((hp.set 4 (a_N 5 (va_up (w_z w) (w_n w) x))).set 5 (a_N 5 (va_up (w_f w) (w_n w) y))).set 3 (o_Wo (w_n w + 1) (w_p w))) := by
  obtain ⟨h1, h2, h3, h4, h5⟩ := h
  refine ⟨q_self (q_keep rfl (q_keep rfl h1 (by omega)) (by omega)), q_keep rfl (q_keep rfl (q_self h2) (by omega)) (by omega), q_keep rfl (q_self (q_keep rfl h3 (by omega))) (by omega), q_keep rfl (q_keep rfl (q_keep rfl h4 (by omega)) (by omega)) (by omega), fun q hq => ?_⟩
  have c := h5 q hq
  have hk : ∀ k, 7 ≤ k → (((hp.set 4 (a_N 5 (va_up (w_z w) (w_n w) x))).set 5 (a_N 5 (va_up (w_f w) (w_n w) y))).set 3 (o_Wo (w_n w + 1) (w_p w)))[k]? = hp[k]? := fun k e => by rw [List.getElem?_set_ne (by omega), List.getElem?_set_ne (by omega), List.getElem?_set_ne (by omega)]
  exact ⟨(hk _ (by omega)).trans c.1, (hk _ (by omega)).trans c.2.1, (hk _ (by omega)).trans c.2.2.1, (hk _ (by omega)).trans c.2.2.2.1, (hk _ (by omega)).trans c.2.2.2.2⟩
set_option maxRecDepth 10000 in
set_option maxHeartbeats 2000000 in
theorem c_S_variable (hG : q_GG g) {n : Nat} {f : Nat → Int32} {w : w_T} {S : x_S} {B : z_S} {cp cv : Nat → Nat} {gone : Nat} {hp : List va_E} {x y : Nat} (h : T_A n f w S B cp cv gone hp) (hx2 : 2 ≤ x) (hx5 : x ≤ 5) (hyx : y < x) (h5 : w_n w < 5) : q_C g m_S_variable true (q_R 4 80 0 0) [.ref 0, .int (nI x), .int (nI y)] hp (q_ho (some (.int (nI (w_n w)))) (fun hp2 => T_A n f (w_av w x y) S (B_0 B) (cp0 cp) (cv0 (w_f (w_av w x y)) cv) 0 hp2 ∧ F_T hp hp2)) := by
  refine q_C.of hG (by decide) (Nat.le_of_ble_eq_true rfl) ?_
  have h_s := h.1
  have h_t := h.2.1
  have h_w := h.2.2.2.1.1
  have h_r := h.2.2.2.2.1.1
  have h_e := h.2.2.2.2.2.1.1
  have h_c := h.2.2.2.2.2.2.1
  have h_cp := h.2.2.2.2.2.2.2.1
  have h_cv := h.2.2.2.2.2.2.2.2
  refine q_iload_n d_S_variable_0 rfl ?_
  refine q_iconst (v := 2) d_S_variable_1 (by decide) ?_
  refine q_icmp_lt (tgt := 19) d_S_variable_2 (by decide) (fun b2 => ?_) (fun b2 => ?_)
  · skip
    exact absurd b2 (nI_nlt (b := 2) (by omega) (by omega))
  · skip
    refine q_iload_n d_S_variable_5 rfl ?_
    refine q_iconst (v := 5) d_S_variable_6 (by decide) ?_
    refine q_icmp_gt (tgt := 19) d_S_variable_7 (by decide) (fun b7 => ?_) (fun b7 => ?_)
    · skip
      exact absurd b7 (nI_nlt (a := 5) (b := x) (by omega) (by omega))
    · skip
      refine q_iload_n d_S_variable_10 rfl ?_
      refine q_if_lt (tgt := 19) d_S_variable_11 (by decide) (fun b11 => ?_) (fun b11 => ?_)
      · skip
        exact absurd b11 (nI_pos (by omega))
      · skip
        refine q_iload_n d_S_variable_14 rfl ?_
        refine q_iload_n d_S_variable_15 rfl ?_
        refine q_icmp_lt (tgt := 29) d_S_variable_16 (by decide) (fun b16 => ?_) (fun b16 => ?_)
        · skip
          refine q_aload_n d_S_variable_29 rfl rfl ?_
          refine q_get d_S_variable_30 f_S_19 h_s rfl ?_
          refine q_get d_S_variable_33 f_S_65 h_w rfl ?_
          refine q_iconst (v := 5) d_S_variable_36 (by decide) ?_
          refine q_icmp_lt (tgt := 42) d_S_variable_37 (by decide) (fun b37 => ?_) (fun b37 => ?_)
          · skip
            refine q_aload_n d_S_variable_42 rfl rfl ?_
            refine q_get d_S_variable_43 f_S_19 h_s rfl ?_
            refine q_iload_n d_S_variable_46 rfl ?_
            refine q_iload_n d_S_variable_47 rfl ?_
            refine x_callV d_S_variable_48 l_S_68 i_Wo_addVariable v_Wo_addVariable rfl h_w (c_Wo_addVariable hG h_w h.2.2.2.1.2.1 h.2.2.2.1.2.2.1 h5) rfl rfl (Nat.le_of_ble_eq_true rfl) (Nat.le_of_ble_eq_true rfl) (Nat.le_of_ble_eq_true rfl) (Nat.le_of_ble_eq_true rfl) ?_
            have g1 := h.mix (hp' := ((hp.set 4 (a_N 5 (va_up (w_z w) (w_n w) x))).set 5 (a_N 5 (va_up (w_f w) (w_n w) y))).set 3 (o_Wo (w_n w + 1) (w_p w))) (fun k hk => by rw [List.getElem?_set_ne (by omega), List.getElem?_set_ne (by omega), List.getElem?_set_ne (by omega)]) (q_keep rfl (q_keep rfl (q_keep rfl h.2.1 (by omega)) (by omega)) (by omega)) (q_keep rfl (q_keep rfl (q_keep rfl h.2.2.1 (by omega)) (by omega)) (by omega)) (w_av_A h.2.2.2.1)
            refine q_aload_n d_S_variable_51 rfl rfl ?_
            refine x_callVr d_S_variable_52 l_S_72 i_S_beginAnew v_S_beginAnew rfl g1.1 (c_S_beginAnew hG g1) rfl rfl (Nat.le_of_ble_eq_true rfl) (Nat.le_of_ble_eq_true rfl) (Nat.le_of_ble_eq_true rfl) (Nat.le_of_ble_eq_true rfl) (fun hp5 k5 => ?_)
            have h_s := k5.1.1
            have h_w : hp5[3]? = some (o_Wo (w_n w + 1) (w_p w)) := k5.1.2.2.2.1.1
            refine q_aload_n d_S_variable_55 rfl rfl ?_
            refine q_get d_S_variable_56 f_S_19 h_s rfl ?_
            refine q_get d_S_variable_59 f_S_65 h_w rfl ?_
            refine q_iconst (v := 1) d_S_variable_62 (by decide) ?_
            refine q_isub d_S_variable_63 ?_
            rw [nI_pred]
            refine q_iret d_S_variable_64 rfl ?_ (Nat.le_of_ble_eq_true rfl) (Nat.le_of_ble_eq_true rfl) (by decide)
            exact ⟨hp5, rfl, rfl, k5.1, (((F_T.set _ (by omega)).trans (F_T.set _ (by omega))).trans (F_T.set _ (by omega))).trans k5.2⟩
          · skip
            exact absurd (show nI (w_n w) < nI 5 from nI_lt h5 (by decide)) b37
        · skip
          exact absurd (nI_lt (by omega) (by omega)) b16
end C29
