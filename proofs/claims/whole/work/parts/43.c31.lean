/-! the whole class: a step -/
section C31
variable {g : q_G}
theorem pb_z : ∀ k, pb_cnt k 0 = 0 := by
  intro k
  induction k with
  | zero => rfl
  | succ k ih => show 0 % 2 + pb_cnt k (0 / 2) = 0; rw [show 0 / 2 = 0 from rfl, ih]
theorem mv_64 {x : Nat} (h : x < 8192) : pb_cnt 64 x = pb_cnt 13 x := by
  rw [show 64 = 13 + 51 from rfl, pb_cnt_add, Nat.div_eq_of_lt (show x < 2 ^ 13 from h), pb_z]
  rfl
theorem pb_cnt_le : ∀ k x, pb_cnt k x ≤ k := by
  intro k
  induction k with
  | zero => intro x; exact Nat.le_refl _
  | succ k ih =>
    intro x
    have := ih (x / 2)
    show x % 2 + pb_cnt k (x / 2) ≤ k + 1
    omega
theorem w_mv_le {w : w_T} {pl vl : Nat → Nat} : ∀ q r, q ≤ r → w_mv w pl vl q ≤ w_mv w pl vl r := by
  intro q r h
  induction r with
  | zero => rw [show q = 0 by omega]; exact Nat.le_refl _
  | succ r ih =>
    by_cases e : q = r + 1
    · rw [e]; exact Nat.le_refl _
    · exact Nat.le_trans (ih (by omega)) (Nat.le_add_right _ _)
abbrev mv_P (n : Nat) (f : Nat → Int32) (w : w_T) (S : x_S) (B : z_S) (cp cv : Nat → Nat) (gone k : Nat) (hp : List va_E) (z : Nat × Nat × Nat × List va_E) : Prop :=
  z.1 < w_p w ∧ w_mv w cp cv z.1 ≤ k ∧ k < w_mv w cp cv (z.1 + 1) ∧ (1 ≤ z.2.1 ∧ z.2.1 < c_n (w_c w z.1)) ∧ w_can w cp cv z.1 z.2.1 = true ∧ pb_cnt z.2.1 (w_op w cp cv z.1 (c_n (w_c w z.1) - 1)) = k - w_mv w cp cv z.1 ∧ w_oc w cv z.1 z.2.1 = some z.2.2.1 ∧ T_A n f w S B (va_up cp z.1 z.2.1) (va_up cv (c_v (w_c w z.1) z.2.1) z.2.2.1) (gone + 1) z.2.2.2 ∧ F_T hp z.2.2.2
set_option maxRecDepth 10000 in
set_option maxHeartbeats 2000000 in
theorem l_S_move (hG : q_GG g) {n : Nat} {f : Nat → Int32} {w : w_T} {S : x_S} {B : z_S} {cp cv : Nat → Nat} {gone : Nat} {hp : List va_E} {k : Nat} (h : T_A n f w S B cp cv gone hp) (hok : w_ok w) (hs : s_ok w cp cv) (hk : k < w_mv w cp cv (w_p w)) (hk2 : k < 2 ^ 30) : ∀ (c q : Nat), q + c = w_p w → w_mv w cp cv q ≤ k → ∀ (z4 z5 z6 : Option Value), q_J g m_S_move true (q_R 3 70 0 0) (q_rel (Z := Nat × Nat × Nat × List va_E) (fun z => some (.int (nI (16 * z.1 + z.2.1)))) (fun z => z.2.2.2) (mv_P n f w S B cp cv gone k hp)) 4 [some (.ref 0), some (.int (nI k)), some (.int (nI (k - w_mv w cp cv q))), some (.int (nI q)), z4, z5, z6] [] hp 0 0 false := by
  have h_s := h.1
  have h_w := h.2.2.2.1.1
  have h_c := h.2.2.2.2.2.2.1
  have hp6 := hok.2.1
  intro c
  induction c with
  | zero =>
    intro q hq hle z4 z5 z6
    rw [show w_p w = q by omega] at hk
    omega
  | succ c ih =>
    intro q hq hle z4 z5 z6
    obtain ⟨c1, c2, c3, c4⟩ := hok.2.2.2 q (by omega)
    have hop : w_op w cp cv q (c_n (w_c w q) - 1) < 8192 := by
      have := w_op_lt w cp cv q (c_n (w_c w q) - 1)
      have : 2 ^ (c_n (w_c w q) - 1 + 1) ≤ 2 ^ 13 := Nat.pow_le_pow_right (by decide) (by omega)
      omega
    have hm1 : w_mv w cp cv (q + 1) = w_mv w cp cv q + pb_cnt 13 (w_op w cp cv q (c_n (w_c w q) - 1)) := rfl
    have hpb := pb_cnt_le 13 (w_op w cp cv q (c_n (w_c w q) - 1))
    refine q_iload_n d_S_move_4 rfl ?_
    refine q_aload_n d_S_move_5 rfl rfl ?_
    refine q_get d_S_move_6 f_S_19 h_s rfl ?_
    refine q_get d_S_move_9 f_S_75 h_w rfl ?_
    refine q_icmp_ge (tgt := 98) d_S_move_12 (by decide) (fun b12 => ?_) (fun b12 => ?_)
    · skip
      exact absurd b12 (nI_ge (by omega) (by omega))
    · skip
      refine q_iload_n d_S_move_15 rfl ?_
      refine q_if_lt (tgt := 98) d_S_move_16 (by decide) (fun b16 => ?_) (fun b16 => ?_)
      · skip
        exact absurd b16 (nI_pos (by omega))
      · skip
        refine q_aload_n d_S_move_19 rfl rfl ?_
        refine q_get d_S_move_20 f_S_19 h_s rfl ?_
        refine q_aload_n d_S_move_23 rfl rfl ?_
        refine q_get d_S_move_24 f_S_44 h_s rfl ?_
        refine q_iload_n d_S_move_27 rfl ?_
        refine x_callV d_S_move_28 l_S_149 i_Wo_openPlaces v_Wo_openPlaces rfl h_w (c_Wo_openPlaces hG hok h.2.2.2.1 h.2.2.2.2.2.2 hs.2.2 (hs.2.1 q (by omega)) (by omega)) rfl rfl (Nat.le_of_ble_eq_true rfl) (Nat.le_of_ble_eq_true rfl) (Nat.le_of_ble_eq_true rfl) (Nat.le_of_ble_eq_true rfl) ?_
        refine q_istore d_S_move_31 (by decide) rfl ?_
        refine q_iload d_S_move_33 rfl ?_
        refine x_callS d_S_move_35 l_S_110 s_In_bitCount (c_In_bitCount hG) rfl rfl (Nat.le_of_ble_eq_true rfl) (Nat.le_of_ble_eq_true rfl) (Nat.le_of_ble_eq_true rfl) (Nat.le_of_ble_eq_true rfl) ?_
        rw [pb_ib _ hop]
        refine q_istore d_S_move_38 (by decide) rfl ?_
        refine q_iload_n d_S_move_40 rfl ?_
        refine q_iload d_S_move_41 rfl ?_
        refine q_icmp_ge (tgt := 87) d_S_move_43 (by decide) (fun b43 => ?_) (fun b43 => ?_)
        · skip
          rw [nI_leI (by omega) (by omega)] at b43
          refine q_iload_n d_S_move_87 rfl ?_
          refine q_iload d_S_move_88 rfl ?_
          refine q_isub d_S_move_90 ?_
          refine q_istore_n d_S_move_91 rfl (by decide) rfl ?_
          rw [pk_sub (by omega)]
          refine q_iinc d_S_move_92 rfl (show _ + Int32.ofInt 1 = _ + 1 from rfl) (by decide) rfl ?_
          rw [nI_1]
          refine q_goto (tgt := 4) d_S_move_95 (by decide) ?_
          have e : k - w_mv w cp cv q - pb_cnt 13 (w_op w cp cv q (c_n (w_c w q) - 1)) = k - w_mv w cp cv (q + 1) := by rw [hm1]; omega
          rw [e]
          exact ih (q + 1) (by omega) (by rw [hm1]; omega) _ _ _
        · skip
          rw [nI_leI (by omega) (by omega)] at b43
          refine q_iload d_S_move_46 rfl ?_
          refine q_i2l d_S_move_48 ?_
          rw [nI_l (by omega)]
          refine q_iload_n d_S_move_49 rfl ?_
          refine x_callS (as := [.long (lN (w_op w cp cv q (c_n (w_c w q) - 1))), .int (nI (k - w_mv w cp cv q))]) (st := []) d_S_move_50 l_S_153 s_S_nthBit (c_S_nthBit hG (by omega)) rfl rfl (Nat.le_of_ble_eq_true rfl) (Nat.le_of_ble_eq_true rfl) (Nat.le_of_ble_eq_true rfl) (Nat.le_of_ble_eq_true rfl) ?_
          obtain ⟨t, ht1, ht2, ht3, ht4⟩ := bt_nth (k - w_mv w cp cv q) (w_op w cp cv q (c_n (w_c w q) - 1)) (by omega) (by rw [mv_64 hop]; omega)
          have hb := w_op_bit w cp cv q (c_n (w_c w q) - 1) t
          rw [ht3] at hb
          obtain ⟨hb1, htc⟩ := and_tt.mp hb.symm
          have hb1 := of_decide_eq_true hb1
          have htr : 1 ≤ t ∧ t < c_n (w_c w q) := by omega
          have hyy : (w_oc w cv q t).isSome = true := by
            unfold w_can at htc
            exact (and_tt.mp htc).2
          obtain ⟨y, hy⟩ := Option.isSome_iff_exists.mp hyy
          rw [ht2]
          refine q_istore d_S_move_53 (by decide) rfl ?_
          refine q_aload_n d_S_move_55 rfl rfl ?_
          refine q_get d_S_move_56 f_S_19 h_s rfl ?_
          refine q_aload_n d_S_move_59 rfl rfl ?_
          refine q_get d_S_move_60 f_S_44 h_s rfl ?_
          refine q_iload_n d_S_move_63 rfl ?_
          refine q_iload d_S_move_64 rfl ?_
          refine x_callV d_S_move_66 l_S_157 i_Wo_go v_Wo_go rfl h_w (c_Wo_go hG (by omega) hok h.2.2.2.1 h.2.2.2.2.2.2 hs.2.2 (by omega) (by omega) hy) rfl rfl (Nat.le_of_ble_eq_true rfl) (Nat.le_of_ble_eq_true rfl) (Nat.le_of_ble_eq_true rfl) (Nat.le_of_ble_eq_true rfl) ?_
          have qq := h.2.2.2.2.2.2
          have g1 := h.cur (hp' := (hp.set (81 + 2) (a_N 5 (va_up cv (c_v (w_c w q) t) y))).set (81 + 1) (a_N 6 (va_up cp q t))) (cp' := va_up cp q t) (cv' := va_up cv (c_v (w_c w q) t) y) (fun j hj => by rw [List.getElem?_set_ne (by omega), List.getElem?_set_ne (by omega)]) ⟨q_keep rfl (q_keep rfl qq.1 (by omega)) (by omega), q_self (q_keep rfl qq.2.1 (by omega)), q_keep rfl (q_self qq.2.2) (by omega)⟩
          have h_s := g1.1
          refine q_aload_n d_S_move_69 rfl rfl ?_
          refine q_dup d_S_move_70 rfl ?_
          refine q_get d_S_move_71 f_S_161 h_s rfl ?_
          refine q_iconst (v := 1) d_S_move_74 (by decide) ?_
          refine q_iadd d_S_move_75 ?_
          refine x_put d_S_move_76 f_S_161 h_s (Nat.le_of_ble_eq_true rfl) rfl rfl (fun hp1 e1 h_s => ?_)
          rw [nI_1] at e1 h_s
          have g2 : T_A n f w S B (va_up cp q t) (va_up cv (c_v (w_c w q) t) y) (gone + 1) hp1 := by rw [e1]; exact g1.obj
          refine q_bipush (v := 16) d_S_move_79 (by decide) ?_
          refine q_iload_n d_S_move_81 rfl ?_
          refine q_imul d_S_move_82 ?_
          rw [show (16 : Int32) * nI q = nI (16 * q) from pk_mul 16 q]
          refine q_iload d_S_move_83 rfl ?_
          refine q_iadd d_S_move_85 ?_
          rw [nI_add]
          refine q_iret d_S_move_86 rfl ?_ (Nat.le_of_ble_eq_true rfl) (Nat.le_of_ble_eq_true rfl) (by decide)
          refine ⟨(q, t, y, _), rfl, rfl, by omega, hle, by rw [hm1]; omega, htr, htc, ht4, hy, g2, ?_⟩
          rw [e1]
          exact ((F_T.set _ (by omega)).trans (F_T.set _ (by omega))).trans (F_T.set _ (by omega))
set_option maxRecDepth 10000 in
set_option maxHeartbeats 2000000 in
theorem c_S_move (hG : q_GG g) {n : Nat} {f : Nat → Int32} {w : w_T} {S : x_S} {B : z_S} {cp cv : Nat → Nat} {gone : Nat} {hp : List va_E} {k : Nat} (h : T_A n f w S B cp cv gone hp) (hok : w_ok w) (hs : s_ok w cp cv) (hk : k < w_mv w cp cv (w_p w)) (hk2 : k < 2 ^ 30) : q_C g m_S_move true (q_R 3 70 0 0) [.ref 0, .int (nI k)] hp (q_rel (Z := Nat × Nat × Nat × List va_E) (fun z => some (.int (nI (16 * z.1 + z.2.1)))) (fun z => z.2.2.2) (mv_P n f w S B cp cv gone k hp)) := by
  refine q_C.of hG (by decide) (Nat.le_of_ble_eq_true rfl) ?_
  refine q_iload_n d_S_move_0 rfl ?_
  refine q_istore_n d_S_move_1 rfl (by decide) rfl ?_
  refine q_iconst (v := 0) d_S_move_2 (by decide) ?_
  refine q_istore_n d_S_move_3 rfl (by decide) rfl ?_
  exact l_S_move hG h hok hs hk hk2 (w_p w) 0 (by omega) (Nat.zero_le _) _ _ _
end C31
