/-! the whole class: what leaves the search as it is -/
section C45
variable {g : q_G}
def F_U (hp hp' : List va_E) : Prop := hp'.length = hp.length ∧ ∀ k, (67 ≤ k ∧ k ≤ 80) ∨ 83 < k → hp'[k]? = hp[k]?
theorem F_U.refl (hp : List va_E) : F_U hp hp := ⟨rfl, fun _ _ => rfl⟩
theorem F_U.trans {h1 h2 h3 : List va_E} (a : F_U h1 h2) (b : F_U h2 h3) : F_U h1 h3 := ⟨b.1.trans a.1, fun k hk => (b.2 k hk).trans (a.2 k hk)⟩
theorem F_U.set {a : Nat} {x : va_E} (hp : List va_E) (h : a < 67 ∨ (80 < a ∧ a ≤ 83)) : F_U hp (hp.set a x) := ⟨by simp, fun k hk => List.getElem?_set_ne (by omega)⟩
theorem F_A.u {p : Nat} {hp hp' : List va_E} (hp6 : p < 6) (h : F_A p hp hp') : F_U hp hp' := ⟨h.1, fun k hk => h.2 k (by omega)⟩
set_option maxRecDepth 10000 in
set_option maxHeartbeats 2000000 in
theorem d_S_wipe (hG : q_GG g) {n : Nat} {f : Nat → Int32} {w : w_T} {S : x_S} {B : z_S} {cp cv : Nat → Nat} {gone : Nat} {hp : List va_E} (h : T_A n f w S B cp cv gone hp) : q_C g m_S_wipe true (q_R 0 0 0 0) [.ref 0] hp (q_ho (some (.int (nI n))) (fun hp2 => T_A 0 f w S B cp cv gone hp2 ∧ F_U hp hp2)) := by
  refine q_C.of hG (by decide) (Nat.le_of_ble_eq_true rfl) ?_
  have h_s := h.1
  have h_t := h.2.1
  have h_w := h.2.2.2.1.1
  have h_r := h.2.2.2.2.1.1
  have h_e := h.2.2.2.2.2.1.1
  have h_c := h.2.2.2.2.2.2.1
  refine q_aload_n d_S_wipe_0 rfl rfl ?_
  refine q_get d_S_wipe_1 f_S_10 h_s rfl ?_
  refine q_get d_S_wipe_4 f_S_59 h_t rfl ?_
  refine q_istore_n d_S_wipe_7 rfl (by decide) rfl ?_
  refine q_aload_n d_S_wipe_8 rfl rfl ?_
  refine q_get d_S_wipe_9 f_S_10 h_s rfl ?_
  refine q_iconst (v := 0) d_S_wipe_12 (by decide) ?_
  refine x_put d_S_wipe_13 f_S_59 h_t (Nat.le_of_ble_eq_true rfl) rfl rfl (fun hp1 e1 h_t => ?_)
  have h_s := q_keep e1 h_s (by omega)
  refine q_iload_n d_S_wipe_16 rfl ?_
  refine q_iret d_S_wipe_17 rfl ?_ (Nat.le_of_ble_eq_true rfl) (Nat.le_of_ble_eq_true rfl) (by decide)
  refine ⟨_, rfl, rfl, ?_, ?_⟩
  · rw [e1]
    exact h.mix (fun k hk => List.getElem?_set_ne (by omega)) (q_self h.2.1) (q_keep rfl h.2.2.1 (by omega)) (h.2.2.2.1.set1)
  · rw [e1]
    exact F_U.set _ (by omega)
set_option maxRecDepth 10000 in
set_option maxHeartbeats 2000000 in
theorem d_S_returnToFirst (hG : q_GG g) {n : Nat} {f : Nat → Int32} {w : w_T} {S : x_S} {B : z_S} {cp cv : Nat → Nat} {gone : Nat} {hp : List va_E} (h : T_A n f w S B cp cv gone hp) : q_C g m_S_returnToFirst true (q_R 2 34 0 0) [.ref 0] hp (q_ho none (fun hp2 => T_A n f w S B (cp0 cp) (cv0 (w_f w) cv) 0 hp2 ∧ F_U hp hp2)) := by
  refine q_C.of hG (by decide) (Nat.le_of_ble_eq_true rfl) ?_
  have h_s := h.1
  have h_t := h.2.1
  have h_w := h.2.2.2.1.1
  have h_r := h.2.2.2.2.1.1
  have h_e := h.2.2.2.2.2.1.1
  have h_c := h.2.2.2.2.2.2.1
  refine q_aload_n d_S_returnToFirst_0 rfl rfl ?_
  refine q_get d_S_returnToFirst_1 f_S_19 h_s rfl ?_
  refine q_aload_n d_S_returnToFirst_4 rfl rfl ?_
  refine q_get d_S_returnToFirst_5 f_S_44 h_s rfl ?_
  refine x_callV d_S_returnToFirst_8 l_S_192 i_Wo_putFirst v_Wo_putFirst rfl h_w (c_Wo_putFirst hG (by omega) h_w h.2.2.2.1.2.2.1 h_c h.2.2.2.2.2.2.2.1 h.2.2.2.2.2.2.2.2) rfl rfl (Nat.le_of_ble_eq_true rfl) (Nat.le_of_ble_eq_true rfl) (Nat.le_of_ble_eq_true rfl) (Nat.le_of_ble_eq_true rfl) ?_
  have q := h.2.2.2.2.2.2
  rw [pf_1, pf_2]
  have g1 : T_A n f w S B (cp0 cp) (cv0 (w_f w) cv) gone ((hp.set 82 (a_N 6 (fun j => if j < 6 then 0 else cp j))).set 83 (a_N 5 (fun j => if j < 5 then w_f w j else cv j))) := h.cur (fun k hk => by rw [List.getElem?_set_ne (by omega), List.getElem?_set_ne (by omega)]) ⟨q_keep rfl (q_keep rfl q.1 (by omega)) (by omega), q_keep rfl (q_self q.2.1) (by omega), q_self (q_keep rfl q.2.2 (by omega))⟩
  have h_s := g1.1
  refine q_aload_n d_S_returnToFirst_11 rfl rfl ?_
  refine q_iconst (v := 0) d_S_returnToFirst_12 (by decide) ?_
  refine x_put d_S_returnToFirst_13 f_S_161 h_s (Nat.le_of_ble_eq_true rfl) rfl rfl (fun hp1 e1 h_s => ?_)
  refine q_vret d_S_returnToFirst_16 rfl ?_ (Nat.le_of_ble_eq_true rfl) (Nat.le_of_ble_eq_true rfl) (by decide)
  refine ⟨_, rfl, rfl, ?_, ?_⟩
  · rw [e1]
    exact g1.obj (gone' := 0)
  · rw [e1]
    exact ((F_U.set _ (by omega)).trans (F_U.set _ (by omega))).trans (F_U.set _ (by omega))
set_option maxRecDepth 10000 in
set_option maxHeartbeats 2000000 in
theorem d_S_restart (hG : q_GG g) {n : Nat} {f : Nat → Int32} {w : w_T} {S : x_S} {B : z_S} {cp cv : Nat → Nat} {gone : Nat} {hp : List va_E} (h : T_A n f w S B cp cv gone hp) : q_C g m_S_restart true (q_R 3 50 0 0) [.ref 0] hp (q_ho (some (.int (nI gone))) (fun hp2 => T_A n f w S B (cp0 cp) (cv0 (w_f w) cv) 0 hp2 ∧ F_U hp hp2)) := by
  refine q_C.of hG (by decide) (Nat.le_of_ble_eq_true rfl) ?_
  have h_s := h.1
  have h_t := h.2.1
  have h_w := h.2.2.2.1.1
  have h_r := h.2.2.2.2.1.1
  have h_e := h.2.2.2.2.2.1.1
  have h_c := h.2.2.2.2.2.2.1
  refine q_aload_n d_S_restart_0 rfl rfl ?_
  refine q_get d_S_restart_1 f_S_161 h_s rfl ?_
  refine q_istore_n d_S_restart_4 rfl (by decide) rfl ?_
  refine q_aload_n d_S_restart_5 rfl rfl ?_
  refine x_callVr d_S_restart_6 l_S_169 i_S_returnToFirst v_S_returnToFirst rfl h_s (d_S_returnToFirst hG h) rfl rfl (Nat.le_of_ble_eq_true rfl) (Nat.le_of_ble_eq_true rfl) (Nat.le_of_ble_eq_true rfl) (Nat.le_of_ble_eq_true rfl) (fun hp1 k1 => ?_)
  refine q_iload_n d_S_restart_9 rfl ?_
  refine q_iret d_S_restart_10 rfl ?_ (Nat.le_of_ble_eq_true rfl) (Nat.le_of_ble_eq_true rfl) (by decide)
  exact ⟨hp1, rfl, rfl, k1⟩
set_option maxRecDepth 10000 in
set_option maxHeartbeats 2000000 in
theorem d_S_process0 (hG : q_GG g) {n : Nat} {f : Nat → Int32} {tb : Nat → Nat} {w : w_T} {S : x_S} {B : z_S} {cp cv : Nat → Nat} {gone n0 : Nat} {hp : List va_E} (h : T_A n f w S B cp cv gone hp) (hp6 : w_p w < 6) (hok : w_ok w) (htb : t_ok n f tb) (hxo : x_ok n0 S) (hk : ¬ x_k (x_ld n tb (w_n w) (w_z w) (x_wc S (w_c w (w_p w)))) = 0) : q_C g m_S_process true (q_R 5 110 0 0) [.ref 0] hp (q_ho (some (.int (-1))) (fun hp2 => T_A n f (w_sc w (w_p w) (x_C (x_rd n tb (w_n w) (w_z w) (x_wc S (w_c w (w_p w)))))) (x_rd n tb (w_n w) (w_z w) (x_wc S (w_c w (w_p w)))) B cp cv gone hp2 ∧ F_U hp hp2)) := by
  refine q_C.of hG (by decide) (Nat.le_of_ble_eq_true rfl) ?_
  have h_s := h.1
  have h_t := h.2.1
  have h_w := h.2.2.2.1.1
  have h_cr := h.2.2.2.1.2.2.2.1
  have h_r := h.2.2.2.2.1.1
  have h_e := h.2.2.2.2.2.1.1
  have h_c := h.2.2.2.2.2.2.1
  have hx2 : x_ok n0 (x_wc S (w_c w (w_p w))) := ⟨hxo.1, hxo.2.1, hxo.2.2.1, hxo.2.2.2.1, hok.2.2.2 _ hp6⟩
  have hin : vp_in (nI (w_p w)) 6 := vp_in_nI hp6 (by decide)
  refine q_aload_n d_S_process_0 rfl rfl ?_
  refine q_get d_S_process_1 f_S_19 h_s rfl ?_
  refine q_get d_S_process_4 f_S_75 h_w rfl ?_
  refine q_bipush (v := 6) d_S_process_7 (by decide) ?_
  refine q_icmp_lt (tgt := 14) d_S_process_9 (by decide) (fun b9 => ?_) (fun b9 => ?_)
  · skip
    refine q_aload_n d_S_process_14 rfl rfl ?_
    refine q_get d_S_process_15 f_S_28 h_s rfl ?_
    refine q_aload_n d_S_process_18 rfl rfl ?_
    refine q_get d_S_process_19 f_S_19 h_s rfl ?_
    refine q_get d_S_process_22 f_S_78 h_w rfl ?_
    refine q_aload_n d_S_process_25 rfl rfl ?_
    refine q_get d_S_process_26 f_S_19 h_s rfl ?_
    refine q_get d_S_process_29 f_S_75 h_w rfl ?_
    refine q_aald d_S_process_32 h_cr rfl hin (cr_at hp6) ?_
    refine x_callVr (stk := [.ref (7 + 5 * w_p w), .ref 37]) d_S_process_33 l_S_82 i_Re_read v_Re_read rfl h_r (c_Re_read hG (n0 := n0) hp6 hok.1 (fun v hv => (hok.2.2.1 v (by have := hok.1; omega)).2.1) htb (h.x hp6) hx2) rfl rfl (Nat.le_of_ble_eq_true rfl) (Nat.le_of_ble_eq_true rfl) (Nat.le_of_ble_eq_true rfl) (Nat.le_of_ble_eq_true rfl) (fun hp1 k1 => ?_)
    have g1 := h.rd hp6 k1.1 k1.2
    have h_s := g1.1
    have h_w := g1.2.2.2.1.1
    refine q_if_ne (tgt := 41) d_S_process_36 (by decide) (fun b36 => ?_) (fun b36 => ?_)
    · skip
      rw [if_neg hk] at b36
      exact absurd rfl b36
    · skip
      refine q_iconst (v := (-1)) d_S_process_39 (by decide) ?_
      refine q_iret d_S_process_40 rfl ?_ (Nat.le_of_ble_eq_true rfl) (Nat.le_of_ble_eq_true rfl) (by decide)
      exact ⟨hp1, rfl, rfl, g1, k1.2.u hp6⟩
  · skip
    exact absurd (show nI (w_p w) < nI 6 from nI_lt hp6 (by decide)) b9
set_option maxRecDepth 10000 in
set_option maxHeartbeats 2000000 in
theorem d_S_feed (hG : q_GG g) {n : Nat} {f : Nat → Int32} {w : w_T} {S : x_S} {B : z_S} {cp cv : Nat → Nat} {gone : Nat} {hp : List va_E} {k : Nat} {x : Int64} (h : T_A n f w S B cp cv gone hp) (hk1 : 1 ≤ k) (hk8 : k ≤ 8) (hL : n + k ≤ 100) : q_C g m_S_feed true (q_R 1 20 0 0) [.ref 0, .int (nI k), .long x] hp (q_ho (some (.int (nI (n + k)))) (fun hp2 => T_A (n + k) (ta_ap x n k f) w S B cp cv gone hp2 ∧ F_U hp hp2)) := by
  refine q_C.of hG (by decide) (Nat.le_of_ble_eq_true rfl) ?_
  have h_s := h.1
  have h_t := h.2.1
  have h_w := h.2.2.2.1.1
  have h_r := h.2.2.2.2.1.1
  have h_e := h.2.2.2.2.2.1.1
  have h_c := h.2.2.2.2.2.2.1
  have h_cp := h.2.2.2.2.2.2.2.1
  have h_cv := h.2.2.2.2.2.2.2.2
  refine q_iload_n d_S_feed_0 rfl ?_
  refine q_iconst (v := 1) d_S_feed_1 (by decide) ?_
  refine q_icmp_lt (tgt := 11) d_S_feed_2 (by decide) (fun b2 => ?_) (fun b2 => ?_)
  · skip
    exact absurd b2 (nI_nlt (b := 1) (by omega) (by omega))
  · skip
    refine q_iload_n d_S_feed_5 rfl ?_
    refine q_bipush (v := 8) d_S_feed_6 (by decide) ?_
    refine q_icmp_le (tgt := 21) d_S_feed_8 (by decide) (fun b8 => ?_) (fun b8 => ?_)
    · skip
      refine q_aload_n d_S_feed_21 rfl rfl ?_
      refine q_get d_S_feed_22 f_S_10 h_s rfl ?_
      refine q_iload_n d_S_feed_25 rfl ?_
      refine q_lload_n d_S_feed_26 rfl ?_
      refine x_callV (as := [.int (nI k), .long x]) d_S_feed_27 l_S_55 i_Ta_append v_Ta_append rfl h_t (c_Ta_append hG h_t h.2.2.1 hL) rfl rfl (Nat.le_of_ble_eq_true rfl) (Nat.le_of_ble_eq_true rfl) (Nat.le_of_ble_eq_true rfl) (Nat.le_of_ble_eq_true rfl) ?_
      have g1 := h.mix (n' := n + k) (f' := ta_ap x n k f) (hp' := (hp.set (1 + 1) (a_B 100 (ta_ap x n k f))).set 1 (o_Ta 1 (nI (n + k)))) (fun j hj => by rw [List.getElem?_set_ne (by omega), List.getElem?_set_ne (by omega)]) (q_self (q_keep rfl h.2.1 (by omega))) (q_keep rfl (q_self h.2.2.1) (by omega)) (h.2.2.2.1.set2.set1)
      have h_s := g1.1
      have h_t := g1.2.1
      refine q_if_eq (tgt := 43) d_S_feed_30 (by decide) (fun b30 => ?_) (fun b30 => ?_)
      · skip
        exact absurd b30 (by decide)
      · skip
        refine q_aload_n d_S_feed_33 rfl rfl ?_
        refine q_get d_S_feed_34 f_S_10 h_s rfl ?_
        refine q_get d_S_feed_37 f_S_59 h_t rfl ?_
        refine q_goto (tgt := 44) d_S_feed_40 (by decide) ?_
        refine q_iret d_S_feed_44 rfl ?_ (Nat.le_of_ble_eq_true rfl) (Nat.le_of_ble_eq_true rfl) (by decide)
        exact ⟨_, rfl, rfl, g1, (F_U.set _ (by omega)).trans (F_U.set _ (by omega))⟩
    · skip
      exact absurd (nI_le (b := 8) (by omega) (by decide)) b8
set_option maxRecDepth 10000 in
set_option maxHeartbeats 2000000 in
theorem d_S_feed0 (hG : q_GG g) {n : Nat} {f : Nat → Int32} {w : w_T} {S : x_S} {B : z_S} {cp cv : Nat → Nat} {gone : Nat} {hp : List va_E} {k : Nat} {x : Int64} (h : T_A n f w S B cp cv gone hp) (hk1 : 1 ≤ k) (hk8 : k ≤ 8) (hn100 : n ≤ 100) (hL : 100 < n + k) : q_C g m_S_feed true (q_R 1 20 0 0) [.ref 0, .int (nI k), .long x] hp (q_ho (some (.int (-1))) (fun hp2 => T_A n f w S B cp cv gone hp2 ∧ F_U hp hp2)) := by
  refine q_C.of hG (by decide) (Nat.le_of_ble_eq_true rfl) ?_
  have h_s := h.1
  have h_t := h.2.1
  have h_w := h.2.2.2.1.1
  have h_r := h.2.2.2.2.1.1
  have h_e := h.2.2.2.2.2.1.1
  have h_c := h.2.2.2.2.2.2.1
  have h_cp := h.2.2.2.2.2.2.2.1
  have h_cv := h.2.2.2.2.2.2.2.2
  refine q_iload_n d_S_feed_0 rfl ?_
  refine q_iconst (v := 1) d_S_feed_1 (by decide) ?_
  refine q_icmp_lt (tgt := 11) d_S_feed_2 (by decide) (fun b2 => ?_) (fun b2 => ?_)
  · skip
    exact absurd b2 (nI_nlt (b := 1) (by omega) (by omega))
  · skip
    refine q_iload_n d_S_feed_5 rfl ?_
    refine q_bipush (v := 8) d_S_feed_6 (by decide) ?_
    refine q_icmp_le (tgt := 21) d_S_feed_8 (by decide) (fun b8 => ?_) (fun b8 => ?_)
    · skip
      refine q_aload_n d_S_feed_21 rfl rfl ?_
      refine q_get d_S_feed_22 f_S_10 h_s rfl ?_
      refine q_iload_n d_S_feed_25 rfl ?_
      refine q_lload_n d_S_feed_26 rfl ?_
      refine x_callV (as := [.int (nI k), .long x]) d_S_feed_27 l_S_55 i_Ta_append v_Ta_append rfl h_t (c_Ta_append0 hG h_t hn100 (by omega) hL) rfl rfl (Nat.le_of_ble_eq_true rfl) (Nat.le_of_ble_eq_true rfl) (Nat.le_of_ble_eq_true rfl) (Nat.le_of_ble_eq_true rfl) ?_
      refine q_if_eq (tgt := 43) d_S_feed_30 (by decide) (fun b30 => ?_) (fun b30 => ?_)
      · skip
        refine q_iconst (v := (-1)) d_S_feed_43 (by decide) ?_
        refine q_iret d_S_feed_44 rfl ?_ (Nat.le_of_ble_eq_true rfl) (Nat.le_of_ble_eq_true rfl) (by decide)
        exact ⟨hp, rfl, rfl, h, F_U.refl hp⟩
      · skip
        exact absurd rfl b30
    · skip
      exact absurd (nI_le (b := 8) (by omega) (by decide)) b8
abbrev mv_U (n : Nat) (f : Nat → Int32) (w : w_T) (S : x_S) (B : z_S) (cp cv : Nat → Nat) (gone k : Nat) (hp : List va_E) (z : Nat × Nat × Nat × List va_E) : Prop :=
  z.1 < w_p w ∧ w_mv w cp cv z.1 ≤ k ∧ k < w_mv w cp cv (z.1 + 1) ∧ (1 ≤ z.2.1 ∧ z.2.1 < c_n (w_c w z.1)) ∧ w_can w cp cv z.1 z.2.1 = true ∧ pb_cnt z.2.1 (w_op w cp cv z.1 (c_n (w_c w z.1) - 1)) = k - w_mv w cp cv z.1 ∧ w_oc w cv z.1 z.2.1 = some z.2.2.1 ∧ T_A n f w S B (va_up cp z.1 z.2.1) (va_up cv (c_v (w_c w z.1) z.2.1) z.2.2.1) (gone + 1) z.2.2.2 ∧ F_U hp z.2.2.2
set_option maxRecDepth 10000 in
set_option maxHeartbeats 2000000 in
theorem l_S_moveU (hG : q_GG g) {n : Nat} {f : Nat → Int32} {w : w_T} {S : x_S} {B : z_S} {cp cv : Nat → Nat} {gone : Nat} {hp : List va_E} {k : Nat} (h : T_A n f w S B cp cv gone hp) (hok : w_ok w) (hs : s_ok w cp cv) (hk : k < w_mv w cp cv (w_p w)) (hk2 : k < 2 ^ 30) : ∀ (c q : Nat), q + c = w_p w → w_mv w cp cv q ≤ k → ∀ (z4 z5 z6 : Option Value), q_J g m_S_move true (q_R 3 70 0 0) (q_rel (Z := Nat × Nat × Nat × List va_E) (fun z => some (.int (nI (16 * z.1 + z.2.1)))) (fun z => z.2.2.2) (mv_U n f w S B cp cv gone k hp)) 4 [some (.ref 0), some (.int (nI k)), some (.int (nI (k - w_mv w cp cv q))), some (.int (nI q)), z4, z5, z6] [] hp 0 0 false := by
  have h_s := h.1
  have h_w := h.2.2.2.1.1
  have h_c := h.2.2.2.2.2.2.1
  have hp6 := hok.2.1
  intro c
  induction c with
  | zero =>
    intro q hq hle z4 z5 z6
    rw [show w_p w = q by omega] at hk
    omega
  | succ c ih =>
    intro q hq hle z4 z5 z6
    obtain ⟨c1, c2, c3, c4⟩ := hok.2.2.2 q (by omega)
    have hop : w_op w cp cv q (c_n (w_c w q) - 1) < 8192 := by
      have := w_op_lt w cp cv q (c_n (w_c w q) - 1)
      have : 2 ^ (c_n (w_c w q) - 1 + 1) ≤ 2 ^ 13 := Nat.pow_le_pow_right (by decide) (by omega)
      omega
    have hm1 : w_mv w cp cv (q + 1) = w_mv w cp cv q + pb_cnt 13 (w_op w cp cv q (c_n (w_c w q) - 1)) := rfl
    have hpb := pb_cnt_le 13 (w_op w cp cv q (c_n (w_c w q) - 1))
    refine q_iload_n d_S_move_4 rfl ?_
    refine q_aload_n d_S_move_5 rfl rfl ?_
    refine q_get d_S_move_6 f_S_19 h_s rfl ?_
    refine q_get d_S_move_9 f_S_75 h_w rfl ?_
    refine q_icmp_ge (tgt := 98) d_S_move_12 (by decide) (fun b12 => ?_) (fun b12 => ?_)
    · skip
      exact absurd b12 (nI_ge (by omega) (by omega))
    · skip
      refine q_iload_n d_S_move_15 rfl ?_
      refine q_if_lt (tgt := 98) d_S_move_16 (by decide) (fun b16 => ?_) (fun b16 => ?_)
      · skip
        exact absurd b16 (nI_pos (by omega))
      · skip
        refine q_aload_n d_S_move_19 rfl rfl ?_
        refine q_get d_S_move_20 f_S_19 h_s rfl ?_
        refine q_aload_n d_S_move_23 rfl rfl ?_
        refine q_get d_S_move_24 f_S_44 h_s rfl ?_
        refine q_iload_n d_S_move_27 rfl ?_
        refine x_callV d_S_move_28 l_S_149 i_Wo_openPlaces v_Wo_openPlaces rfl h_w (c_Wo_openPlaces hG hok h.2.2.2.1 h.2.2.2.2.2.2 hs.2.2 (hs.2.1 q (by omega)) (by omega)) rfl rfl (Nat.le_of_ble_eq_true rfl) (Nat.le_of_ble_eq_true rfl) (Nat.le_of_ble_eq_true rfl) (Nat.le_of_ble_eq_true rfl) ?_
        refine q_istore d_S_move_31 (by decide) rfl ?_
        refine q_iload d_S_move_33 rfl ?_
        refine x_callS d_S_move_35 l_S_110 s_In_bitCount (c_In_bitCount hG) rfl rfl (Nat.le_of_ble_eq_true rfl) (Nat.le_of_ble_eq_true rfl) (Nat.le_of_ble_eq_true rfl) (Nat.le_of_ble_eq_true rfl) ?_
        rw [pb_ib _ hop]
        refine q_istore d_S_move_38 (by decide) rfl ?_
        refine q_iload_n d_S_move_40 rfl ?_
        refine q_iload d_S_move_41 rfl ?_
        refine q_icmp_ge (tgt := 87) d_S_move_43 (by decide) (fun b43 => ?_) (fun b43 => ?_)
        · skip
          rw [nI_leI (by omega) (by omega)] at b43
          refine q_iload_n d_S_move_87 rfl ?_
          refine q_iload d_S_move_88 rfl ?_
          refine q_isub d_S_move_90 ?_
          refine q_istore_n d_S_move_91 rfl (by decide) rfl ?_
          rw [pk_sub (by omega)]
          refine q_iinc d_S_move_92 rfl (show _ + Int32.ofInt 1 = _ + 1 from rfl) (by decide) rfl ?_
          rw [nI_1]
          refine q_goto (tgt := 4) d_S_move_95 (by decide) ?_
          have e : k - w_mv w cp cv q - pb_cnt 13 (w_op w cp cv q (c_n (w_c w q) - 1)) = k - w_mv w cp cv (q + 1) := by rw [hm1]; omega
          rw [e]
          exact ih (q + 1) (by omega) (by rw [hm1]; omega) _ _ _
        · skip
          rw [nI_leI (by omega) (by omega)] at b43
          refine q_iload d_S_move_46 rfl ?_
          refine q_i2l d_S_move_48 ?_
          rw [nI_l (by omega)]
          refine q_iload_n d_S_move_49 rfl ?_
          refine x_callS (as := [.long (lN (w_op w cp cv q (c_n (w_c w q) - 1))), .int (nI (k - w_mv w cp cv q))]) (st := []) d_S_move_50 l_S_153 s_S_nthBit (c_S_nthBit hG (by omega)) rfl rfl (Nat.le_of_ble_eq_true rfl) (Nat.le_of_ble_eq_true rfl) (Nat.le_of_ble_eq_true rfl) (Nat.le_of_ble_eq_true rfl) ?_
          obtain ⟨t, ht1, ht2, ht3, ht4⟩ := bt_nth (k - w_mv w cp cv q) (w_op w cp cv q (c_n (w_c w q) - 1)) (by omega) (by rw [mv_64 hop]; omega)
          have hb := w_op_bit w cp cv q (c_n (w_c w q) - 1) t
          rw [ht3] at hb
          obtain ⟨hb1, htc⟩ := and_tt.mp hb.symm
          have hb1 := of_decide_eq_true hb1
          have htr : 1 ≤ t ∧ t < c_n (w_c w q) := by omega
          have hyy : (w_oc w cv q t).isSome = true := by
            unfold w_can at htc
            exact (and_tt.mp htc).2
          obtain ⟨y, hy⟩ := Option.isSome_iff_exists.mp hyy
          rw [ht2]
          refine q_istore d_S_move_53 (by decide) rfl ?_
          refine q_aload_n d_S_move_55 rfl rfl ?_
          refine q_get d_S_move_56 f_S_19 h_s rfl ?_
          refine q_aload_n d_S_move_59 rfl rfl ?_
          refine q_get d_S_move_60 f_S_44 h_s rfl ?_
          refine q_iload_n d_S_move_63 rfl ?_
          refine q_iload d_S_move_64 rfl ?_
          refine x_callV d_S_move_66 l_S_157 i_Wo_go v_Wo_go rfl h_w (c_Wo_go hG (by omega) hok h.2.2.2.1 h.2.2.2.2.2.2 hs.2.2 (by omega) (by omega) hy) rfl rfl (Nat.le_of_ble_eq_true rfl) (Nat.le_of_ble_eq_true rfl) (Nat.le_of_ble_eq_true rfl) (Nat.le_of_ble_eq_true rfl) ?_
          have qq := h.2.2.2.2.2.2
          have g1 := h.cur (hp' := (hp.set (81 + 2) (a_N 5 (va_up cv (c_v (w_c w q) t) y))).set (81 + 1) (a_N 6 (va_up cp q t))) (cp' := va_up cp q t) (cv' := va_up cv (c_v (w_c w q) t) y) (fun j hj => by rw [List.getElem?_set_ne (by omega), List.getElem?_set_ne (by omega)]) ⟨q_keep rfl (q_keep rfl qq.1 (by omega)) (by omega), q_self (q_keep rfl qq.2.1 (by omega)), q_keep rfl (q_self qq.2.2) (by omega)⟩
          have h_s := g1.1
          refine q_aload_n d_S_move_69 rfl rfl ?_
          refine q_dup d_S_move_70 rfl ?_
          refine q_get d_S_move_71 f_S_161 h_s rfl ?_
          refine q_iconst (v := 1) d_S_move_74 (by decide) ?_
          refine q_iadd d_S_move_75 ?_
          refine x_put d_S_move_76 f_S_161 h_s (Nat.le_of_ble_eq_true rfl) rfl rfl (fun hp1 e1 h_s => ?_)
          rw [nI_1] at e1 h_s
          have g2 : T_A n f w S B (va_up cp q t) (va_up cv (c_v (w_c w q) t) y) (gone + 1) hp1 := by rw [e1]; exact g1.obj
          refine q_bipush (v := 16) d_S_move_79 (by decide) ?_
          refine q_iload_n d_S_move_81 rfl ?_
          refine q_imul d_S_move_82 ?_
          rw [show (16 : Int32) * nI q = nI (16 * q) from pk_mul 16 q]
          refine q_iload d_S_move_83 rfl ?_
          refine q_iadd d_S_move_85 ?_
          rw [nI_add]
          refine q_iret d_S_move_86 rfl ?_ (Nat.le_of_ble_eq_true rfl) (Nat.le_of_ble_eq_true rfl) (by decide)
          refine ⟨(q, t, y, _), rfl, rfl, by omega, hle, by rw [hm1]; omega, htr, htc, ht4, hy, g2, ?_⟩
          rw [e1]
          exact ((F_U.set _ (by omega)).trans (F_U.set _ (by omega))).trans (F_U.set _ (by omega))
set_option maxRecDepth 10000 in
set_option maxHeartbeats 2000000 in
theorem d_S_move (hG : q_GG g) {n : Nat} {f : Nat → Int32} {w : w_T} {S : x_S} {B : z_S} {cp cv : Nat → Nat} {gone : Nat} {hp : List va_E} {k : Nat} (h : T_A n f w S B cp cv gone hp) (hok : w_ok w) (hs : s_ok w cp cv) (hk : k < w_mv w cp cv (w_p w)) (hk2 : k < 2 ^ 30) : q_C g m_S_move true (q_R 3 70 0 0) [.ref 0, .int (nI k)] hp (q_rel (Z := Nat × Nat × Nat × List va_E) (fun z => some (.int (nI (16 * z.1 + z.2.1)))) (fun z => z.2.2.2) (mv_U n f w S B cp cv gone k hp)) := by
  refine q_C.of hG (by decide) (Nat.le_of_ble_eq_true rfl) ?_
  refine q_iload_n d_S_move_0 rfl ?_
  refine q_istore_n d_S_move_1 rfl (by decide) rfl ?_
  refine q_iconst (v := 0) d_S_move_2 (by decide) ?_
  refine q_istore_n d_S_move_3 rfl (by decide) rfl ?_
  exact l_S_moveU hG h hok hs hk hk2 (w_p w) 0 (by omega) (Nat.zero_le _) _ _ _
end C45
