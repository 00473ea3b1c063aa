/-! the whole class: process -/
section C28
variable {g : q_G}
def x_wc (S : x_S) (C : c_T) : x_S := (x_d S, x_a S, x_k S, x_p S, x_ch S, x_rw S, x_ac S, C)
def w_sc (w : w_T) (p : Nat) (C : c_T) : w_T := (w_n w, w_z w, w_f w, w_p w, fun q => if q = p then C else w_c w q)
def w_in (w : w_T) : w_T := (w_n w, w_z w, w_f w, w_p w + 1, w_c w)
section
variable {n : Nat} {f : Nat → Int32} {w : w_T} {S : x_S} {B : z_S} {cp cv : Nat → Nat} {gone : Nat} {hp hp' : List va_E}
theorem T_A.x {p : Nat} (hp6 : p < 6) (h : T_A n f w S B cp cv gone hp) : X_A p n f (w_n w) (w_p w) (w_z w) (x_wc S (w_c w p)) hp := by
  obtain ⟨a1, a2, a3, a4, a5, a6, a7⟩ := h
  exact ⟨a5.1, a5.2.1, a5.2.2.1, a5.2.2.2.1, a5.2.2.2.2.1, a5.2.2.2.2.2, a4.2.2.2.2 p hp6, a2, a3, a4.1, a4.2.1⟩
theorem T_A.rd {p : Nat} {S' : x_S} (hp6 : p < 6) (h : T_A n f w S B cp cv gone hp) (hX : X_A p n f (w_n w) (w_p w) (w_z w) S' hp') (hF : F_A p hp hp') : T_A n f (w_sc w p (x_C S')) S' B cp cv gone hp' := by
  obtain ⟨a1, a2, a3, a4, a5, a6, a7⟩ := h
  obtain ⟨b1, b2, b3, b4, b5, b6, b7, b8, b9, b10, b11⟩ := hX
  refine ⟨(hF.2 _ (by omega)).trans a1, b8, b9, ⟨b10, b11, (hF.2 _ (by omega)).trans a4.2.2.1, (hF.2 _ (by omega)).trans a4.2.2.2.1, fun q hq => ?_⟩, ⟨b1, b2, b3, b4, b5, b6⟩, a6.keep (fun k _ _ => hF.2 k (by omega)), a7.keep (fun k _ _ => hF.2 k (by omega))⟩
  show c_A (7 + 5 * q) (if q = p then x_C S' else w_c w q) hp'
  by_cases e : q = p
  · subst e
    rw [if_pos rfl]
    exact b7
  · rw [if_neg e]
    have c := a4.2.2.2.2 q hq
    exact ⟨(hF.2 _ (by omega)).trans c.1, (hF.2 _ (by omega)).trans c.2.1, (hF.2 _ (by omega)).trans c.2.2.1, (hF.2 _ (by omega)).trans c.2.2.2.1, (hF.2 _ (by omega)).trans c.2.2.2.2⟩
theorem T_A.in (h : T_A n f w S B cp cv gone hp) : T_A n f (w_in w) S B cp cv gone (hp.set 3 (o_Wo (w_n w) (w_p w + 1))) := by
  have hk : ∀ k, k ≠ 3 → (hp.set 3 (o_Wo (w_n w) (w_p w + 1)))[k]? = hp[k]? := fun k e => List.getElem?_set_ne (fun q => e q.symm)
  have h4 := h.2.2.2.1
  refine h.mix (fun k _ => hk k (by omega)) ((hk _ (by omega)).trans h.2.1) ((hk _ (by omega)).trans h.2.2.1) ⟨q_self h4.1, (hk _ (by omega)).trans h4.2.1, (hk _ (by omega)).trans h4.2.2.1, (hk _ (by omega)).trans h4.2.2.2.1, fun q hq => ?_⟩
  have c := h4.2.2.2.2 q hq
  exact ⟨(hk _ (by omega)).trans c.1, (hk _ (by omega)).trans c.2.1, (hk _ (by omega)).trans c.2.2.1, (hk _ (by omega)).trans c.2.2.2.1, (hk _ (by omega)).trans c.2.2.2.2⟩
end
set_option maxRecDepth 10000 in
set_option maxHeartbeats 2000000 in
theorem c_S_process6 (hG : q_GG g) {n : Nat} {f : Nat → Int32} {tb : Nat → Nat} {w : w_T} {S : x_S} {B : z_S} {cp cv : Nat → Nat} {gone n0 : Nat} {hp : List va_E} (h : T_A n f w S B cp cv gone hp) (hp6 : w_p w = 6) : q_C g m_S_process false (q_R 5 110 0 0) [.ref 0] hp (q_ret (some (.int (-1))) hp) := by
  refine q_C.of hG (by decide) (Nat.le_of_ble_eq_true rfl) ?_
  have h_s := h.1
  have h_t := h.2.1
  have h_w := h.2.2.2.1.1
  have h_cr := h.2.2.2.1.2.2.2.1
  have h_r := h.2.2.2.2.1.1
  have h_e := h.2.2.2.2.2.1.1
  have h_c := h.2.2.2.2.2.2.1
  refine q_aload_n d_S_process_0 rfl rfl ?_
  refine q_get d_S_process_1 f_S_19 h_s rfl ?_
  refine q_get d_S_process_4 f_S_75 h_w rfl ?_
  refine q_bipush (v := 6) d_S_process_7 (by decide) ?_
  refine q_icmp_lt (tgt := 14) d_S_process_9 (by decide) (fun b9 => ?_) (fun b9 => ?_)
  · skip
    exact absurd b9 (by rw [hp6]; decide)
  · skip
    refine q_iconst (v := (-1)) d_S_process_12 (by decide) ?_
    refine q_iret d_S_process_13 rfl ?_ (Nat.le_of_ble_eq_true rfl) (Nat.le_of_ble_eq_true rfl) (by decide)
    exact ⟨rfl, rfl⟩
set_option maxRecDepth 10000 in
set_option maxHeartbeats 2000000 in
theorem c_S_process0 (hG : q_GG g) {n : Nat} {f : Nat → Int32} {tb : Nat → Nat} {w : w_T} {S : x_S} {B : z_S} {cp cv : Nat → Nat} {gone n0 : Nat} {hp : List va_E} (h : T_A n f w S B cp cv gone hp) (hp6 : w_p w < 6) (hok : w_ok w) (htb : t_ok n f tb) (hxo : x_ok n0 S) (hk : ¬ x_k (x_ld n tb (w_n w) (w_z w) (x_wc S (w_c w (w_p w)))) = 0) : q_C g m_S_process true (q_R 5 110 0 0) [.ref 0] hp (q_ho (some (.int (-1))) (fun hp2 => T_A n f (w_sc w (w_p w) (x_C (x_rd n tb (w_n w) (w_z w) (x_wc S (w_c w (w_p w)))))) (x_rd n tb (w_n w) (w_z w) (x_wc S (w_c w (w_p w)))) B cp cv gone hp2 ∧ F_T hp hp2)) := by
  refine q_C.of hG (by decide) (Nat.le_of_ble_eq_true rfl) ?_
  have h_s := h.1
  have h_t := h.2.1
  have h_w := h.2.2.2.1.1
  have h_cr := h.2.2.2.1.2.2.2.1
  have h_r := h.2.2.2.2.1.1
  have h_e := h.2.2.2.2.2.1.1
  have h_c := h.2.2.2.2.2.2.1
  have hx2 : x_ok n0 (x_wc S (w_c w (w_p w))) := ⟨hxo.1, hxo.2.1, hxo.2.2.1, hxo.2.2.2.1, hok.2.2.2 _ hp6⟩
  have hin : vp_in (nI (w_p w)) 6 := vp_in_nI hp6 (by decide)
  refine q_aload_n d_S_process_0 rfl rfl ?_
  refine q_get d_S_process_1 f_S_19 h_s rfl ?_
  refine q_get d_S_process_4 f_S_75 h_w rfl ?_
  refine q_bipush (v := 6) d_S_process_7 (by decide) ?_
  refine q_icmp_lt (tgt := 14) d_S_process_9 (by decide) (fun b9 => ?_) (fun b9 => ?_)
  · skip
    refine q_aload_n d_S_process_14 rfl rfl ?_
    refine q_get d_S_process_15 f_S_28 h_s rfl ?_
    refine q_aload_n d_S_process_18 rfl rfl ?_
    refine q_get d_S_process_19 f_S_19 h_s rfl ?_
    refine q_get d_S_process_22 f_S_78 h_w rfl ?_
    refine q_aload_n d_S_process_25 rfl rfl ?_
    refine q_get d_S_process_26 f_S_19 h_s rfl ?_
    refine q_get d_S_process_29 f_S_75 h_w rfl ?_
    refine q_aald d_S_process_32 h_cr rfl hin (cr_at hp6) ?_
    refine x_callVr (stk := [.ref (7 + 5 * w_p w), .ref 37]) d_S_process_33 l_S_82 i_Re_read v_Re_read rfl h_r (c_Re_read hG (n0 := n0) hp6 hok.1 (fun v hv => (hok.2.2.1 v (by have := hok.1; omega)).2.1) htb (h.x hp6) hx2) rfl rfl (Nat.le_of_ble_eq_true rfl) (Nat.le_of_ble_eq_true rfl) (Nat.le_of_ble_eq_true rfl) (Nat.le_of_ble_eq_true rfl) (fun hp1 k1 => ?_)
    have g1 := h.rd hp6 k1.1 k1.2
    have h_s := g1.1
    have h_w := g1.2.2.2.1.1
    refine q_if_ne (tgt := 41) d_S_process_36 (by decide) (fun b36 => ?_) (fun b36 => ?_)
    · skip
      rw [if_neg hk] at b36
      exact absurd rfl b36
    · skip
      refine q_iconst (v := (-1)) d_S_process_39 (by decide) ?_
      refine q_iret d_S_process_40 rfl ?_ (Nat.le_of_ble_eq_true rfl) (Nat.le_of_ble_eq_true rfl) (by decide)
      exact ⟨hp1, rfl, rfl, g1, k1.2.t hp6⟩
  · skip
    exact absurd (show nI (w_p w) < nI 6 from nI_lt hp6 (by decide)) b9
set_option maxRecDepth 10000 in
set_option maxHeartbeats 2000000 in
theorem c_S_process1 (hG : q_GG g) {n : Nat} {f : Nat → Int32} {tb : Nat → Nat} {w : w_T} {S : x_S} {B : z_S} {cp cv : Nat → Nat} {gone n0 : Nat} {hp : List va_E} (h : T_A n f w S B cp cv gone hp) (hp6 : w_p w < 6) (hok : w_ok w) (htb : t_ok n f tb) (hxo : x_ok n0 S) (hk : x_k (x_ld n tb (w_n w) (w_z w) (x_wc S (w_c w (w_p w)))) = 0) : q_C g m_S_process true (q_R 5 110 0 0) [.ref 0] hp (q_ho (some (.int (nI (w_p w)))) (fun hp2 => T_A n f (w_in (w_sc w (w_p w) (x_C (x_rd n tb (w_n w) (w_z w) (x_wc S (w_c w (w_p w))))))) (x_rd n tb (w_n w) (w_z w) (x_wc S (w_c w (w_p w)))) (B_0 B) (cp0 cp) (cv0 (w_f w) cv) 0 hp2 ∧ F_T hp hp2)) := by
  refine q_C.of hG (by decide) (Nat.le_of_ble_eq_true rfl) ?_
  have h_s := h.1
  have h_t := h.2.1
  have h_w := h.2.2.2.1.1
  have h_cr := h.2.2.2.1.2.2.2.1
  have h_r := h.2.2.2.2.1.1
  have h_e := h.2.2.2.2.2.1.1
  have h_c := h.2.2.2.2.2.2.1
  have hx2 : x_ok n0 (x_wc S (w_c w (w_p w))) := ⟨hxo.1, hxo.2.1, hxo.2.2.1, hxo.2.2.2.1, hok.2.2.2 _ hp6⟩
  have hin : vp_in (nI (w_p w)) 6 := vp_in_nI hp6 (by decide)
  refine q_aload_n d_S_process_0 rfl rfl ?_
  refine q_get d_S_process_1 f_S_19 h_s rfl ?_
  refine q_get d_S_process_4 f_S_75 h_w rfl ?_
  refine q_bipush (v := 6) d_S_process_7 (by decide) ?_
  refine q_icmp_lt (tgt := 14) d_S_process_9 (by decide) (fun b9 => ?_) (fun b9 => ?_)
  · skip
    refine q_aload_n d_S_process_14 rfl rfl ?_
    refine q_get d_S_process_15 f_S_28 h_s rfl ?_
    refine q_aload_n d_S_process_18 rfl rfl ?_
    refine q_get d_S_process_19 f_S_19 h_s rfl ?_
    refine q_get d_S_process_22 f_S_78 h_w rfl ?_
    refine q_aload_n d_S_process_25 rfl rfl ?_
    refine q_get d_S_process_26 f_S_19 h_s rfl ?_
    refine q_get d_S_process_29 f_S_75 h_w rfl ?_
    refine q_aald d_S_process_32 h_cr rfl hin (cr_at hp6) ?_
    refine x_callVr (stk := [.ref (7 + 5 * w_p w), .ref 37]) d_S_process_33 l_S_82 i_Re_read v_Re_read rfl h_r (c_Re_read hG (n0 := n0) hp6 hok.1 (fun v hv => (hok.2.2.1 v (by have := hok.1; omega)).2.1) htb (h.x hp6) hx2) rfl rfl (Nat.le_of_ble_eq_true rfl) (Nat.le_of_ble_eq_true rfl) (Nat.le_of_ble_eq_true rfl) (Nat.le_of_ble_eq_true rfl) (fun hp1 k1 => ?_)
    have g1 := h.rd hp6 k1.1 k1.2
    have h_s := g1.1
    have h_w := g1.2.2.2.1.1
    refine q_if_ne (tgt := 41) d_S_process_36 (by decide) (fun b36 => ?_) (fun b36 => ?_)
    · skip
      refine q_aload_n d_S_process_41 rfl rfl ?_
      refine q_get d_S_process_42 f_S_19 h_s rfl ?_
      refine q_dup d_S_process_45 rfl ?_
      refine q_get d_S_process_46 f_S_75 h_w rfl ?_
      refine q_iconst (v := 1) d_S_process_49 (by decide) ?_
      refine q_iadd d_S_process_50 ?_
      refine x_put d_S_process_51 f_S_75 h_w (Nat.le_of_ble_eq_true rfl) rfl rfl (fun hp1 e1 h_w => ?_)
      have h_s := q_keep e1 h_s (by omega)
      rw [nI_1] at e1 h_w
      have g2 : T_A n f (w_in (w_sc w (w_p w) (x_C (x_rd n tb (w_n w) (w_z w) (x_wc S (w_c w (w_p w))))))) (x_rd n tb (w_n w) (w_z w) (x_wc S (w_c w (w_p w)))) B cp cv gone hp1 := by rw [e1]; exact g1.in
      have hF2 : F_T hp hp1 := by rw [e1]; exact (k1.2.t hp6).trans (F_T.set _ (by omega))
      have h_s := g2.1
      refine q_aload_n d_S_process_54 rfl rfl ?_
      refine x_callVr d_S_process_55 l_S_72 i_S_beginAnew v_S_beginAnew rfl h_s (c_S_beginAnew hG g2) rfl rfl (Nat.le_of_ble_eq_true rfl) (Nat.le_of_ble_eq_true rfl) (Nat.le_of_ble_eq_true rfl) (Nat.le_of_ble_eq_true rfl) (fun hp5 k5 => ?_)
      have h_s := k5.1.1
      have h_w : hp5[3]? = some (o_Wo (w_n w) (w_p w + 1)) := k5.1.2.2.2.1.1
      refine q_aload_n d_S_process_58 rfl rfl ?_
      refine q_get d_S_process_59 f_S_19 h_s rfl ?_
      refine q_get d_S_process_62 f_S_75 h_w rfl ?_
      refine q_iconst (v := 1) d_S_process_65 (by decide) ?_
      refine q_isub d_S_process_66 ?_
      rw [nI_pred]
      refine q_iret d_S_process_67 rfl ?_ (Nat.le_of_ble_eq_true rfl) (Nat.le_of_ble_eq_true rfl) (by decide)
      exact ⟨hp5, rfl, rfl, k5.1, hF2.trans k5.2⟩
    · skip
      rw [if_pos hk] at b36
      exact absurd b36 (by decide)
  · skip
    exact absurd (show nI (w_p w) < nI 6 from nI_lt hp6 (by decide)) b9
end C28
