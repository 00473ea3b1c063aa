/-! TextReader: the whole text -/
section C14
variable {g : q_G}
def x_ot (S : x_S) : x_S := if 12 ≤ x_d S then x_mf 3 S else x_bt (x_d S + 1, x_a S + 1, x_k S, x_p S, x_ch S, x_rw S, x_ac S, x_C S)
/-- one round of the reader -/
def x_rn (n : Nat) (tb : Nat → Nat) (nv : Nat) (z : Nat → Nat) (S : x_S) : x_S :=
  if t_b n tb (x_a S) = 124 then x_ec (x_at1 S) else if t_b n tb (x_a S) = 40 then x_ot S else if t_b n tb (x_a S) = 41 then x_ct n tb S else x_ra n tb nv z S
def x_rl (n : Nat) (tb : Nat → Nat) (nv : Nat) (z : Nat → Nat) : Nat → x_S → x_S
  | 0, S => S
  | k + 1, S => if x_a S < n ∧ x_k S = 0 then x_rl n tb nv z k (x_rn n tb nv z S) else S
def c_rs (C : c_T) : c_T := (1, 0, fun j => if j < 13 then 0 else c_s C j, c_k C, c_v C, c_f C)
def x_b0 (S : x_S) : x_S := x_bt (0, 0, 0, -1, x_ch S, x_rw S, x_ac S, c_rs (x_C S))
def x_cl1 (S : x_S) : x_S := if x_k S = 0 ∧ 0 < x_d S then x_mf 1 S else S
def c_fi (t : p_T) (C : c_T) : c_T := (c_n C, t.2.2 ||| t.1, va_up (c_s C) 0 t.2.1, c_k C, c_v C, c_f C)
def x_fi (S : x_S) : x_S := (x_d S, x_a S, x_k S, x_p S, x_ch S, x_rw S, x_ac S, c_fi (x_ch S (x_d S)) (x_C S))
def x_ld (n : Nat) (tb : Nat → Nat) (nv : Nat) (z : Nat → Nat) (S : x_S) : x_S := x_cl1 (x_rl n tb nv z 100 (x_b0 S))
/-- the whole text read -/
def x_rd (n : Nat) (tb : Nat → Nat) (nv : Nat) (z : Nat → Nat) (S : x_S) : x_S := if x_k (x_ld n tb nv z S) = 0 then x_fi (x_ec (x_ld n tb nv z S)) else x_ld n tb nv z S
theorem x_ok.pt {n : Nat} {tb : Nat → Nat} {S : x_S} {kd ow fg : Nat} (h : x_ok n S) (hn : c_n (x_C S) ≤ 12) (hk : kd < 128) (ho : ow < 5) (hf : fg < 5) : x_ok n (x_pt n tb kd ow fg S) := (h.pre hn hk ho hf).add (fun _ h => by cases h)
theorem x_ok.ra {n : Nat} {tb : Nat → Nat} {nv : Nat} {z : Nat → Nat} {S : x_S} (h : x_ok n S) (hnv : nv ≤ 5) (hz : ∀ v, v < nv → z v ≤ 5) : x_ok n (x_ra n tb nv z S) := by
  unfold x_ra
  split
  · next h1 =>
    have ha : x_a S < n := t_b_lt (tb := tb) (by omega)
    split
    · exact h
    · next h2 => exact (h.at1 ha).pt (show c_n (x_C S) ≤ 12 by omega) (by decide) (by decide) (by decide)
  · split
    · next h1 =>
      have ha : x_a S < n := t_b_lt (tb := tb) (by omega)
      split
      · exact h
      · next h2 =>
        split
        · next h3 =>
          have hk := b_kd_lt h3
          have ha2 : x_a S + 1 < n := t_b_lt (tb := tb) (by omega)
          have hz := hz (t_b n tb (x_a S) - 97) (by omega)
          split
          · split
            · next h5 =>
              have ha3 : x_a S + 2 < n := t_b_lt (tb := tb) (by omega)
              exact (((h.at1 ha).at1 ha2).at1 ha3).pt (show c_n (x_C S) ≤ 12 by omega) hk (by omega) (by omega)
            · exact (h.at1 ha).at1 ha2
          · exact ((h.at1 ha).at1 ha2).pt (show c_n (x_C S) ≤ 12 by omega) hk (by omega) (by decide)
        · exact h.at1 ha
    · exact h
theorem x_ok.rn {n : Nat} {tb : Nat → Nat} {nv : Nat} {z : Nat → Nat} {S : x_S} (h : x_ok n S) (hnv : nv ≤ 5) (hz : ∀ v, v < nv → z v ≤ 5) (ha : x_a S < n) : x_ok n (x_rn n tb nv z S) := by
  unfold x_rn
  split
  · exact (h.at1 ha).ec
  · split
    · unfold x_ot
      split
      · exact h
      · next h1 => exact x_ok.bt (S := (x_d S + 1, x_a S + 1, x_k S, x_p S, x_ch S, x_rw S, x_ac S, x_C S)) ⟨show x_d S + 1 < 13 by omega, ha, h.2.2⟩
    · split
      · unfold x_ct
        split
        · exact h
        · exact (h.cl ha).add (fun i hi => by cases hi; exact h.1)
      · exact h.ra hnv hz
theorem x_ok.rl {n : Nat} {tb : Nat → Nat} {nv : Nat} {z : Nat → Nat} (hnv : nv ≤ 5) (hz : ∀ v, v < nv → z v ≤ 5) : ∀ (k : Nat) (S : x_S), x_ok n S → x_ok n (x_rl n tb nv z k S) := by
  intro k
  induction k with
  | zero => exact fun S h => h
  | succ k ih =>
    intro S h
    unfold x_rl
    split
    · next q => exact ih _ (h.rn hnv hz q.1)
    · exact h
theorem c_ok.rs {C : c_T} (h : c_ok C) : c_ok (c_rs C) := by
  obtain ⟨h1, h2, h3, h4⟩ := h
  refine ⟨by show 1 ≤ 1; omega, by show 1 ≤ 13; omega, by show 0 < 8192; omega, fun j hj => ?_⟩
  obtain ⟨d1, d2, d3, d4⟩ := h4 j hj
  refine ⟨?_, d2, d3, d4⟩
  show (if j < 13 then 0 else c_s C j) < 8192
  rw [if_pos hj]
  decide
theorem x_ok.b0 {n n0 : Nat} {S : x_S} (h : x_ok n0 S) : x_ok n (x_b0 S) := x_ok.bt (S := (0, 0, 0, -1, x_ch S, x_rw S, x_ac S, c_rs (x_C S))) ⟨by show 0 < 13; omega, Nat.zero_le _, h.2.2.1, h.2.2.2.1, h.2.2.2.2.rs⟩
theorem c_ok.fi {C : c_T} {t : p_T} (h : c_ok C) (ht : p_ok t) : c_ok (c_fi t C) := by
  obtain ⟨h1, h2, h3, h4⟩ := h
  refine ⟨h1, h2, or_lt ht.2.2 (Nat.lt_trans ht.1 (by decide)), fun j hj => ?_⟩
  obtain ⟨d1, d2, d3, d4⟩ := h4 j hj
  refine ⟨?_, d2, d3, d4⟩
  show va_up _ _ _ j < 8192
  unfold va_up
  split
  · exact ht.2.1
  · exact d1
theorem x_ok.ld {n n0 : Nat} {tb : Nat → Nat} {nv : Nat} {z : Nat → Nat} {S : x_S} (h : x_ok n0 S) (hnv : nv ≤ 5) (hz : ∀ v, v < nv → z v ≤ 5) : x_ok n (x_ld n tb nv z S) := by
  have h2 : x_ok n (x_rl n tb nv z 100 (x_b0 S)) := x_ok.rl hnv hz _ _ h.b0
  unfold x_ld x_cl1
  split
  · exact h2
  · exact h2
theorem x_ok.rd {n n0 : Nat} {tb : Nat → Nat} {nv : Nat} {z : Nat → Nat} {S : x_S} (h : x_ok n0 S) (hnv : nv ≤ 5) (hz : ∀ v, v < nv → z v ≤ 5) : x_ok n (x_rd n tb nv z S) := by
  have h2 : x_ok n (x_ld n tb nv z S) := h.ld hnv hz
  unfold x_rd
  split
  · have h3 := h2.ec
    exact ⟨h3.1, h3.2.1, h3.2.2.1, h3.2.2.2.1, h3.2.2.2.2.fi (h3.2.2.1 _ h3.1).1⟩
  · exact h2
theorem b_look {cc : Nat} (h : cc ≤ 256) : Op.lookupswitch.offset #[(40, 50), (41, 57), (124, 33)].toList 65 (b_v cc).toInt = if cc = 124 then 33 else if cc = 40 then 50 else if cc = 41 then 57 else 65 := by
  have : ∀ c, c < 257 → Op.lookupswitch.offset #[(40, 50), (41, 57), (124, 33)].toList 65 (b_v c).toInt = if c = 124 then 33 else if c = 40 then 50 else if c = 41 then 57 else 65 := by decide +kernel
  exact this cc (by omega)
set_option maxRecDepth 10000 in
set_option maxHeartbeats 2000000 in
theorem c_Re_readNext (hG : q_GG g) {p n : Nat} {f : Nat → Int32} {tb : Nat → Nat} {nv np : Nat} {z : Nat → Nat} {S : x_S} {hp : List va_E} (hp6 : p < 6) (hnv5 : nv ≤ 5) (hz5 : ∀ v, v < nv → z v ≤ 5) (htb : t_ok n f tb) (h : X_A p n f nv np z S hp) (hok : x_ok n S) (ha : x_a S < n) (hk0 : x_k S = 0) : q_C g m_Re_readNext true (q_R 3 60 0 0) [.ref 37, .ref (7 + 5 * p)] hp (q_ho none (fun hp2 => X_A p n f nv np z (x_rn n tb nv z S) hp2 ∧ F_A p hp hp2)) := by
  refine q_C.of hG (by decide) (Nat.le_of_ble_eq_true rfl) ?_
  have h_r := h.1
  have hc := h.2.2.2.2.2.2.1
  have h_c := hc.1
  have h_ta := h.2.2.2.2.2.2.2.1
  have h_by := h.2.2.2.2.2.2.2.2.1
  have h_w := h.2.2.2.2.2.2.2.2.2.1
  have hn100 := htb.1
  have hal := hok.2.1
  have hcl := t_b_le htb (x_a S)
  refine q_aload_n d_Re_readNext_0 rfl rfl ?_
  refine q_get d_Re_readNext_1 f_Re_29 h_r rfl ?_
  refine q_aload_n d_Re_readNext_4 rfl rfl ?_
  refine q_get d_Re_readNext_5 f_Re_40 h_r rfl ?_
  refine x_callV d_Re_readNext_8 l_Re_74 i_Ta_byteAt v_Ta_byteAt rfl h_ta (c_Ta_byteAt hG h_ta h_by htb.1 (i := x_a S) (by omega)) rfl rfl (Nat.le_of_ble_eq_true rfl) (Nat.le_of_ble_eq_true rfl) (Nat.le_of_ble_eq_true rfl) (Nat.le_of_ble_eq_true rfl) ?_
  rw [t_b_v htb]
  unfold x_rn
  generalize hcc : t_b n tb (x_a S) = cc at *
  by_cases h1 : cc = 124
  · rw [if_pos h1]
    refine q_lookup (tgt := 44) d_Re_readNext_11 (by decide) (b_look hcl) (by rw [if_pos h1]; decide) ?_
    refine q_aload_n d_Re_readNext_44 rfl rfl ?_
    refine q_dup d_Re_readNext_45 rfl ?_
    refine q_get d_Re_readNext_46 f_Re_40 h_r rfl ?_
    refine q_iconst (v := 1) d_Re_readNext_49 (by decide) ?_
    refine q_iadd d_Re_readNext_50 ?_
    refine x_put d_Re_readNext_51 f_Re_40 h_r (Nat.le_of_ble_eq_true rfl) rfl rfl (fun hp1 e1 h_r => ?_)
    rw [nI_1] at e1 h_r
    have h2 : X_A p n f nv np z (x_at1 S) hp1 := by rw [e1]; exact h.re hp6
    have hF : F_A p hp hp1 := by rw [e1]; exact F_A.set hp6 _ (by omega)
    have hd := hok.1
    refine q_aload_n d_Re_readNext_54 rfl rfl ?_
    refine x_callVr d_Re_readNext_55 l_Re_67 i_Re_endChoice v_Re_endChoice rfl h2.1 (c_Re_endChoice hG hp6 h2 hd (hok.2.2.1 _ hd).1 (hok.2.2.1 _ hd).2) rfl rfl (Nat.le_of_ble_eq_true rfl) (Nat.le_of_ble_eq_true rfl) (Nat.le_of_ble_eq_true rfl) (Nat.le_of_ble_eq_true rfl) (fun hpz hz => ?_)
    refine q_goto (tgt := 81) d_Re_readNext_58 (by decide) ?_
    refine q_vret d_Re_readNext_81 rfl ?_ (Nat.le_of_ble_eq_true rfl) (Nat.le_of_ble_eq_true rfl) (by decide)
    exact ⟨hpz, rfl, rfl, hz.1, hF.trans hz.2⟩
  by_cases h2 : cc = 40
  · rw [if_neg h1, if_pos h2]
    refine q_lookup (tgt := 61) d_Re_readNext_11 (by decide) (b_look hcl) (by rw [if_neg h1, if_pos h2]; decide) ?_
    refine q_aload_n d_Re_readNext_61 rfl rfl ?_
    refine x_callVr d_Re_readNext_62 l_Re_78 i_Re_openText v_Re_openText rfl h.1 (c_Re_openText (tb := tb) hG hp6 h hok) rfl rfl (Nat.le_of_ble_eq_true rfl) (Nat.le_of_ble_eq_true rfl) (Nat.le_of_ble_eq_true rfl) (Nat.le_of_ble_eq_true rfl) (fun hpz hz => ?_)
    refine q_goto (tgt := 81) d_Re_readNext_65 (by decide) ?_
    refine q_vret d_Re_readNext_81 rfl ?_ (Nat.le_of_ble_eq_true rfl) (Nat.le_of_ble_eq_true rfl) (by decide)
    exact ⟨hpz, rfl, rfl, hz⟩
  by_cases h3 : cc = 41
  · rw [if_neg h1, if_neg h2, if_pos h3]
    refine q_lookup (tgt := 68) d_Re_readNext_11 (by decide) (b_look hcl) (by rw [if_neg h1, if_neg h2, if_pos h3]; decide) ?_
    refine q_aload_n d_Re_readNext_68 rfl rfl ?_
    refine q_aload_n d_Re_readNext_69 rfl rfl ?_
    refine x_callVr d_Re_readNext_70 l_Re_81 i_Re_closeText v_Re_closeText rfl h.1 (c_Re_closeText hG hp6 htb h hok ha) rfl rfl (Nat.le_of_ble_eq_true rfl) (Nat.le_of_ble_eq_true rfl) (Nat.le_of_ble_eq_true rfl) (Nat.le_of_ble_eq_true rfl) (fun hpz hz => ?_)
    refine q_goto (tgt := 81) d_Re_readNext_73 (by decide) ?_
    refine q_vret d_Re_readNext_81 rfl ?_ (Nat.le_of_ble_eq_true rfl) (Nat.le_of_ble_eq_true rfl) (by decide)
    exact ⟨hpz, rfl, rfl, hz⟩
  rw [if_neg h1, if_neg h2, if_neg h3]
  refine q_lookup (tgt := 76) d_Re_readNext_11 (by decide) (b_look hcl) (by rw [if_neg h1, if_neg h2, if_neg h3]; decide) ?_
  refine q_aload_n d_Re_readNext_76 rfl rfl ?_
  refine q_aload_n d_Re_readNext_77 rfl rfl ?_
  refine x_callVr d_Re_readNext_78 l_Re_84 i_Re_readAct v_Re_readAct rfl h.1 (c_Re_readAct hG hp6 hnv5 hz5 htb h hok hk0) rfl rfl (Nat.le_of_ble_eq_true rfl) (Nat.le_of_ble_eq_true rfl) (Nat.le_of_ble_eq_true rfl) (Nat.le_of_ble_eq_true rfl) (fun hpz hz => ?_)
  refine q_vret d_Re_readNext_81 rfl ?_ (Nat.le_of_ble_eq_true rfl) (Nat.le_of_ble_eq_true rfl) (by decide)
  exact ⟨hpz, rfl, rfl, hz⟩
theorem x_star_k (o : Option Nat) (S : x_S) : x_k (x_star o S) = x_k S := by cases o <;> rfl
theorem x_sl_k {n : Nat} {tb : Nat → Nat} {o : Option Nat} : ∀ (k : Nat) (S : x_S), x_k (x_sl n tb o k S) = x_k S := by
  intro k
  induction k with
  | zero => exact fun S => rfl
  | succ k ih =>
    intro S
    unfold x_sl
    split
    · rw [ih, x_star_k]
    · rfl
theorem x_add_k {n : Nat} {tb : Nat → Nat} {o : Option Nat} {S : x_S} : x_k (x_add n tb o S) = x_k S := x_sl_k _ _
theorem x_pt_k {n : Nat} {tb : Nat → Nat} {kd ow fg : Nat} {S : x_S} : x_k (x_pt n tb kd ow fg S) = x_k S := x_add_k
theorem x_rn_k {n : Nat} {tb : Nat → Nat} {nv : Nat} {z : Nat → Nat} {S : x_S} (h : x_k S = 0) : x_k (x_rn n tb nv z S) ≤ 3 := by
  have h3 : x_k S ≤ 3 := by omega
  unfold x_rn
  split
  · exact h3
  · split
    · unfold x_ot; split
      · show 3 ≤ 3; decide
      · exact h3
    · split
      · unfold x_ct; split
        · show 1 ≤ 3; decide
        · rw [x_add_k]; exact h3
      · unfold x_ra
        repeat' split
        all_goals first | (rw [x_pt_k]; exact h3) | (show 2 ≤ 3; decide) | (show 1 ≤ 3; decide)
theorem pn_end {t : p_T} (h : p_ok t) : (nI t.2.2 ||| (if (nI t.1 : Int32) = 0 then 0 else 1)) = nI (t.2.2 ||| t.1) := by
  obtain ⟨h1, _, h3⟩ := h
  have : t.1 = 0 ∨ t.1 = 1 := by omega
  rcases this with q | q
  · rw [q, Nat.or_zero]; exact Int32.or_zero
  · rw [q]; exact (tb_or _ 1)
set_option maxRecDepth 10000 in
set_option maxHeartbeats 2000000 in
theorem l_rd_yes (hG : q_GG g) {p n : Nat} {f : Nat → Int32} {tb : Nat → Nat} {nv np : Nat} {z : Nat → Nat} {S : x_S} {hp : List va_E} {hpb : List va_E} {z2 : Option Value} (hp6 : p < 6) (h : X_A p n f nv np z S hp) (hok : x_ok n S) (hFF : F_A p hpb hp) (hk0 : x_k S = 0) : q_J g m_Re_read true (q_R 4 80 0 0) (q_ho (some (.int 1)) (fun hp2 => X_A p n f nv np z (x_fi (x_ec S)) hp2 ∧ F_A p hpb hp2)) 87 [some (.ref 37), some (.ref (7 + 5 * p)), z2] [] hp 0 0 true := by
  have h_r := h.1
  have hd := hok.1
  have hin : vp_in (nI (x_d S)) 13 := vp_in_nI hd (by decide)
  refine q_aload_n d_Re_read_87 rfl rfl ?_
  refine q_get d_Re_read_88 f_Re_37 h_r rfl ?_
  refine q_if_eq (tgt := 96) d_Re_read_91 (by decide) (fun b91 => ?_) (fun b91 => ?_)
  · skip
    refine q_aload_n d_Re_read_96 rfl rfl ?_
    refine x_callVr d_Re_read_97 l_Re_67 i_Re_endChoice v_Re_endChoice rfl h.1 (c_Re_endChoice hG hp6 h hd (hok.2.2.1 _ hd).1 (hok.2.2.1 _ hd).2) rfl rfl (Nat.le_of_ble_eq_true rfl) (Nat.le_of_ble_eq_true rfl) (Nat.le_of_ble_eq_true rfl) (Nat.le_of_ble_eq_true rfl) (fun hpz hz => ?_)
    have h2 := hz.1
    have h_r := h2.1
    have h_ch := h2.2.1
    have hC := h2.2.2.2.2.2.2.1
    have h_c := hC.1
    have h_o := h2.2.2.2.2.1 (x_d S) hd
    have hpk := (hok.ec.2.2.1 (x_d S) hd).1
    have hF := c_Co_finish hG h_c hC.2.1 h_o (by omega) (by omega)
    rw [u_nI (k := 0) (y := (x_ch (x_ec S) (x_d S)).2.1) rfl rfl, pn_end hpk] at hF
    refine q_aload_n d_Re_read_100 rfl rfl ?_
    refine q_aload_n d_Re_read_101 rfl rfl ?_
    refine q_get d_Re_read_102 f_Re_11 h_r rfl ?_
    refine q_aload_n d_Re_read_105 rfl rfl ?_
    refine q_get d_Re_read_106 f_Re_43 h_r rfl ?_
    refine q_aald d_Re_read_109 h_ch rfl hin (ch_at hd) ?_
    refine x_callV d_Re_read_110 l_Re_70 i_Co_finish v_Co_finish rfl h_c (hF) rfl rfl (Nat.le_of_ble_eq_true rfl) (Nat.le_of_ble_eq_true rfl) (Nat.le_of_ble_eq_true rfl) (Nat.le_of_ble_eq_true rfl) ?_
    refine q_iconst (v := 1) d_Re_read_113 (by decide) ?_
    refine q_zret d_Re_read_114 rfl (by decide) ?_ (Nat.le_of_ble_eq_true rfl) (Nat.le_of_ble_eq_true rfl) (by decide)
    refine ⟨_, rfl, rfl, ?_, hFF.trans (hz.2.trans ((F_A.set (a := 7 + 5 * p + 1) hp6 _ (by omega)).trans (F_A.set (a := 7 + 5 * p) hp6 _ (by omega))))⟩
    exact h2.co (C := c_fi (x_ch (x_ec S) (x_d S)) (x_C S)) hp6 (fun k hk => by rw [List.getElem?_set_ne (by omega), List.getElem?_set_ne (by omega)]) ⟨q_self (q_keep rfl hC.1 (by omega)), q_keep rfl (q_self hC.2.1) (by omega), q_keep rfl (q_keep rfl hC.2.2.1 (by omega)) (by omega), q_keep rfl (q_keep rfl hC.2.2.2.1 (by omega)) (by omega), q_keep rfl (q_keep rfl hC.2.2.2.2 (by omega)) (by omega)⟩
  · skip
    exact absurd (by rw [hk0]; rfl) b91
set_option maxRecDepth 10000 in
set_option maxHeartbeats 2000000 in
theorem l_rd_no (hG : q_GG g) {p n : Nat} {f : Nat → Int32} {tb : Nat → Nat} {nv np : Nat} {z : Nat → Nat} {S : x_S} {hp : List va_E} {hpb : List va_E} {z2 : Option Value} (h : X_A p n f nv np z S hp) (hFF : F_A p hpb hp) (hk0 : x_k S ≠ 0) (hk3 : x_k S ≤ 3) : q_J g m_Re_read true (q_R 4 80 0 0) (q_ho (some (.int 0)) (fun hp2 => X_A p n f nv np z S hp2 ∧ F_A p hpb hp2)) 87 [some (.ref 37), some (.ref (7 + 5 * p)), z2] [] hp 0 0 true := by
  have h_r := h.1
  refine q_aload_n d_Re_read_87 rfl rfl ?_
  refine q_get d_Re_read_88 f_Re_37 h_r rfl ?_
  refine q_if_eq (tgt := 96) d_Re_read_91 (by decide) (fun b91 => ?_) (fun b91 => ?_)
  · skip
    exact absurd b91 (nI_ne0 (by omega) (by omega))
  · skip
    refine q_iconst (v := 0) d_Re_read_94 (by decide) ?_
    refine q_zret d_Re_read_95 rfl (by decide) ?_ (Nat.le_of_ble_eq_true rfl) (Nat.le_of_ble_eq_true rfl) (by decide)
    exact ⟨hp, rfl, rfl, h, hFF⟩
set_option maxRecDepth 10000 in
set_option maxHeartbeats 2000000 in
theorem l_rd_end (hG : q_GG g) {p n : Nat} {f : Nat → Int32} {tb : Nat → Nat} {nv np : Nat} {z : Nat → Nat} {S : x_S} {hp : List va_E} {hpb : List va_E} {z2 : Option Value} (hp6 : p < 6) (h : X_A p n f nv np z S hp) (hok : x_ok n S) (hFF : F_A p hpb hp) (hk3 : x_k S ≤ 3) : q_J g m_Re_read true (q_R 4 80 0 0) (q_ho (some (.int (if x_k (x_cl1 (S)) = 0 then 1 else 0))) (fun hp2 => X_A p n f nv np z (if x_k (x_cl1 (S)) = 0 then x_fi (x_ec (x_cl1 (S))) else x_cl1 (S)) hp2 ∧ F_A p hpb hp2)) 68 [some (.ref 37), some (.ref (7 + 5 * p)), z2] [] hp 0 0 true := by
  have h_r := h.1
  have hd := hok.1
  refine q_aload_n d_Re_read_68 rfl rfl ?_
  refine q_get d_Re_read_69 f_Re_37 h_r rfl ?_
  refine q_if_ne (tgt := 87) d_Re_read_72 (by decide) (fun b72 => ?_) (fun b72 => ?_)
  · skip
    have hk0 : x_k S ≠ 0 := fun q => b72 (by rw [q]; rfl)
    have e1 : x_cl1 S = S := if_neg (fun q => hk0 q.1)
    rw [e1, if_neg hk0, if_neg hk0]
    exact l_rd_no (tb := tb) hG h hFF hk0 hk3
  · skip
    have hk0 : x_k S = 0 := (nI_eq (b := 0) (by omega) (by decide)).mp b72
    refine q_aload_n d_Re_read_75 rfl rfl ?_
    refine q_get d_Re_read_76 f_Re_43 h_r rfl ?_
    refine q_if_le (tgt := 87) d_Re_read_79 (by decide) (fun b79 => ?_) (fun b79 => ?_)
    · skip
      have hd0 : ¬ 0 < x_d S := fun q => nI_nle q (by omega) b79
      have e1 : x_cl1 S = S := if_neg (fun q => hd0 q.2)
      rw [e1, if_pos hk0, if_pos hk0]
      exact l_rd_yes (tb := tb) hG hp6 h hok hFF hk0
    · skip
      have hd0 : 0 < x_d S := Nat.pos_of_ne_zero (fun q => b79 (by rw [q]; decide))
      have e1 : x_cl1 S = x_mf 1 S := if_pos ⟨hk0, hd0⟩
      have e3 : ¬ x_k (x_mf 1 S) = 0 := by show ¬ 1 = 0; decide
      rw [e1, if_neg e3, if_neg e3]
      refine q_aload_n d_Re_read_82 rfl rfl ?_
      refine q_iconst (v := 1) d_Re_read_83 (by decide) ?_
      refine x_callVr d_Re_read_84 l_Re_63 i_Re_meetFault v_Re_meetFault rfl h.1 (c_Re_meetFault hG hp6 h) rfl rfl (Nat.le_of_ble_eq_true rfl) (Nat.le_of_ble_eq_true rfl) (Nat.le_of_ble_eq_true rfl) (Nat.le_of_ble_eq_true rfl) (fun hpz hz => ?_)
      exact l_rd_no (tb := tb) hG hz.1 (hFF.trans hz.2) e3 (by show 1 ≤ 3; decide)
set_option maxRecDepth 10000 in
set_option maxHeartbeats 2000000 in
theorem l_rd_loop (hG : q_GG g) {p n : Nat} {f : Nat → Int32} {tb : Nat → Nat} {nv np : Nat} {z : Nat → Nat} {hpb : List va_E} (hp6 : p < 6) (hnv5 : nv ≤ 5) (hz5 : ∀ v, v < nv → z v ≤ 5) (htb : t_ok n f tb) : ∀ (k r : Nat) (S : x_S) (hp : List va_E), r + k = 100 → X_A p n f nv np z S hp → x_ok n S → F_A p hpb hp → x_k S ≤ 3 → q_J g m_Re_read true (q_R 4 80 0 0) (q_ho (some (.int (if x_k (x_cl1 (x_rl n tb nv z k S)) = 0 then 1 else 0))) (fun hp2 => X_A p n f nv np z (if x_k (x_cl1 (x_rl n tb nv z k S)) = 0 then x_fi (x_ec (x_cl1 (x_rl n tb nv z k S))) else x_cl1 (x_rl n tb nv z k S)) hp2 ∧ F_A p hpb hp2)) 30 [some (.ref 37), some (.ref (7 + 5 * p)), some (.int (nI r))] [] hp 0 0 true := by
  intro k
  induction k with
  | zero =>
    intro r S hp hrk h hok hFF hk3
    refine q_iload_n d_Re_read_30 rfl ?_
    refine q_bipush (v := 100) d_Re_read_31 (by decide) ?_
    refine q_icmp_ge (tgt := 68) d_Re_read_33 (by decide) (fun b33 => ?_) (fun b33 => ?_)
    · skip
      exact l_rd_end (tb := tb) hG hp6 h hok hFF hk3
    · skip
      exact absurd (show nI 100 ≤ nI r from nI_le (by omega) (by omega)) b33
  | succ k ih =>
    intro r S hp hrk h hok hFF hk3
    have h_r := h.1
    have h_ta := h.2.2.2.2.2.2.2.1
    have hn100 := htb.1
    have hal := hok.2.1
    refine q_iload_n d_Re_read_30 rfl ?_
    refine q_bipush (v := 100) d_Re_read_31 (by decide) ?_
    refine q_icmp_ge (tgt := 68) d_Re_read_33 (by decide) (fun b33 => ?_) (fun b33 => ?_)
    · skip
      exact absurd b33 (show ¬ nI 100 ≤ nI r from nI_ge (by omega) (by omega))
    · skip
      refine q_aload_n d_Re_read_36 rfl rfl ?_
      refine q_get d_Re_read_37 f_Re_40 h_r rfl ?_
      refine q_aload_n d_Re_read_40 rfl rfl ?_
      refine q_get d_Re_read_41 f_Re_29 h_r rfl ?_
      refine q_get d_Re_read_44 f_Re_54 h_ta rfl ?_
      refine q_icmp_ge (tgt := 68) d_Re_read_47 (by decide) (fun b47 => ?_) (fun b47 => ?_)
      · skip
        rw [nI_leI (by omega) (by omega)] at b47
        have e0 : x_rl n tb nv z (k + 1) S = S := if_neg (fun q => absurd q.1 (by omega))
        rw [e0]
        exact l_rd_end (tb := tb) hG hp6 h hok hFF hk3
      · skip
        rw [nI_leI (by omega) (by omega)] at b47
        have hlt : x_a S < n := by omega
        refine q_aload_n d_Re_read_50 rfl rfl ?_
        refine q_get d_Re_read_51 f_Re_37 h_r rfl ?_
        refine q_if_ne (tgt := 68) d_Re_read_54 (by decide) (fun b54 => ?_) (fun b54 => ?_)
        · skip
          have hk0 : x_k S ≠ 0 := fun q => b54 (by rw [q]; rfl)
          have e0 : x_rl n tb nv z (k + 1) S = S := if_neg (fun q => hk0 q.2)
          rw [e0]
          exact l_rd_end (tb := tb) hG hp6 h hok hFF hk3
        · skip
          have hk0 : x_k S = 0 := (nI_eq (b := 0) (by omega) (by decide)).mp b54
          have e0 : x_rl n tb nv z (k + 1) S = x_rl n tb nv z k (x_rn n tb nv z S) := if_pos ⟨hlt, hk0⟩
          rw [e0]
          refine q_aload_n d_Re_read_57 rfl rfl ?_
          refine q_aload_n d_Re_read_58 rfl rfl ?_
          refine x_callVr d_Re_read_59 l_Re_59 i_Re_readNext v_Re_readNext rfl h.1 (c_Re_readNext hG hp6 hnv5 hz5 htb h hok hlt hk0) rfl rfl (Nat.le_of_ble_eq_true rfl) (Nat.le_of_ble_eq_true rfl) (Nat.le_of_ble_eq_true rfl) (Nat.le_of_ble_eq_true rfl) (fun hpz hz => ?_)
          refine q_iinc d_Re_read_62 rfl (show _ + Int32.ofInt 1 = _ + 1 from rfl) (by decide) rfl ?_
          rw [nI_1]
          refine q_goto (tgt := 30) d_Re_read_65 (by decide) ?_
          exact ih (r + 1) (x_rn n tb nv z S) hpz (by omega) hz.1 (hok.rn hnv5 hz5 hlt) (hFF.trans hz.2) (x_rn_k hk0)
theorem rs_a {hp : List va_E} {a : Nat} {C : c_T} (h : hp[a]? = some (a_I 13 (fun j => if j < 13 then 0 else nI (c_s C j)))) : hp[a]? = some (a_N 13 (c_s (c_rs C))) := by
  rw [h]
  congr 2
  funext j
  show (if j < 13 then 0 else nI (c_s C j)) = nI (if j < 13 then 0 else c_s C j)
  split <;> rfl
set_option maxRecDepth 10000 in
set_option maxHeartbeats 2000000 in
theorem c_Re_read (hG : q_GG g) {p n : Nat} {f : Nat → Int32} {tb : Nat → Nat} {nv np : Nat} {z : Nat → Nat} {S : x_S} {hp : List va_E} {n0 : Nat} (hp6 : p < 6) (hnv5 : nv ≤ 5) (hz5 : ∀ v, v < nv → z v ≤ 5) (htb : t_ok n f tb) (h : X_A p n f nv np z S hp) (hok : x_ok n0 S) : q_C g m_Re_read true (q_R 4 80 0 0) [.ref 37, .ref (7 + 5 * p)] hp (q_ho (some (.int (if x_k (x_ld n tb nv z S) = 0 then 1 else 0))) (fun hp2 => X_A p n f nv np z (x_rd n tb nv z S) hp2 ∧ F_A p hp hp2)) := by
  refine q_C.of hG (by decide) (Nat.le_of_ble_eq_true rfl) ?_
  have h_r := h.1
  have hc := h.2.2.2.2.2.2.1
  have h_c := hc.1
  have h_ta := h.2.2.2.2.2.2.2.1
  have h_by := h.2.2.2.2.2.2.2.2.1
  have h_w := h.2.2.2.2.2.2.2.2.2.1
  have hn100 := htb.1
  have hal := hok.2.1
  have hcl := t_b_le htb (x_a S)
  refine q_aload_n d_Re_read_0 rfl rfl ?_
  refine q_iconst (v := 0) d_Re_read_1 (by decide) ?_
  refine x_put d_Re_read_2 f_Re_37 h_r (Nat.le_of_ble_eq_true rfl) rfl rfl (fun hp1 e1 h_r => ?_)
  refine q_aload_n d_Re_read_5 rfl rfl ?_
  refine q_iconst (v := (-1)) d_Re_read_6 (by decide) ?_
  refine x_put d_Re_read_7 f_Re_25 h_r (Nat.le_of_ble_eq_true rfl) rfl rfl (fun hp2 e2 h_r => ?_)
  refine q_aload_n d_Re_read_10 rfl rfl ?_
  refine q_iconst (v := 0) d_Re_read_11 (by decide) ?_
  refine x_put d_Re_read_12 f_Re_40 h_r (Nat.le_of_ble_eq_true rfl) rfl rfl (fun hp3 e3 h_r => ?_)
  refine q_aload_n d_Re_read_15 rfl rfl ?_
  refine q_iconst (v := 0) d_Re_read_16 (by decide) ?_
  refine x_put d_Re_read_17 f_Re_43 h_r (Nat.le_of_ble_eq_true rfl) rfl rfl (fun hp4 e4 h_r => ?_)
  have h2 : X_A p n f nv np z (0, 0, 0, -1, x_ch S, x_rw S, x_ac S, x_C S) hp4 := by
    subst e1; subst e2; subst e3; subst e4
    rw [List.set_set, List.set_set, List.set_set]
    exact h.re hp6
  have hF2 : F_A p hp hp4 := by
    subst e1; subst e2; subst e3; subst e4
    rw [List.set_set, List.set_set, List.set_set]
    exact F_A.set hp6 _ (by omega)
  have hC := h2.2.2.2.2.2.2.1
  have h_c := hC.1
  refine q_aload_n d_Re_read_20 rfl rfl ?_
  refine x_callV d_Re_read_21 l_Re_46 i_Co_reset v_Co_reset rfl h_c (c_Co_reset hG h_c hC.2.1) rfl rfl (Nat.le_of_ble_eq_true rfl) (Nat.le_of_ble_eq_true rfl) (Nat.le_of_ble_eq_true rfl) (Nat.le_of_ble_eq_true rfl) ?_
  have h3 : X_A p n f nv np z (0, 0, 0, -1, x_ch S, x_rw S, x_ac S, c_rs (x_C S)) _ := h2.co (C := c_rs (x_C S)) hp6 (fun k hk => by rw [List.getElem?_set_ne (by omega), List.getElem?_set_ne (by omega)]) ⟨q_keep rfl (q_self hC.1) (by omega), rs_a (q_self (q_keep rfl hC.2.1 (by omega))), q_keep rfl (q_keep rfl hC.2.2.1 (by omega)) (by omega), q_keep rfl (q_keep rfl hC.2.2.2.1 (by omega)) (by omega), q_keep rfl (q_keep rfl hC.2.2.2.2 (by omega)) (by omega)⟩
  have hF3 := hF2.trans ((F_A.set (a := 7 + 5 * p) (x := o_Co (7 + 5 * p) 1 0) hp6 _ (by omega)).trans (F_A.set (a := 7 + 5 * p + 1) (x := a_I 13 (fun j => if j < 13 then 0 else nI (c_s (x_C S) j))) hp6 _ (by omega)))
  refine q_aload_n d_Re_read_24 rfl rfl ?_
  refine x_callVr d_Re_read_25 l_Re_51 i_Re_beginText v_Re_beginText rfl h3.1 (c_Re_beginText hG hp6 h3 (show 0 < 13 by decide)) rfl rfl (Nat.le_of_ble_eq_true rfl) (Nat.le_of_ble_eq_true rfl) (Nat.le_of_ble_eq_true rfl) (Nat.le_of_ble_eq_true rfl) (fun hpz hz => ?_)
  refine q_iconst (v := 0) d_Re_read_28 (by decide) ?_
  refine q_istore_n d_Re_read_29 rfl (by decide) rfl ?_
  exact l_rd_loop hG hp6 hnv5 hz5 htb 100 0 (x_b0 S) hpz rfl hz.1 hok.b0 (hF3.trans hz.2) (by show 0 ≤ 3; decide)
end C14
