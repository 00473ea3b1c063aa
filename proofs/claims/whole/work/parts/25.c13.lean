/-! TextReader: acts, the whole text -/
section C13
variable {g : q_G}
def c_add (C : c_T) (kd ow fg : Nat) : c_T := (c_n C + 1, c_e C, c_s C, va_up (c_k C) (c_n C) kd, va_up (c_v C) (c_n C) ow, va_up (c_f C) (c_n C) fg)
def x_pre (kd ow fg : Nat) (S : x_S) : x_S := (x_d S, x_a S, x_k S, x_p S, x_ch S, x_rw S, (0, 2 ^ c_n (x_C S), 2 ^ c_n (x_C S)), c_add (x_C S) kd ow fg)
def x_pt (n : Nat) (tb : Nat → Nat) (kd ow fg : Nat) (S : x_S) : x_S := x_add n tb none (x_pre kd ow fg S)
theorem c_ok.add {C : c_T} {kd ow fg : Nat} (h : c_ok C) (hn : c_n C ≤ 12) (hk : kd < 128) (ho : ow < 5) (hf : fg < 5) : c_ok (c_add C kd ow fg) := by
  obtain ⟨h1, h2, h3, h4⟩ := h
  refine ⟨by show 1 ≤ c_n C + 1; omega, by show c_n C + 1 ≤ 13; omega, h3, fun j hj => ?_⟩
  obtain ⟨d1, d2, d3, d4⟩ := h4 j hj
  refine ⟨d1, ?_, ?_, ?_⟩
  · show va_up _ _ _ j < 128
    unfold va_up; split <;> assumption
  · show va_up _ _ _ j < 5
    unfold va_up; split <;> assumption
  · show va_up _ _ _ j < 5
    unfold va_up; split <;> assumption
theorem x_ok.pre {n : Nat} {S : x_S} {kd ow fg : Nat} (h : x_ok n S) (hn : c_n (x_C S) ≤ 12) (hk : kd < 128) (ho : ow < 5) (hf : fg < 5) : x_ok n (x_pre kd ow fg S) := by
  obtain ⟨h1, h2, h3, h4, h5⟩ := h
  have hp : 2 ^ c_n (x_C S) < 8192 := Nat.lt_of_le_of_lt (Nat.pow_le_pow_right (by decide) hn) (by decide)
  exact ⟨h1, h2, h3, ⟨Nat.zero_lt_two, hp, hp⟩, h5.add hn hk ho hf⟩
set_option maxRecDepth 10000 in
set_option maxHeartbeats 2000000 in
theorem l_ra_ok (hG : q_GG g) {p n : Nat} {f : Nat → Int32} {tb : Nat → Nat} {nv np : Nat} {z : Nat → Nat} {S : x_S} {hp : List va_E} {hpb : List va_E} {kd ow fg : Nat} {z2 z3 z4 : Option Value} (hp6 : p < 6) (htb : t_ok n f tb) (h : X_A p n f nv np z S hp) (hF : F_A p hpb hp) (hok : x_ok n S) (hk0 : x_k S = 0) (hn12 : c_n (x_C S) ≤ 12) (hk : kd < 128) (ho : ow < 5) (hfg : fg < 5) : q_J g m_Re_readAct true (q_R 2 32 0 0) (q_ho none (fun hp2 => X_A p n f nv np z (x_pt n tb kd ow fg S) hp2 ∧ F_A p hpb hp2)) 135 [some (.ref 37), some (.ref (7 + 5 * p)), z2, z3, z4, some (.int (nI ow)), some (.int (nI kd)), some (.int (nI fg))] [] hp 0 0 true := by
  have h_r := h.1
  have hc := h.2.2.2.2.2.2.1
  have h_c := hc.1
  have hCa := c_Co_addAct hG (x := nI kd) (y := nI ow) (z := nI fg) h_c hc.2.2.1 hc.2.2.2.1 hc.2.2.2.2 (by omega)
  rw [u_nI (k := c_n (x_C S)) (y := kd) rfl rfl, u_nI (k := c_n (x_C S)) (y := ow) rfl rfl, u_nI (k := c_n (x_C S)) (y := fg) rfl rfl] at hCa
  refine q_aload_n d_Re_readAct_135 rfl rfl ?_
  refine q_get d_Re_readAct_136 f_Re_37 h_r rfl ?_
  refine q_if_ne (tgt := 171) d_Re_readAct_139 (by decide) (fun b139 => ?_) (fun b139 => ?_)
  · skip
    exact absurd (by rw [hk0]; rfl) b139
  · skip
    refine q_aload_n d_Re_readAct_142 rfl rfl ?_
    refine q_get d_Re_readAct_143 f_Re_21 h_r rfl ?_
    refine q_iconst (v := 0) d_Re_readAct_146 (by decide) ?_
    refine q_iconst (v := 1) d_Re_readAct_147 (by decide) ?_
    refine q_aload_n d_Re_readAct_148 rfl rfl ?_
    refine q_iload d_Re_readAct_149 rfl ?_
    refine q_iload d_Re_readAct_151 rfl ?_
    refine q_iload d_Re_readAct_153 rfl ?_
    refine x_callV d_Re_readAct_155 l_Re_115 i_Co_addAct v_Co_addAct rfl h_c hCa rfl rfl (Nat.le_of_ble_eq_true rfl) (Nat.le_of_ble_eq_true rfl) (Nat.le_of_ble_eq_true rfl) (Nat.le_of_ble_eq_true rfl) ?_
    have h2 : X_A p n f nv np z (x_d S, x_a S, x_k S, x_p S, x_ch S, x_rw S, x_ac S, c_add (x_C S) kd ow fg) _ := h.co hp6 (fun k hk => by rw [List.getElem?_set_ne (by omega), List.getElem?_set_ne (by omega), List.getElem?_set_ne (by omega), List.getElem?_set_ne (by omega)]) ⟨q_self (q_keep rfl (q_keep rfl (q_keep rfl hc.1 (by omega)) (by omega)) (by omega)), q_keep rfl (q_keep rfl (q_keep rfl (q_keep rfl hc.2.1 (by omega)) (by omega)) (by omega)) (by omega), q_keep rfl (q_keep rfl (q_keep rfl (q_self hc.2.2.1) (by omega)) (by omega)) (by omega), q_keep rfl (q_keep rfl (q_self (q_keep rfl hc.2.2.2.1 (by omega))) (by omega)) (by omega), q_keep rfl (q_self (q_keep rfl (q_keep rfl hc.2.2.2.2 (by omega)) (by omega))) (by omega)⟩
    have h_ac := h2.2.2.2.1
    refine q_ishl d_Re_readAct_158 ?_
    rw [tb_2 _ (by omega)]
    refine x_callV d_Re_readAct_159 l_Re_119 i_Pa_set v_Pa_set rfl h_ac (c_Pa_set hG h_ac (z := 0) (x := nI (2 ^ c_n (x_C S))) (Or.inl rfl)) rfl rfl (Nat.le_of_ble_eq_true rfl) (Nat.le_of_ble_eq_true rfl) (Nat.le_of_ble_eq_true rfl) (Nat.le_of_ble_eq_true rfl) ?_
    have h3 := h2.ac (t := (0, 2 ^ c_n (x_C S), 2 ^ c_n (x_C S))) hp6
    have h_r := h3.1
    refine q_aload_n d_Re_readAct_162 rfl rfl ?_
    refine q_aload_n d_Re_readAct_163 rfl rfl ?_
    refine q_aload_n d_Re_readAct_164 rfl rfl ?_
    refine q_get d_Re_readAct_165 f_Re_21 h_r rfl ?_
    refine x_callVr (stk := [.ref 40, .ref (7 + 5 * p), .ref 37]) d_Re_readAct_168 l_Re_87 i_Re_addThing v_Re_addThing rfl h3.1 (c_Re_addThing hG (o := none) hp6 (fun i hi => by cases hi) htb h3 (hok.pre hn12 hk ho hfg)) rfl rfl (Nat.le_of_ble_eq_true rfl) (Nat.le_of_ble_eq_true rfl) (Nat.le_of_ble_eq_true rfl) (Nat.le_of_ble_eq_true rfl) (fun hpy hy => ?_)
    refine q_vret d_Re_readAct_171 rfl ?_ (Nat.le_of_ble_eq_true rfl) (Nat.le_of_ble_eq_true rfl) (by decide)
    exact ⟨hpy, rfl, rfl, hy.1, (hF.trans ((((F_A.set (a := 7 + 5 * p + 2) hp6 _ (by omega)).trans (F_A.set (a := 7 + 5 * p + 3) hp6 _ (by omega))).trans ((F_A.set (a := 7 + 5 * p + 4) hp6 _ (by omega)).trans (F_A.set (a := 7 + 5 * p) hp6 _ (by omega)))).trans (F_A.set (a := 40) hp6 _ (by omega)))).trans hy.2⟩
set_option maxRecDepth 10000 in
set_option maxHeartbeats 2000000 in
theorem l_ra_f (hG : q_GG g) {p n : Nat} {f : Nat → Int32} {tb : Nat → Nat} {nv np : Nat} {z : Nat → Nat} {S : x_S} {hp : List va_E} {hpb : List va_E} {z2 z3 z4 z5 z6 z7 : Option Value} (h : X_A p n f nv np z S hp) (hF : F_A p hpb hp) (hk0 : x_k S ≠ 0) (hk1 : x_k S < 2 ^ 31) : q_J g m_Re_readAct true (q_R 2 32 0 0) (q_ho none (fun hp2 => X_A p n f nv np z (S) hp2 ∧ F_A p hpb hp2)) 135 [some (.ref 37), some (.ref (7 + 5 * p)), z2, z3, z4, z5, z6, z7] [] hp 0 0 true := by
  have h_r := h.1
  refine q_aload_n d_Re_readAct_135 rfl rfl ?_
  refine q_get d_Re_readAct_136 f_Re_37 h_r rfl ?_
  refine q_if_ne (tgt := 171) d_Re_readAct_139 (by decide) (fun b139 => ?_) (fun b139 => ?_)
  · skip
    refine q_vret d_Re_readAct_171 rfl ?_ (Nat.le_of_ble_eq_true rfl) (Nat.le_of_ble_eq_true rfl) (by decide)
    exact ⟨hp, rfl, rfl, h, hF⟩
  · skip
    exact absurd ((nI_eq (b := 0) hk1 (by decide)).mp b139) hk0
/-- an act is read -/
def x_ra (n : Nat) (tb : Nat → Nat) (nv : Nat) (z : Nat → Nat) (S : x_S) : x_S :=
  if t_b n tb (x_a S) = 46 then (if 12 < c_n (x_C S) then x_mf 2 S else x_pt n tb 46 0 0 (x_at1 S))
  else if 97 ≤ t_b n tb (x_a S) ∧ t_b n tb (x_a S) < 97 + nv then (if 12 < c_n (x_C S) then x_mf 2 S else
    if b_kd (t_b n tb (x_a S + 1)) then (if b_kf (t_b n tb (x_a S + 1)) then
        (if 48 ≤ t_b n tb (x_a S + 2) ∧ t_b n tb (x_a S + 2) < 48 + z (t_b n tb (x_a S) - 97) then x_pt n tb (t_b n tb (x_a S + 1)) (t_b n tb (x_a S) - 97) (t_b n tb (x_a S + 2) - 48) (x_at1 (x_at1 (x_at1 S))) else x_mf 1 (x_at1 (x_at1 S)))
      else x_pt n tb (t_b n tb (x_a S + 1)) (t_b n tb (x_a S) - 97) 0 (x_at1 (x_at1 S)))
    else x_mf 1 (x_at1 S))
  else x_mf 1 S
theorem t_b_lt {n : Nat} {tb : Nat → Nat} {a : Nat} (h : t_b n tb a ≠ 256) : a < n := by
  unfold t_b at h
  by_cases q : a < n
  · exact q
  · rw [if_neg q] at h; exact absurd rfl h
theorem b_kf_kd {c : Nat} (h : b_kf c = true) : b_kd c = true := by simp [b_kd, h]
theorem b_kd_lt {c : Nat} (h : b_kd c = true) : c < 128 := by
  simp only [b_kd, b_kf, Bool.or_eq_true, beq_iff_eq] at h
  omega
set_option maxRecDepth 10000 in
set_option maxHeartbeats 2000000 in
theorem l_ra_dot (hG : q_GG g) {p n : Nat} {f : Nat → Int32} {tb : Nat → Nat} {nv np : Nat} {z : Nat → Nat} {S : x_S} {hp : List va_E} {hpb : List va_E} {z2 z3 z5 z6 z7 : Option Value} (hp6 : p < 6) (htb : t_ok n f tb) (h : X_A p n f nv np z S hp) (hF : F_A p hpb hp) (hok : x_ok n S) (ha : x_a S < n) (hk0 : x_k S = 0) : q_J g m_Re_readAct true (q_R 2 32 0 0) (q_ho none (fun hp2 => X_A p n f nv np z (if 12 < c_n (x_C S) then x_mf 2 S else x_pt n tb 46 0 0 (x_at1 S)) hp2 ∧ F_A p hpb hp2)) 56 [some (.ref 37), some (.ref (7 + 5 * p)), z2, z3, some (.int 0), z5, z6, z7] [] hp 0 0 false := by
  have h_r := h.1
  have hc := h.2.2.2.2.2.2.1
  have h_c := hc.1
  have hc13 := hok.2.2.2.2.2.1
  refine q_aload_n d_Re_readAct_56 rfl rfl ?_
  refine x_callV d_Re_readAct_57 l_Re_96 i_Co_isFull v_Co_isFull rfl h_c (c_Co_isFull hG h_c) rfl rfl (Nat.le_of_ble_eq_true rfl) (Nat.le_of_ble_eq_true rfl) (Nat.le_of_ble_eq_true rfl) (Nat.le_of_ble_eq_true rfl) ?_
  refine q_if_eq (tgt := 69) d_Re_readAct_60 (by decide) (fun b60 => ?_) (fun b60 => ?_)
  · skip
    have hf : ¬ 12 < c_n (x_C S) := fun q => by
      rw [if_neg (show ¬ nI (c_n (x_C S)) ≤ 12 from nI_ge (a := 12) q (by omega))] at b60
      exact absurd b60 (by decide)
    refine q_aload_n d_Re_readAct_69 rfl rfl ?_
    refine q_dup d_Re_readAct_70 rfl ?_
    refine q_get d_Re_readAct_71 f_Re_40 h_r rfl ?_
    refine q_iconst (v := 1) d_Re_readAct_74 (by decide) ?_
    refine q_iadd d_Re_readAct_75 ?_
    refine x_put d_Re_readAct_76 f_Re_40 h_r (Nat.le_of_ble_eq_true rfl) rfl rfl (fun hp1 e1 h_r => ?_)
    rw [nI_1] at e1 h_r
    have h2 : X_A p n f nv np z (x_at1 S) hp1 := by rw [e1]; exact h.re hp6
    have hF2 : F_A p hpb hp1 := by rw [e1]; exact hF.trans (F_A.set hp6 _ (by omega))
    refine q_wrote ?_
    refine q_iload d_Re_readAct_79 rfl ?_
    refine q_if_eq (tgt := 88) d_Re_readAct_81 (by decide) (fun b81 => ?_) (fun b81 => ?_)
    · skip
      refine q_iconst (v := 0) d_Re_readAct_88 (by decide) ?_
      refine q_istore d_Re_readAct_89 (by decide) rfl ?_
      refine q_iload d_Re_readAct_91 rfl ?_
      refine q_if_eq (tgt := 103) d_Re_readAct_93 (by decide) (fun b93 => ?_) (fun b93 => ?_)
      · skip
        refine q_bipush (v := 46) d_Re_readAct_103 (by decide) ?_
        refine q_istore d_Re_readAct_105 (by decide) rfl ?_
        refine q_iload d_Re_readAct_107 rfl ?_
        refine x_callS (as := [.int (b_v 46)]) d_Re_readAct_109 l_Re_104 s_Re_takesFigure (c_Re_takesFigure hG (c := 46) (by decide)) rfl rfl (Nat.le_of_ble_eq_true rfl) (Nat.le_of_ble_eq_true rfl) (Nat.le_of_ble_eq_true rfl) (Nat.le_of_ble_eq_true rfl) ?_
        refine q_if_eq (tgt := 132) d_Re_readAct_112 (by decide) (fun b112 => ?_) (fun b112 => ?_)
        · skip
          refine q_iconst (v := 0) d_Re_readAct_132 (by decide) ?_
          refine q_istore d_Re_readAct_133 (by decide) rfl ?_
          rw [if_neg hf]
          exact l_ra_ok hG (kd := 46) (ow := 0) (fg := 0) hp6 htb h2 hF2 (hok.at1 ha) hk0 (show c_n (x_C S) ≤ 12 by omega) (by decide) (by decide) (by decide)
        · skip
          exact absurd rfl b112
      · skip
        exact absurd rfl b93
    · skip
      exact absurd rfl b81
  · skip
    have hf : 12 < c_n (x_C S) := Nat.lt_of_not_le fun q => by
      rw [if_pos (show nI (c_n (x_C S)) ≤ 12 from nI_le (b := 12) q (by decide))] at b60
      exact b60 rfl
    refine q_aload_n d_Re_readAct_63 rfl rfl ?_
    refine q_iconst (v := 2) d_Re_readAct_64 (by decide) ?_
    refine x_callVr d_Re_readAct_65 l_Re_63 i_Re_meetFault v_Re_meetFault rfl h.1 (c_Re_meetFault hG hp6 h) rfl rfl (Nat.le_of_ble_eq_true rfl) (Nat.le_of_ble_eq_true rfl) (Nat.le_of_ble_eq_true rfl) (Nat.le_of_ble_eq_true rfl) (fun hpz hz => ?_)
    refine q_vret d_Re_readAct_68 rfl ?_ (Nat.le_of_ble_eq_true rfl) (Nat.le_of_ble_eq_true rfl) (by decide)
    exact ⟨hpz, rfl, rfl, by rw [if_pos hf]; exact hz.1, hF.trans hz.2⟩
set_option maxRecDepth 10000 in
set_option maxHeartbeats 2000000 in
theorem l_ra_var (hG : q_GG g) {p n : Nat} {f : Nat → Int32} {tb : Nat → Nat} {nv np : Nat} {z : Nat → Nat} {S : x_S} {hp : List va_E} {hpb : List va_E} {v : Nat} {z2 z5 z6 z7 : Option Value} (hp6 : p < 6) (htb : t_ok n f tb) (h : X_A p n f nv np z S hp) (hF : F_A p hpb hp) (hok : x_ok n S) (ha : x_a S < n) (hk0 : x_k S = 0) (hv5 : v < 5) (hz5 : z v ≤ 5) : q_J g m_Re_readAct true (q_R 2 32 0 0) (q_ho none (fun hp2 => X_A p n f nv np z (if 12 < c_n (x_C S) then x_mf 2 S else if b_kd (t_b n tb (x_a S + 1)) then (if b_kf (t_b n tb (x_a S + 1)) then (if 48 ≤ t_b n tb (x_a S + 2) ∧ t_b n tb (x_a S + 2) < 48 + z v then x_pt n tb (t_b n tb (x_a S + 1)) v (t_b n tb (x_a S + 2) - 48) (x_at1 (x_at1 (x_at1 S))) else x_mf 1 (x_at1 (x_at1 S))) else x_pt n tb (t_b n tb (x_a S + 1)) v 0 (x_at1 (x_at1 S))) else x_mf 1 (x_at1 S)) hp2 ∧ F_A p hpb hp2)) 56 [some (.ref 37), some (.ref (7 + 5 * p)), z2, some (.int (nI v)), some (.int 1), z5, z6, z7] [] hp 0 0 false := by
  have h_r := h.1
  have hc := h.2.2.2.2.2.2.1
  have h_c := hc.1
  have hc13 := hok.2.2.2.2.2.1
  have hin : vp_in (nI v) 5 := vp_in_nI hv5 (by decide)
  have hcv : (nI v).toNatClampNeg = v := nI_clamp (by omega)
  refine q_aload_n d_Re_readAct_56 rfl rfl ?_
  refine x_callV d_Re_readAct_57 l_Re_96 i_Co_isFull v_Co_isFull rfl h_c (c_Co_isFull hG h_c) rfl rfl (Nat.le_of_ble_eq_true rfl) (Nat.le_of_ble_eq_true rfl) (Nat.le_of_ble_eq_true rfl) (Nat.le_of_ble_eq_true rfl) ?_
  refine q_if_eq (tgt := 69) d_Re_readAct_60 (by decide) (fun b60 => ?_) (fun b60 => ?_)
  · skip
    have hf : ¬ 12 < c_n (x_C S) := fun q => by
      rw [if_neg (show ¬ nI (c_n (x_C S)) ≤ 12 from nI_ge (a := 12) q (by omega))] at b60
      exact absurd b60 (by decide)
    refine q_aload_n d_Re_readAct_69 rfl rfl ?_
    refine q_dup d_Re_readAct_70 rfl ?_
    refine q_get d_Re_readAct_71 f_Re_40 h_r rfl ?_
    refine q_iconst (v := 1) d_Re_readAct_74 (by decide) ?_
    refine q_iadd d_Re_readAct_75 ?_
    refine x_put d_Re_readAct_76 f_Re_40 h_r (Nat.le_of_ble_eq_true rfl) rfl rfl (fun hp1 e1 h_r => ?_)
    rw [nI_1] at e1 h_r
    have h2 : X_A p n f nv np z (x_at1 S) hp1 := by rw [e1]; exact h.re hp6
    have hF2 : F_A p hpb hp1 := by rw [e1]; exact hF.trans (F_A.set hp6 _ (by omega))
    have hok2 := hok.at1 ha
    refine q_wrote ?_
    refine q_iload d_Re_readAct_79 rfl ?_
    refine q_if_eq (tgt := 88) d_Re_readAct_81 (by decide) (fun b81 => ?_) (fun b81 => ?_)
    · skip
      exact absurd b81 (by decide)
    · skip
      refine q_iload_n d_Re_readAct_84 rfl ?_
      refine q_goto (tgt := 89) d_Re_readAct_85 (by decide) ?_
      refine q_istore d_Re_readAct_89 (by decide) rfl ?_
      refine q_iload d_Re_readAct_91 rfl ?_
      refine q_if_eq (tgt := 103) d_Re_readAct_93 (by decide) (fun b93 => ?_) (fun b93 => ?_)
      · skip
        exact absurd b93 (by decide)
      · skip
        refine q_aload_n d_Re_readAct_96 rfl rfl ?_
        refine x_callVr d_Re_readAct_97 l_Re_100 i_Re_readKind v_Re_readKind rfl h_r (c_Re_readKind hG hp6 htb h2 hok2) rfl rfl (Nat.le_of_ble_eq_true rfl) (Nat.le_of_ble_eq_true rfl) (Nat.le_of_ble_eq_true rfl) (Nat.le_of_ble_eq_true rfl) (fun hp3 h3 => ?_)
        have h_r := h3.1.1
        have h_w := h3.1.2.2.2.2.2.2.2.2.2.1
        have h_z := h3.1.2.2.2.2.2.2.2.2.2.2
        have hF3 := hF2.trans h3.2
        have hbl := t_b_le htb (x_a S + 1)
        have h3 := h3.1
        generalize hcc : t_b n tb (x_a S + 1) = cc at *
        have hcc2 : t_b n tb (x_a (x_at1 S)) = cc := hcc
        rw [hcc2] at h3 ⊢
        by_cases hkd : b_kd cc = true
        · rw [if_pos hkd] at h3
          rw [if_pos hkd, if_pos hkd]
          have ha2 : x_a S + 1 < n := t_b_lt (tb := tb) (by rw [hcc]; have := b_kd_lt hkd; omega)
          have hok3 := hok2.at1 ha2
          refine q_goto (tgt := 105) d_Re_readAct_100 (by decide) ?_
          refine q_istore d_Re_readAct_105 (by decide) rfl ?_
          refine q_iload d_Re_readAct_107 rfl ?_
          refine x_callS (as := [.int (b_v cc)]) (st := []) d_Re_readAct_109 l_Re_104 s_Re_takesFigure (c_Re_takesFigure hG hbl) rfl rfl (Nat.le_of_ble_eq_true rfl) (Nat.le_of_ble_eq_true rfl) (Nat.le_of_ble_eq_true rfl) (Nat.le_of_ble_eq_true rfl) ?_
          refine q_if_eq (tgt := 132) d_Re_readAct_112 (by decide) (fun b112 => ?_) (fun b112 => ?_)
          · skip
            have hkf : ¬ b_kf cc = true := fun q => by rw [if_pos q] at b112; exact absurd b112 (by decide)
            refine q_iconst (v := 0) d_Re_readAct_132 (by decide) ?_
            refine q_istore d_Re_readAct_133 (by decide) rfl ?_
            rw [if_neg hf, if_neg hkf, show b_v cc = nI cc from by unfold b_v; rw [if_neg (by have := b_kd_lt hkd; omega)]]
            exact l_ra_ok hG (kd := cc) (ow := v) (fg := 0) hp6 htb h3 hF3 hok3 hk0 (show c_n (x_C S) ≤ 12 by omega) (b_kd_lt hkd) hv5 (by decide)
          · skip
            have hkf : b_kf cc = true := by
              by_cases q : b_kf cc = true
              · exact q
              · rw [if_neg q] at b112; exact absurd rfl b112
            refine q_aload_n d_Re_readAct_115 rfl rfl ?_
            refine q_aload_n d_Re_readAct_116 rfl rfl ?_
            refine q_get d_Re_readAct_117 f_Re_33 h_r rfl ?_
            refine q_get d_Re_readAct_120 f_Re_108 h_w rfl ?_
            refine q_iload d_Re_readAct_123 rfl ?_
            refine q_iald d_Re_readAct_125 h_z rfl hin ?_
            rw [hcv]
            refine x_callVr d_Re_readAct_126 l_Re_112 i_Re_readFigure v_Re_readFigure rfl h_r (c_Re_readFigure hG (y := z v) hz5 hp6 htb h3 hok3) rfl rfl (Nat.le_of_ble_eq_true rfl) (Nat.le_of_ble_eq_true rfl) (Nat.le_of_ble_eq_true rfl) (Nat.le_of_ble_eq_true rfl) (fun hp4 h4 => ?_)
            have hF4 := hF3.trans h4.2
            have h4 := h4.1
            generalize hdd : t_b n tb (x_a S + 2) = dd at *
            have hdd2 : t_b n tb (x_a (x_at1 (x_at1 S))) = dd := hdd
            rw [hdd2] at h4 ⊢
            by_cases hfg : 48 ≤ dd ∧ dd < 48 + z v
            · rw [if_pos hfg] at h4
              rw [if_pos hfg, if_pos hfg]
              refine q_goto (tgt := 133) d_Re_readAct_129 (by decide) ?_
              refine q_istore d_Re_readAct_133 (by decide) rfl ?_
              rw [if_neg hf, if_pos hkf, show b_v cc = nI cc from by unfold b_v; rw [if_neg (by have := b_kd_lt hkd; omega)]]
              have ha3 : x_a S + 2 < n := t_b_lt (tb := tb) (by rw [hdd]; omega)
              exact l_ra_ok hG (kd := cc) (ow := v) (fg := dd - 48) hp6 htb h4 hF4 (hok3.at1 ha3) hk0 (show c_n (x_C S) ≤ 12 by omega) (b_kd_lt hkd) hv5 (by omega)
            · rw [if_neg hfg] at h4
              rw [if_neg hfg, if_neg hfg]
              refine q_goto (tgt := 133) d_Re_readAct_129 (by decide) ?_
              refine q_istore d_Re_readAct_133 (by decide) rfl ?_
              rw [if_neg hf, if_pos hkf]
              exact l_ra_f (tb := tb) hG h4 hF4 (show 1 ≠ 0 by decide) (show 1 < 2 ^ 31 by decide)
        · rw [if_neg hkd] at h3
          rw [if_neg hkd, if_neg hkd]
          refine q_goto (tgt := 105) d_Re_readAct_100 (by decide) ?_
          refine q_istore d_Re_readAct_105 (by decide) rfl ?_
          refine q_iload d_Re_readAct_107 rfl ?_
          refine x_callS (as := [.int (b_v 256)]) (st := []) d_Re_readAct_109 l_Re_104 s_Re_takesFigure (c_Re_takesFigure hG (c := 256) (by decide)) rfl rfl (Nat.le_of_ble_eq_true rfl) (Nat.le_of_ble_eq_true rfl) (Nat.le_of_ble_eq_true rfl) (Nat.le_of_ble_eq_true rfl) ?_
          refine q_if_eq (tgt := 132) d_Re_readAct_112 (by decide) (fun b112 => ?_) (fun b112 => ?_)
          · skip
            refine q_iconst (v := 0) d_Re_readAct_132 (by decide) ?_
            refine q_istore d_Re_readAct_133 (by decide) rfl ?_
            rw [if_neg hf]
            exact l_ra_f (tb := tb) hG h3 hF3 (show 1 ≠ 0 by decide) (show 1 < 2 ^ 31 by decide)
          · skip
            exact absurd rfl b112
  · skip
    have hf : 12 < c_n (x_C S) := Nat.lt_of_not_le fun q => by
      rw [if_pos (show nI (c_n (x_C S)) ≤ 12 from nI_le (b := 12) q (by decide))] at b60
      exact b60 rfl
    refine q_aload_n d_Re_readAct_63 rfl rfl ?_
    refine q_iconst (v := 2) d_Re_readAct_64 (by decide) ?_
    refine x_callVr d_Re_readAct_65 l_Re_63 i_Re_meetFault v_Re_meetFault rfl h.1 (c_Re_meetFault hG hp6 h) rfl rfl (Nat.le_of_ble_eq_true rfl) (Nat.le_of_ble_eq_true rfl) (Nat.le_of_ble_eq_true rfl) (Nat.le_of_ble_eq_true rfl) (fun hpz hz => ?_)
    refine q_vret d_Re_readAct_68 rfl ?_ (Nat.le_of_ble_eq_true rfl) (Nat.le_of_ble_eq_true rfl) (by decide)
    exact ⟨hpz, rfl, rfl, by rw [if_pos hf]; exact hz.1, hF.trans hz.2⟩
set_option maxRecDepth 10000 in
set_option maxHeartbeats 2000000 in
theorem c_Re_readAct (hG : q_GG g) {p n : Nat} {f : Nat → Int32} {tb : Nat → Nat} {nv np : Nat} {z : Nat → Nat} {S : x_S} {hp : List va_E} (hp6 : p < 6) (hnv5 : nv ≤ 5) (hz5 : ∀ v, v < nv → z v ≤ 5) (htb : t_ok n f tb) (h : X_A p n f nv np z S hp) (hok : x_ok n S) (hk0 : x_k S = 0) : q_C g m_Re_readAct true (q_R 2 32 0 0) [.ref 37, .ref (7 + 5 * p)] hp (q_ho none (fun hp2 => X_A p n f nv np z (x_ra n tb nv z S) hp2 ∧ F_A p hp hp2)) := by
  refine q_C.of hG (by decide) (Nat.le_of_ble_eq_true rfl) ?_
  have h_r := h.1
  have hc := h.2.2.2.2.2.2.1
  have h_c := hc.1
  have h_ta := h.2.2.2.2.2.2.2.1
  have h_by := h.2.2.2.2.2.2.2.2.1
  have h_w := h.2.2.2.2.2.2.2.2.2.1
  have hn100 := htb.1
  have hal := hok.2.1
  have hcl := t_b_le htb (x_a S)
  have hF := F_A.refl p hp
  refine q_aload_n d_Re_readAct_0 rfl rfl ?_
  refine q_get d_Re_readAct_1 f_Re_29 h_r rfl ?_
  refine q_aload_n d_Re_readAct_4 rfl rfl ?_
  refine q_get d_Re_readAct_5 f_Re_40 h_r rfl ?_
  refine x_callV d_Re_readAct_8 l_Re_74 i_Ta_byteAt v_Ta_byteAt rfl h_ta (c_Ta_byteAt hG h_ta h_by htb.1 (i := x_a S) (by omega)) rfl rfl (Nat.le_of_ble_eq_true rfl) (Nat.le_of_ble_eq_true rfl) (Nat.le_of_ble_eq_true rfl) (Nat.le_of_ble_eq_true rfl) ?_
  rw [t_b_v htb]
  unfold x_ra
  generalize hcc : t_b n tb (x_a S) = cc at *
  have e1 : b_v cc - 97 < 0 ↔ cc < 97 ∨ cc = 256 := b_lt0 (k := 97) hcl (by decide) (by decide)
  have e46 : b_v cc = 46 ↔ cc = 46 := b_v_eq hcl (by decide)
  refine q_istore_n d_Re_readAct_11 rfl (by decide) rfl ?_
  refine q_iload_n d_Re_readAct_12 rfl ?_
  refine q_bipush (v := 97) d_Re_readAct_13 (by decide) ?_
  refine q_isub d_Re_readAct_15 ?_
  refine q_istore_n d_Re_readAct_16 rfl (by decide) rfl ?_
  refine q_iload_n d_Re_readAct_17 rfl ?_
  refine q_if_lt (tgt := 36) d_Re_readAct_18 (by decide) (fun b18 => ?_) (fun b18 => ?_)
  · skip
    rw [e1] at b18
    have hnv : ¬ (97 ≤ cc ∧ cc < 97 + nv) := by omega
    refine q_iconst (v := 0) d_Re_readAct_36 (by decide) ?_
    refine q_istore d_Re_readAct_37 (by decide) rfl ?_
    refine q_iload_n d_Re_readAct_39 rfl ?_
    refine q_bipush (v := 46) d_Re_readAct_40 (by decide) ?_
    refine q_icmp_eq (tgt := 56) d_Re_readAct_42 (by decide) (fun b42 => ?_) (fun b42 => ?_)
    · skip
      rw [e46] at b42
      have ha : x_a S < n := t_b_lt (tb := tb) (by omega)
      rw [if_pos b42]
      exact l_ra_dot hG hp6 htb h hF hok ha hk0
    · skip
      rw [e46] at b42
      rw [if_neg b42, if_neg hnv]
      refine q_iload d_Re_readAct_45 rfl ?_
      refine q_if_ne (tgt := 56) d_Re_readAct_47 (by decide) (fun b47 => ?_) (fun b47 => ?_)
      · skip
        exact absurd rfl b47
      · skip
        refine q_aload_n d_Re_readAct_50 rfl rfl ?_
        refine q_iconst (v := 1) d_Re_readAct_51 (by decide) ?_
        refine x_callVr d_Re_readAct_52 l_Re_63 i_Re_meetFault v_Re_meetFault rfl h.1 (c_Re_meetFault hG hp6 h) rfl rfl (Nat.le_of_ble_eq_true rfl) (Nat.le_of_ble_eq_true rfl) (Nat.le_of_ble_eq_true rfl) (Nat.le_of_ble_eq_true rfl) (fun hpz hz => ?_)
        refine q_vret d_Re_readAct_55 rfl ?_ (Nat.le_of_ble_eq_true rfl) (Nat.le_of_ble_eq_true rfl) (by decide)
        exact ⟨hpz, rfl, rfl, hz⟩
  · skip
    rw [e1] at b18
    have e2 : b_v cc - 97 = nI (cc - 97) := b_sub (k := 97) (by omega) (by omega)
    rw [e2]
    refine q_iload_n d_Re_readAct_21 rfl ?_
    refine q_aload_n d_Re_readAct_22 rfl rfl ?_
    refine q_get d_Re_readAct_23 f_Re_33 h_r rfl ?_
    refine q_get d_Re_readAct_26 f_Re_91 h_w rfl ?_
    refine q_icmp_ge (tgt := 36) d_Re_readAct_29 (by decide) (fun b29 => ?_) (fun b29 => ?_)
    · skip
      rw [nI_leI (by omega) (by omega)] at b29
      have hnv : ¬ (97 ≤ cc ∧ cc < 97 + nv) := by omega
      refine q_iconst (v := 0) d_Re_readAct_36 (by decide) ?_
      refine q_istore d_Re_readAct_37 (by decide) rfl ?_
      refine q_iload_n d_Re_readAct_39 rfl ?_
      refine q_bipush (v := 46) d_Re_readAct_40 (by decide) ?_
      refine q_icmp_eq (tgt := 56) d_Re_readAct_42 (by decide) (fun b42 => ?_) (fun b42 => ?_)
      · skip
        rw [e46] at b42
        have ha : x_a S < n := t_b_lt (tb := tb) (by omega)
        rw [if_pos b42]
        exact l_ra_dot hG hp6 htb h hF hok ha hk0
      · skip
        rw [e46] at b42
        rw [if_neg b42, if_neg hnv]
        refine q_iload d_Re_readAct_45 rfl ?_
        refine q_if_ne (tgt := 56) d_Re_readAct_47 (by decide) (fun b47 => ?_) (fun b47 => ?_)
        · skip
          exact absurd rfl b47
        · skip
          refine q_aload_n d_Re_readAct_50 rfl rfl ?_
          refine q_iconst (v := 1) d_Re_readAct_51 (by decide) ?_
          refine x_callVr d_Re_readAct_52 l_Re_63 i_Re_meetFault v_Re_meetFault rfl h.1 (c_Re_meetFault hG hp6 h) rfl rfl (Nat.le_of_ble_eq_true rfl) (Nat.le_of_ble_eq_true rfl) (Nat.le_of_ble_eq_true rfl) (Nat.le_of_ble_eq_true rfl) (fun hpz hz => ?_)
          refine q_vret d_Re_readAct_55 rfl ?_ (Nat.le_of_ble_eq_true rfl) (Nat.le_of_ble_eq_true rfl) (by decide)
          exact ⟨hpz, rfl, rfl, hz⟩
    · skip
      rw [nI_leI (by omega) (by omega)] at b29
      have hnv : 97 ≤ cc ∧ cc < 97 + nv := by omega
      refine q_iconst (v := 1) d_Re_readAct_32 (by decide) ?_
      refine q_goto (tgt := 37) d_Re_readAct_33 (by decide) ?_
      refine q_istore d_Re_readAct_37 (by decide) rfl ?_
      refine q_iload_n d_Re_readAct_39 rfl ?_
      refine q_bipush (v := 46) d_Re_readAct_40 (by decide) ?_
      refine q_icmp_eq (tgt := 56) d_Re_readAct_42 (by decide) (fun b42 => ?_) (fun b42 => ?_)
      · skip
        rw [e46] at b42
        omega
      · skip
        rw [e46] at b42
        have ha : x_a S < n := t_b_lt (tb := tb) (by omega)
        rw [if_neg b42, if_pos hnv]
        refine q_iload d_Re_readAct_45 rfl ?_
        refine q_if_ne (tgt := 56) d_Re_readAct_47 (by decide) (fun b47 => ?_) (fun b47 => ?_)
        · skip
          exact l_ra_var hG hp6 htb h hF hok ha hk0 (by omega) (hz5 _ (by omega))
        · skip
          exact absurd b47 (by decide)
end C13
