/-! the reference: readAct and step -/
section M4
variable {g : q_G}
theorem x_ra_46 {n : Nat} {tb : Nat → Nat} {nv : Nat} {z : Nat → Nat} {S : x_S} (h : t_b n tb (x_a S) = 46) (hc : c_n (x_C S) ≤ 12) : x_ra n tb nv z S = x_pt n tb 46 0 0 (x_at1 S) := by
  unfold x_ra
  rw [if_pos h, if_neg (by omega)]
theorem x_ra_no {n : Nat} {tb : Nat → Nat} {nv : Nat} {z : Nat → Nat} {S : x_S} (h : ¬ t_b n tb (x_a S) = 46) (h2 : ¬ (97 ≤ t_b n tb (x_a S) ∧ t_b n tb (x_a S) < 97 + nv)) : x_ra n tb nv z S = x_mf 1 S := by
  unfold x_ra
  rw [if_neg h, if_neg h2]
theorem x_ra_v {n : Nat} {tb : Nat → Nat} {nv : Nat} {z : Nat → Nat} {S : x_S} (h : ¬ t_b n tb (x_a S) = 46) (h2 : 97 ≤ t_b n tb (x_a S) ∧ t_b n tb (x_a S) < 97 + nv) (hc : c_n (x_C S) ≤ 12) : x_ra n tb nv z S = if b_kd (t_b n tb (x_a S + 1)) then (if b_kf (t_b n tb (x_a S + 1)) then (if 48 ≤ t_b n tb (x_a S + 2) ∧ t_b n tb (x_a S + 2) < 48 + z (t_b n tb (x_a S) - 97) then x_pt n tb (t_b n tb (x_a S + 1)) (t_b n tb (x_a S) - 97) (t_b n tb (x_a S + 2) - 48) (x_at1 (x_at1 (x_at1 S))) else x_mf 1 (x_at1 (x_at1 S))) else x_pt n tb (t_b n tb (x_a S + 1)) (t_b n tb (x_a S) - 97) 0 (x_at1 (x_at1 S))) else x_mf 1 (x_at1 S) := by
  conv => lhs; unfold x_ra
  rw [if_neg h, if_pos h2, if_neg (by omega)]
set_option maxRecDepth 10000 in
set_option maxHeartbeats 2000000 in
theorem l_ra_dotM (hG : q_GG g) {b hp : List va_E} {m0 m : Nat → Int32} {A0 A : Nat → Nat → Int32} {n : Nat} {tb : Nat → Nat} {nv : Nat} {z : Nat → Nat} {S : x_S} {z2 z3 z4 : Option Value} (hT : m_T n tb) (hA : M_A b m A hp) (hR : R_M n tb nv z S m A) (hok : x_ok n S) (hk0 : x_k S = 0) (hz0 : c_n (x_C S) ≤ 12 → c_s (x_C S) (c_n (x_C S)) = 0) (hnv : nv ≤ 5) (hz5 : ∀ v, v < nv → z v ≤ 5) (km : mo_K [3, 4, 15, 16, 28, 29, 30] m0 m) (kA : mo_K [9, 10, 11, 12, 16, 17, 18] A0 A) (hc : c_n (x_C S) ≤ 12) (hcc : t_b n tb (x_a S) = 46) : q_J g m_Mo_readAct true (q_R 3 90 0 0) (q_mo none b (fun m' A' => R_M n tb nv z (x_ra n tb nv z S) m' A' ∧ mo_K [3, 4, 15, 16, 28, 29, 30] m0 m' ∧ mo_K [9, 10, 11, 12, 16, 17, 18] A0 A')) 42 [some (.ref 84), some (.int (b_v 46)), z2, z3, z4] [] hp 0 0 true := by
  have hn1 := hT.1
  have ha1 : x_a S ≤ n := hok.2.1
  have v15 := hR.2.2.2.1
  have v5 := hR.1.2.2.1
  have v3 : m 3 = 0 := by rw [hR.2.1, hk0]; rfl
  have ha : x_a S < n := t_b_lt (tb := tb) (by omega)
  rw [x_ra_46 hcc hc]
  refine q_aload_n d_Mo_readAct_42 rfl rfl ?_
  refine q_dup d_Mo_readAct_43 rfl ?_
  refine q_get d_Mo_readAct_44 f_Mo_123 hA.1 rfl ?_
  rw [v15]
  refine q_iconst (v := 1) d_Mo_readAct_47 (by decide) ?_
  refine q_iadd d_Mo_readAct_48 ?_
  refine x_put d_Mo_readAct_49 f_Mo_123 hA.1 (Nat.le_of_ble_eq_true rfl) rfl rfl (fun hp1 e1 _ => ?_)
  obtain ⟨m, hA, v15, nn⟩ := hA.put (k := 15) (by decide) e1
  rw [nI_1] at v15
  have hR := hR.at1 v15 nn
  have v3 := (nn 3 (by decide)).trans v3
  have v5 := (nn 5 (by decide)).trans v5
  have km := km.put nn (by decide)
  refine q_iload_n d_Mo_readAct_52 rfl ?_
  refine q_bipush (v := 46) d_Mo_readAct_53 (by decide) ?_
  refine q_icmp_ne (tgt := 66) d_Mo_readAct_55 (by decide) (fun b55 => ?_) (fun b55 => ?_)
  · skip
    exact absurd ((b_v_eq (k := 46) (by decide) (by decide)).mpr rfl) b55
  · skip
    refine q_aload_n d_Mo_readAct_58 rfl rfl ?_
    refine q_iconst (v := 0) d_Mo_readAct_59 (by decide) ?_
    refine q_iconst (v := 0) d_Mo_readAct_60 (by decide) ?_
    refine q_iconst (v := 0) d_Mo_readAct_61 (by decide) ?_
    refine x_callVm d_Mo_readAct_62 l_Mo_152 i_Mo_act v_Mo_act rfl hA.1 (c_Mo_act hG hT (S := x_at1 S) (kd := 46) (ow := 0) (fg := 0) hA hR (hok.at1 ha) hc (hz0 hc) (by decide) (by decide) (by decide)) rfl rfl (Nat.le_of_ble_eq_true rfl) (Nat.le_of_ble_eq_true rfl) (Nat.le_of_ble_eq_true rfl) (Nat.le_of_ble_eq_true rfl) (fun m A hp2 hA hz => ?_)
    obtain ⟨hR, nm, nA⟩ := hz
    have v3 := (nm 3 (by decide)).trans v3
    have v5 := (nm 5 (by decide)).trans v5
    have km := km.sub nm (by decide)
    have kA := kA.sub nA (by decide)
    refine q_vret d_Mo_readAct_65 rfl ?_ (Nat.le_of_ble_eq_true rfl) (Nat.le_of_ble_eq_true rfl) (by decide)
    exact ⟨(m, A, _), rfl, rfl, hA, hR, km, kA⟩
set_option maxRecDepth 10000 in
set_option maxHeartbeats 2000000 in
theorem l_ra_letM (hG : q_GG g) {b hp : List va_E} {m0 m : Nat → Int32} {A0 A : Nat → Nat → Int32} {n : Nat} {tb : Nat → Nat} {nv : Nat} {z : Nat → Nat} {S : x_S} {cc : Nat} {z2 z3 z4 : Option Value} (hT : m_T n tb) (hA : M_A b m A hp) (hR : R_M n tb nv z S m A) (hok : x_ok n S) (hk0 : x_k S = 0) (hz0 : c_n (x_C S) ≤ 12 → c_s (x_C S) (c_n (x_C S)) = 0) (hnv : nv ≤ 5) (hz5 : ∀ v, v < nv → z v ≤ 5) (km : mo_K [3, 4, 15, 16, 28, 29, 30] m0 m) (kA : mo_K [9, 10, 11, 12, 16, 17, 18] A0 A) (hc : c_n (x_C S) ≤ 12) (hcc : t_b n tb (x_a S) = cc) (hcl : 97 ≤ cc ∧ cc < 97 + nv) : q_J g m_Mo_readAct true (q_R 3 90 0 0) (q_mo none b (fun m' A' => R_M n tb nv z (x_ra n tb nv z S) m' A' ∧ mo_K [3, 4, 15, 16, 28, 29, 30] m0 m' ∧ mo_K [9, 10, 11, 12, 16, 17, 18] A0 A')) 42 [some (.ref 84), some (.int (b_v cc)), z2, z3, z4] [] hp 0 0 true := by
  have hn1 := hT.1
  have ha1 : x_a S ≤ n := hok.2.1
  have v15 := hR.2.2.2.1
  have v5 := hR.1.2.2.1
  have v3 : m 3 = 0 := by rw [hR.2.1, hk0]; rfl
  have ha : x_a S < n := t_b_lt (tb := tb) (by omega)
  have hc6 : cc ≤ 256 := hcc ▸ m_tle hT _
  rw [x_ra_v (by omega) (by omega) hc]
  obtain ⟨hh, hh0⟩ : ∃ hh, t_b n tb (x_a S + 1) = hh := ⟨_, rfl⟩
  have hh6 : hh ≤ 256 := hh0 ▸ m_tle hT _
  have hk5 := k_m_le hh
  rw [hh0, hcc]
  refine q_aload_n d_Mo_readAct_42 rfl rfl ?_
  refine q_dup d_Mo_readAct_43 rfl ?_
  refine q_get d_Mo_readAct_44 f_Mo_123 hA.1 rfl ?_
  rw [v15]
  refine q_iconst (v := 1) d_Mo_readAct_47 (by decide) ?_
  refine q_iadd d_Mo_readAct_48 ?_
  refine x_put d_Mo_readAct_49 f_Mo_123 hA.1 (Nat.le_of_ble_eq_true rfl) rfl rfl (fun hp1 e1 _ => ?_)
  obtain ⟨m, hA, v15, nn⟩ := hA.put (k := 15) (by decide) e1
  rw [nI_1] at v15
  have hR := hR.at1 v15 nn
  have v3 := (nn 3 (by decide)).trans v3
  have v5 := (nn 5 (by decide)).trans v5
  have km := km.put nn (by decide)
  refine q_iload_n d_Mo_readAct_52 rfl ?_
  refine q_bipush (v := 46) d_Mo_readAct_53 (by decide) ?_
  refine q_icmp_ne (tgt := 66) d_Mo_readAct_55 (by decide) (fun b55 => ?_) (fun b55 => ?_)
  · skip
    refine q_aload_n d_Mo_readAct_66 rfl rfl ?_
    refine q_aload_n d_Mo_readAct_67 rfl rfl ?_
    refine q_get d_Mo_readAct_68 f_Mo_123 hA.1 rfl ?_
    rw [v15]
    refine x_callV d_Mo_readAct_71 l_Mo_126 i_Mo_byteAt v_Mo_byteAt rfl hA.1 (c_Mo_byteAt hG hA hR.1.1 hT.1 hR.1.2.1 hT.2 (show x_a S + 1 < 2 ^ 31 by omega)) rfl rfl (Nat.le_of_ble_eq_true rfl) (Nat.le_of_ble_eq_true rfl) (Nat.le_of_ble_eq_true rfl) (Nat.le_of_ble_eq_true rfl) ?_
    rw [hh0]
    refine q_istore_n d_Mo_readAct_74 rfl (by decide) rfl ?_
    refine q_join (pc' := 126) (st' := []) (nI (k_m hh)) (fun x126 hx126 => ?_) (fun J126 => ?_)
    · subst hx126
      refine q_istore_n d_Mo_readAct_126 rfl (by decide) rfl ?_
      refine q_iload_n d_Mo_readAct_127 rfl ?_
      refine q_if_ne (tgt := 141) d_Mo_readAct_128 (by decide) (fun b128 => ?_) (fun b128 => ?_)
      · skip
        have q : b_kd hh = true := k_m_kd.mpr (fun q => b128 (by rw [q]; rfl))
        rw [if_pos q]
        have ha2 : x_a S + 1 < n := t_b_lt (tb := tb) (by have := b_kd_lt q; omega)
        exact l_ra_kind hG hT hA hR ((hok.at1 ha).at1 ha2) hc (hz0 hc) hk0 q hcl hnv hz5 km kA
      · skip
        have q : ¬ b_kd hh = true := fun q => k_m_kd.mp q (m_n0 (by omega) b128)
        rw [if_neg q]
        refine q_aload_n d_Mo_readAct_131 rfl rfl ?_
        refine q_iconst (v := 1) d_Mo_readAct_132 (by decide) ?_
        refine q_aload_n d_Mo_readAct_133 rfl rfl ?_
        refine q_get d_Mo_readAct_134 f_Mo_123 hA.1 rfl ?_
        rw [v15]
        refine x_callVm d_Mo_readAct_137 l_Mo_149 i_Mo_fail v_Mo_fail rfl hA.1 (c_Mo_fail hG hA v3) rfl rfl (Nat.le_of_ble_eq_true rfl) (Nat.le_of_ble_eq_true rfl) (Nat.le_of_ble_eq_true rfl) (Nat.le_of_ble_eq_true rfl) (fun m A hp2 hA hz => ?_)
        obtain ⟨w3, w4, nm, nA⟩ := hz
        have v5 := (nm 5 (by decide)).trans v5
        have v15 := (nm 15 (by decide)).trans v15
        have km := km.sub nm (by decide)
        have kA := kA.sub nA (by decide)
        refine q_vret d_Mo_readAct_140 rfl ?_ (Nat.le_of_ble_eq_true rfl) (Nat.le_of_ble_eq_true rfl) (by decide)
        exact ⟨(m, A, _), rfl, rfl, hA, hR.mf w3 w4 nm nA, km, kA⟩
    · skip
      refine q_iload_n d_Mo_readAct_75 rfl ?_
      refine q_bipush (v := 43) d_Mo_readAct_76 (by decide) ?_
      refine q_icmp_ne (tgt := 85) d_Mo_readAct_78 (by decide) (fun b78 => ?_) (fun b78 => ?_)
      · skip
        have k1 : ¬ hh = 43 := fun q => b78 ((b_v_eq (k := 43) hh6 (by decide)).mpr q)
        refine q_iload_n d_Mo_readAct_85 rfl ?_
        refine q_bipush (v := 45) d_Mo_readAct_86 (by decide) ?_
        refine q_icmp_ne (tgt := 95) d_Mo_readAct_88 (by decide) (fun b88 => ?_) (fun b88 => ?_)
        · skip
          have k2 : ¬ hh = 45 := fun q => b88 ((b_v_eq (k := 45) hh6 (by decide)).mpr q)
          refine q_iload_n d_Mo_readAct_95 rfl ?_
          refine q_bipush (v := 61) d_Mo_readAct_96 (by decide) ?_
          refine q_icmp_ne (tgt := 105) d_Mo_readAct_98 (by decide) (fun b98 => ?_) (fun b98 => ?_)
          · skip
            have k3 : ¬ hh = 61 := fun q => b98 ((b_v_eq (k := 61) hh6 (by decide)).mpr q)
            refine q_iload_n d_Mo_readAct_105 rfl ?_
            refine q_bipush (v := 63) d_Mo_readAct_106 (by decide) ?_
            refine q_icmp_ne (tgt := 115) d_Mo_readAct_108 (by decide) (fun b108 => ?_) (fun b108 => ?_)
            · skip
              have k4 : ¬ hh = 63 := fun q => b108 ((b_v_eq (k := 63) hh6 (by decide)).mpr q)
              refine q_iload_n d_Mo_readAct_115 rfl ?_
              refine q_bipush (v := 33) d_Mo_readAct_116 (by decide) ?_
              refine q_icmp_ne (tgt := 125) d_Mo_readAct_118 (by decide) (fun b118 => ?_) (fun b118 => ?_)
              · skip
                have k5 : ¬ hh = 33 := fun q => b118 ((b_v_eq (k := 33) hh6 (by decide)).mpr q)
                refine q_iconst (v := 0) d_Mo_readAct_125 (by decide) ?_
                exact J126 _ (by unfold k_m; first | (rw [if_pos k1]; rfl) | (rw [if_neg k1, if_pos k2]; rfl) | (rw [if_neg k1, if_neg k2, if_pos k3]; rfl) | (rw [if_neg k1, if_neg k2, if_neg k3, if_pos k4]; rfl) | (rw [if_neg k1, if_neg k2, if_neg k3, if_neg k4, if_pos k5]; rfl) | (rw [if_neg k1, if_neg k2, if_neg k3, if_neg k4, if_neg k5]; rfl))
              · skip
                have k5 : hh = 33 := (b_v_eq (k := 33) hh6 (by decide)).mp b118
                refine q_iconst (v := 5) d_Mo_readAct_121 (by decide) ?_
                refine q_goto (tgt := 126) d_Mo_readAct_122 (by decide) ?_
                exact J126 _ (by unfold k_m; first | (rw [if_pos k1]; rfl) | (rw [if_neg k1, if_pos k2]; rfl) | (rw [if_neg k1, if_neg k2, if_pos k3]; rfl) | (rw [if_neg k1, if_neg k2, if_neg k3, if_pos k4]; rfl) | (rw [if_neg k1, if_neg k2, if_neg k3, if_neg k4, if_pos k5]; rfl) | (rw [if_neg k1, if_neg k2, if_neg k3, if_neg k4, if_neg k5]; rfl))
            · skip
              have k4 : hh = 63 := (b_v_eq (k := 63) hh6 (by decide)).mp b108
              refine q_iconst (v := 4) d_Mo_readAct_111 (by decide) ?_
              refine q_goto (tgt := 126) d_Mo_readAct_112 (by decide) ?_
              exact J126 _ (by unfold k_m; first | (rw [if_pos k1]; rfl) | (rw [if_neg k1, if_pos k2]; rfl) | (rw [if_neg k1, if_neg k2, if_pos k3]; rfl) | (rw [if_neg k1, if_neg k2, if_neg k3, if_pos k4]; rfl) | (rw [if_neg k1, if_neg k2, if_neg k3, if_neg k4, if_pos k5]; rfl) | (rw [if_neg k1, if_neg k2, if_neg k3, if_neg k4, if_neg k5]; rfl))
          · skip
            have k3 : hh = 61 := (b_v_eq (k := 61) hh6 (by decide)).mp b98
            refine q_iconst (v := 3) d_Mo_readAct_101 (by decide) ?_
            refine q_goto (tgt := 126) d_Mo_readAct_102 (by decide) ?_
            exact J126 _ (by unfold k_m; first | (rw [if_pos k1]; rfl) | (rw [if_neg k1, if_pos k2]; rfl) | (rw [if_neg k1, if_neg k2, if_pos k3]; rfl) | (rw [if_neg k1, if_neg k2, if_neg k3, if_pos k4]; rfl) | (rw [if_neg k1, if_neg k2, if_neg k3, if_neg k4, if_pos k5]; rfl) | (rw [if_neg k1, if_neg k2, if_neg k3, if_neg k4, if_neg k5]; rfl))
        · skip
          have k2 : hh = 45 := (b_v_eq (k := 45) hh6 (by decide)).mp b88
          refine q_iconst (v := 2) d_Mo_readAct_91 (by decide) ?_
          refine q_goto (tgt := 126) d_Mo_readAct_92 (by decide) ?_
          exact J126 _ (by unfold k_m; first | (rw [if_pos k1]; rfl) | (rw [if_neg k1, if_pos k2]; rfl) | (rw [if_neg k1, if_neg k2, if_pos k3]; rfl) | (rw [if_neg k1, if_neg k2, if_neg k3, if_pos k4]; rfl) | (rw [if_neg k1, if_neg k2, if_neg k3, if_neg k4, if_pos k5]; rfl) | (rw [if_neg k1, if_neg k2, if_neg k3, if_neg k4, if_neg k5]; rfl))
      · skip
        have k1 : hh = 43 := (b_v_eq (k := 43) hh6 (by decide)).mp b78
        refine q_iconst (v := 1) d_Mo_readAct_81 (by decide) ?_
        refine q_goto (tgt := 126) d_Mo_readAct_82 (by decide) ?_
        exact J126 _ (by unfold k_m; first | (rw [if_pos k1]; rfl) | (rw [if_neg k1, if_pos k2]; rfl) | (rw [if_neg k1, if_neg k2, if_pos k3]; rfl) | (rw [if_neg k1, if_neg k2, if_neg k3, if_pos k4]; rfl) | (rw [if_neg k1, if_neg k2, if_neg k3, if_neg k4, if_pos k5]; rfl) | (rw [if_neg k1, if_neg k2, if_neg k3, if_neg k4, if_neg k5]; rfl))
  · skip
    exact absurd ((b_v_eq (k := 46) hc6 (by decide)).mp b55) (by omega)
set_option maxRecDepth 10000 in
set_option maxHeartbeats 2000000 in
theorem c_Mo_readAct (hG : q_GG g) {b hp : List va_E} {m : Nat → Int32} {A : Nat → Nat → Int32} {n : Nat} {tb : Nat → Nat} {nv : Nat} {z : Nat → Nat} {S : x_S} (hT : m_T n tb) (hA : M_A b m A hp) (hR : R_M n tb nv z S m A) (hok : x_ok n S) (hk0 : x_k S = 0) (hz0 : c_n (x_C S) ≤ 12 → c_s (x_C S) (c_n (x_C S)) = 0) (hnv : nv ≤ 5) (hz5 : ∀ v, v < nv → z v ≤ 5) (hpre : (t_b n tb (x_a S) = 46 ∨ (97 ≤ t_b n tb (x_a S) ∧ t_b n tb (x_a S) < 97 + nv)) → c_n (x_C S) ≤ 12) : q_C g m_Mo_readAct true (q_R 3 90 0 0) [.ref 84] hp (q_mo none b (fun m' A' => R_M n tb nv z (x_ra n tb nv z S) m' A' ∧ mo_K [3, 4, 15, 16, 28, 29, 30] m m' ∧ mo_K [9, 10, 11, 12, 16, 17, 18] A A')) := by
  refine q_C.of hG (by decide) (Nat.le_of_ble_eq_true rfl) ?_
  refine q_wrote ?_
  have hn1 := hT.1
  have ha1 : x_a S ≤ n := hok.2.1
  have v15 := hR.2.2.2.1
  have v5 := hR.1.2.2.1
  have v3 : m 3 = 0 := by rw [hR.2.1, hk0]; rfl
  obtain ⟨cc, hcc⟩ : ∃ cc, t_b n tb (x_a S) = cc := ⟨_, rfl⟩
  have hc6 : cc ≤ 256 := hcc ▸ m_tle hT _
  have km : mo_K [3, 4, 15, 16, 28, 29, 30] m m := mo_K.rfl
  have kA : mo_K [9, 10, 11, 12, 16, 17, 18] A A := mo_K.rfl
  refine q_aload_n d_Mo_readAct_0 rfl rfl ?_
  refine q_aload_n d_Mo_readAct_1 rfl rfl ?_
  refine q_get d_Mo_readAct_2 f_Mo_123 hA.1 rfl ?_
  rw [v15]
  refine x_callV d_Mo_readAct_5 l_Mo_126 i_Mo_byteAt v_Mo_byteAt rfl hA.1 (c_Mo_byteAt hG hA hR.1.1 hT.1 hR.1.2.1 hT.2 (show x_a S < 2 ^ 31 by omega)) rfl rfl (Nat.le_of_ble_eq_true rfl) (Nat.le_of_ble_eq_true rfl) (Nat.le_of_ble_eq_true rfl) (Nat.le_of_ble_eq_true rfl) ?_
  rw [hcc]
  refine q_istore_n d_Mo_readAct_8 rfl (by decide) rfl ?_
  refine q_iload_n d_Mo_readAct_9 rfl ?_
  refine q_bipush (v := 46) d_Mo_readAct_10 (by decide) ?_
  refine q_icmp_eq (tgt := 42) d_Mo_readAct_12 (by decide) (fun b12 => ?_) (fun b12 => ?_)
  · skip
    have q : cc = 46 := (b_v_eq (k := 46) hc6 (by decide)).mp b12
    subst q
    exact l_ra_dotM hG hT hA hR hok hk0 hz0 hnv hz5 km kA (hpre (Or.inl hcc)) hcc
  · skip
    have q : ¬ cc = 46 := fun q => b12 ((b_v_eq (k := 46) hc6 (by decide)).mpr q)
    refine q_iload_n d_Mo_readAct_15 rfl ?_
    refine q_bipush (v := 97) d_Mo_readAct_16 (by decide) ?_
    refine q_icmp_lt (tgt := 32) d_Mo_readAct_18 (by decide) (fun b18 => ?_) (fun b18 => ?_)
    · skip
      have q2 := (m_bl (k := 97) hc6 (by decide)).mp b18
      rw [x_ra_no (by omega) (by omega)]
      refine q_aload_n d_Mo_readAct_32 rfl rfl ?_
      refine q_iconst (v := 1) d_Mo_readAct_33 (by decide) ?_
      refine q_aload_n d_Mo_readAct_34 rfl rfl ?_
      refine q_get d_Mo_readAct_35 f_Mo_123 hA.1 rfl ?_
      rw [v15]
      refine x_callVm d_Mo_readAct_38 l_Mo_149 i_Mo_fail v_Mo_fail rfl hA.1 (c_Mo_fail hG hA v3) rfl rfl (Nat.le_of_ble_eq_true rfl) (Nat.le_of_ble_eq_true rfl) (Nat.le_of_ble_eq_true rfl) (Nat.le_of_ble_eq_true rfl) (fun m A hp1 hA hz => ?_)
      obtain ⟨w3, w4, nm, nA⟩ := hz
      have v5 := (nm 5 (by decide)).trans v5
      have v15 := (nm 15 (by decide)).trans v15
      have km := km.sub nm (by decide)
      have kA := kA.sub nA (by decide)
      refine q_vret d_Mo_readAct_41 rfl ?_ (Nat.le_of_ble_eq_true rfl) (Nat.le_of_ble_eq_true rfl) (by decide)
      exact ⟨(m, A, _), rfl, rfl, hA, hR.mf w3 w4 nm nA, km, kA⟩
    · skip
      have q2 : ¬ (cc < 97 ∨ cc = 256) := fun q => b18 ((m_bl (k := 97) hc6 (by decide)).mpr q)
      refine q_iload_n d_Mo_readAct_21 rfl ?_
      refine q_bipush (v := 97) d_Mo_readAct_22 (by decide) ?_
      refine q_aload_n d_Mo_readAct_24 rfl rfl ?_
      refine q_get d_Mo_readAct_25 f_Mo_105 hA.1 rfl ?_
      rw [v5]
      refine q_iadd d_Mo_readAct_28 ?_
      rw [show (97 : Int32) = nI 97 from rfl, nI_add]
      refine q_icmp_lt (tgt := 42) d_Mo_readAct_29 (by decide) (fun b29 => ?_) (fun b29 => ?_)
      · skip
        have q3 := (m_bl hc6 (by omega)).mp b29
        exact l_ra_letM hG hT hA hR hok hk0 hz0 hnv hz5 km kA (hpre (Or.inr (by omega))) hcc (by omega)
      · skip
        have q3 : ¬ (cc < 97 + nv ∨ cc = 256) := fun q => b29 ((m_bl hc6 (by omega)).mpr q)
        rw [x_ra_no (by omega) (by omega)]
        refine q_aload_n d_Mo_readAct_32 rfl rfl ?_
        refine q_iconst (v := 1) d_Mo_readAct_33 (by decide) ?_
        refine q_aload_n d_Mo_readAct_34 rfl rfl ?_
        refine q_get d_Mo_readAct_35 f_Mo_123 hA.1 rfl ?_
        rw [v15]
        refine x_callVm d_Mo_readAct_38 l_Mo_149 i_Mo_fail v_Mo_fail rfl hA.1 (c_Mo_fail hG hA v3) rfl rfl (Nat.le_of_ble_eq_true rfl) (Nat.le_of_ble_eq_true rfl) (Nat.le_of_ble_eq_true rfl) (Nat.le_of_ble_eq_true rfl) (fun m A hp2 hA hz => ?_)
        obtain ⟨w3, w4, nm, nA⟩ := hz
        have v5 := (nm 5 (by decide)).trans v5
        have v15 := (nm 15 (by decide)).trans v15
        have km := km.sub nm (by decide)
        have kA := kA.sub nA (by decide)
        refine q_vret d_Mo_readAct_41 rfl ?_ (Nat.le_of_ble_eq_true rfl) (Nat.le_of_ble_eq_true rfl) (by decide)
        exact ⟨(m, A, _), rfl, rfl, hA, hR.mf w3 w4 nm nA, km, kA⟩
end M4
