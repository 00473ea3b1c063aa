/-! the reference: an act -/
section M3
variable {g : q_G}
theorem R_M.pre {n : Nat} {tb : Nat → Nat} {nv : Nat} {z : Nat → Nat} {S : x_S} {m m' : Nat → Int32} {A A' : Nat → Nat → Int32} {kd ow fg : Nat} (h : R_M n tb nv z S m A) (hz : c_s (x_C S) (c_n (x_C S)) = 0) (e16 : m' 16 = nI (c_n (x_C S))) (km : mo_K [16, 28, 29, 30] m m') (e9 : A' 9 = upd (A 9) (c_n (x_C S)) 0) (e10 : A' 10 = upd (A 10) (c_n (x_C S)) (nI (k_m kd))) (e11 : A' 11 = upd (A 11) (c_n (x_C S)) (nI ow)) (e12 : A' 12 = upd (A 12) (c_n (x_C S)) (nI fg)) (kA : mo_K [9, 10, 11, 12] A A') : R_M n tb nv z (x_pre kd ow fg S) m' A' := by
  obtain ⟨h1, h2, h3, h4, h5, h6, h7, h8⟩ := h
  refine ⟨h1.keep (km 2 (by decide)) (km 5 (by decide)) (kA 0 (by decide)) (kA 1 (by decide)), (km 3 (by decide)).trans h2, (km 4 (by decide)).trans h3, (km 15 (by decide)).trans h4, (km 21 (by decide)).trans h5, h6.keep (Nat.le_refl _) (fun _ _ => rfl) (kA 13 (by decide)) (kA 14 (by decide)) (kA 15 (by decide)), h7.keep (Nat.le_refl _) (fun _ _ => rfl) (kA 16 (by decide)) (kA 17 (by decide)) (kA 18 (by decide)), e16, fun k hk => ?_, fun k hk1 hk => ?_⟩
  · have hk : k < c_n (x_C S) + 1 := hk
    show A' 9 k = nI (c_s (x_C S) k)
    rw [e9]
    by_cases q : k = c_n (x_C S)
    · subst q
      rw [hz]
      simp only [upd, if_pos]
      rfl
    · simp only [upd, if_neg q]
      exact h8.2.1 k (by omega)
  · have hk : k < c_n (x_C S) + 1 := hk
    show A' 10 k = nI (k_m (va_up (c_k (x_C S)) (c_n (x_C S)) kd k)) ∧ A' 11 k = nI (va_up (c_v (x_C S)) (c_n (x_C S)) ow k) ∧ A' 12 k = nI (va_up (c_f (x_C S)) (c_n (x_C S)) fg k)
    rw [e10, e11, e12]
    by_cases q : k = c_n (x_C S)
    · subst q
      rw [va_up_self, va_up_self, va_up_self]
      exact ⟨if_pos rfl, if_pos rfl, if_pos rfl⟩
    · simp only [upd, if_neg q, va_up_ne _ _ q]
      exact h8.2.2 k hk1 (by omega)
theorem R_M.mf {n : Nat} {tb : Nat → Nat} {nv : Nat} {z : Nat → Nat} {S : x_S} {m m' : Nat → Int32} {A A' : Nat → Nat → Int32} {k : Nat} (h : R_M n tb nv z S m A) (e3 : m' 3 = nI k) (e4 : m' 4 = nI (x_a S)) (km : mo_K [3, 4] m m') (kA : mo_K [] A A') : R_M n tb nv z (x_mf k S) m' A' := by
  obtain rfl : A' = A := funext (fun j => kA j (by simp))
  obtain ⟨h1, h2, h3, h4, h5, h6, h7, h8⟩ := h
  exact ⟨h1.keep (km 2 (by decide)) (km 5 (by decide)) rfl rfl, e3, e4, (km 15 (by decide)).trans h4, (km 21 (by decide)).trans h5, h6, h7, h8.keep (km 16 (by decide)) rfl rfl rfl rfl⟩
theorem R_M.at1 {n : Nat} {tb : Nat → Nat} {nv : Nat} {z : Nat → Nat} {S : x_S} {m m' : Nat → Int32} {A : Nat → Nat → Int32} (h : R_M n tb nv z S m A) (e15 : m' 15 = nI (x_a S + 1)) (km : ∀ j, j ≠ 15 → m' j = m j) : R_M n tb nv z (x_at1 S) m' A := by
  obtain ⟨h1, h2, h3, h4, h5, h6, h7, h8⟩ := h
  exact ⟨h1.keep (km 2 (by decide)) (km 5 (by decide)) rfl rfl, (km 3 (by decide)).trans h2, (km 4 (by decide)).trans h3, e15, (km 21 (by decide)).trans h5, h6, h7, h8.keep (km 16 (by decide)) rfl rfl rfl rfl⟩
theorem m_bl {c k : Nat} (hc : c ≤ 256) (hk : k < 2 ^ 31) : b_v c < nI k ↔ c < k ∨ c = 256 := by
  unfold b_v
  by_cases q : c = 256
  · rw [if_pos q]
    refine ⟨fun _ => Or.inr q, fun _ => ?_⟩
    show (-1 : Int32) < nI k
    rw [Int32.lt_iff_toInt_lt, nI_toInt hk]
    have : (-1 : Int32).toInt = -1 := by decide
    omega
  · rw [if_neg q, nI_ltI (by omega) hk]
    omega
def k_mL : List Nat := [43, 45, 61, 63, 33]
theorem k_m_kd {h : Nat} : b_kd h = true ↔ ¬ k_m h = 0 := by
  unfold b_kd b_kf k_m
  by_cases a1 : h = 43
  · simp [a1]
  · by_cases a2 : h = 45
    · simp [a2]
    · by_cases a3 : h = 61
      · simp [a3]
      · by_cases a4 : h = 63
        · simp [a4]
        · by_cases a5 : h = 33
          · simp [a5]
          · simp [a1, a2, a3, a4, a5]
theorem k_m_kf {h : Nat} (hd : b_kd h = true) : b_kf h = true ↔ 3 ≤ k_m h := by
  unfold b_kd b_kf at hd
  unfold b_kf k_m
  by_cases a1 : h = 43
  · simp [a1]
  · by_cases a2 : h = 45
    · simp [a2]
    · by_cases a3 : h = 61
      · simp [a3]
      · by_cases a4 : h = 63
        · simp [a4]
        · by_cases a5 : h = 33
          · simp [a5]
          · simp [a1, a2, a3, a4, a5] at hd
theorem k_m_le (h : Nat) : k_m h ≤ 5 := by
  unfold k_m
  repeat' split
  all_goals omega
set_option maxRecDepth 10000 in
set_option maxHeartbeats 2000000 in
theorem c_Mo_act (hG : q_GG g) {b hp : List va_E} {m0 : Nat → Int32} {A0 : Nat → Nat → Int32} {n : Nat} {tb : Nat → Nat} {nv : Nat} {z : Nat → Nat} {S : x_S} {kd ow fg : Nat} (hT : m_T n tb) (hA : M_A b m0 A0 hp) (hR : R_M n tb nv z S m0 A0) (hok : x_ok n S) (hc : c_n (x_C S) ≤ 12) (hz0 : c_s (x_C S) (c_n (x_C S)) = 0) (h1 : kd < 128) (h2 : ow < 5) (h3 : fg < 5) : q_C g m_Mo_act true (q_R 2 60 0 0) [.ref 84, .int (nI (k_m kd)), .int (nI ow), .int (nI fg)] hp (q_mo none b (fun m' A' => R_M n tb nv z (x_pt n tb kd ow fg S) m' A' ∧ mo_K [15, 16, 28, 29, 30] m0 m' ∧ mo_K [9, 10, 11, 12, 16, 17, 18] A0 A')) := by
  refine q_C.of hG (by decide) (Nat.le_of_ble_eq_true rfl) ?_
  have hc1 := hok.2.2.2.2.1
  have hin : vp_in (nI (c_n (x_C S))) 13 := vp_in_nI (by omega) (by decide)
  have hcl : (nI (c_n (x_C S))).toNatClampNeg = c_n (x_C S) := nI_clamp (by omega)
  obtain ⟨m, hm⟩ : ∃ m, m = m0 := ⟨_, rfl⟩
  obtain ⟨A, hA0⟩ : ∃ A, A = A0 := ⟨_, rfl⟩
  rw [← hm, ← hA0] at hA
  have v16 : m 16 = nI (c_n (x_C S) - 1) := by rw [hm]; exact hR.2.2.2.2.2.2.2.1
  have km : mo_K [16, 28, 29, 30] m0 m := by rw [hm]; exact mo_K.rfl
  have kA : mo_K [9, 10, 11, 12] A0 A := by rw [hA0]; exact mo_K.rfl
  have a9 : A 9 = A0 9 := by rw [hA0]
  have a10 : A 10 = A0 10 := by rw [hA0]
  have a11 : A 11 = A0 11 := by rw [hA0]
  have a12 : A 12 = A0 12 := by rw [hA0]
  refine q_aload_n d_Mo_act_0 rfl rfl ?_
  refine q_dup d_Mo_act_1 rfl ?_
  refine q_get d_Mo_act_2 f_Mo_143 hA.1 rfl ?_
  rw [v16]
  refine q_iconst (v := 1) d_Mo_act_5 (by decide) ?_
  refine q_iadd d_Mo_act_6 ?_
  refine x_put d_Mo_act_7 f_Mo_143 hA.1 (Nat.le_of_ble_eq_true rfl) rfl rfl (fun hp1 e1 _ => ?_)
  obtain ⟨m, hA, v16, nn⟩ := hA.put (k := 16) (by decide) e1
  rw [nI_1, show c_n (x_C S) - 1 + 1 = c_n (x_C S) by omega] at v16
  have km := km.put nn (by decide)
  refine q_aload_n d_Mo_act_10 rfl rfl ?_
  refine q_get d_Mo_act_11 f_Mo_44 hA.1 rfl ?_
  refine q_aload_n d_Mo_act_14 rfl rfl ?_
  refine q_get d_Mo_act_15 f_Mo_143 hA.1 rfl ?_
  rw [v16]
  refine q_iload_n d_Mo_act_18 rfl ?_
  refine x_iast d_Mo_act_19 hA.a10 rfl (by assumption) (fun hp2 e2 _ => ?_)
  obtain ⟨A, hA, u10, nn⟩ := hA.st10 e2
  rw [a10] at u10
  rw [hcl] at u10
  have a10 := u10
  have a9 := (nn 9 (by decide)).trans a9
  have a11 := (nn 11 (by decide)).trans a11
  have a12 := (nn 12 (by decide)).trans a12
  have kA := kA.put nn (by decide)
  refine q_aload_n d_Mo_act_20 rfl rfl ?_
  refine q_get d_Mo_act_21 f_Mo_47 hA.1 rfl ?_
  refine q_aload_n d_Mo_act_24 rfl rfl ?_
  refine q_get d_Mo_act_25 f_Mo_143 hA.1 rfl ?_
  rw [v16]
  refine q_iload_n d_Mo_act_28 rfl ?_
  refine x_iast d_Mo_act_29 hA.a11 rfl (by assumption) (fun hp3 e3 _ => ?_)
  obtain ⟨A, hA, u11, nn⟩ := hA.st11 e3
  rw [a11] at u11
  rw [hcl] at u11
  have a11 := u11
  have a9 := (nn 9 (by decide)).trans a9
  have a10 := (nn 10 (by decide)).trans a10
  have a12 := (nn 12 (by decide)).trans a12
  have kA := kA.put nn (by decide)
  refine q_aload_n d_Mo_act_30 rfl rfl ?_
  refine q_get d_Mo_act_31 f_Mo_50 hA.1 rfl ?_
  refine q_aload_n d_Mo_act_34 rfl rfl ?_
  refine q_get d_Mo_act_35 f_Mo_143 hA.1 rfl ?_
  rw [v16]
  refine q_iload_n d_Mo_act_38 rfl ?_
  refine x_iast d_Mo_act_39 hA.a12 rfl (by assumption) (fun hp4 e4 _ => ?_)
  obtain ⟨A, hA, u12, nn⟩ := hA.st12 e4
  rw [a12] at u12
  rw [hcl] at u12
  have a12 := u12
  have a9 := (nn 9 (by decide)).trans a9
  have a10 := (nn 10 (by decide)).trans a10
  have a11 := (nn 11 (by decide)).trans a11
  have kA := kA.put nn (by decide)
  refine q_aload_n d_Mo_act_40 rfl rfl ?_
  refine q_get d_Mo_act_41 f_Mo_41 hA.1 rfl ?_
  refine q_aload_n d_Mo_act_44 rfl rfl ?_
  refine q_get d_Mo_act_45 f_Mo_143 hA.1 rfl ?_
  rw [v16]
  refine q_iconst (v := 0) d_Mo_act_48 (by decide) ?_
  refine x_iast d_Mo_act_49 hA.a9 rfl (by assumption) (fun hp5 e5 _ => ?_)
  obtain ⟨A, hA, u9, nn⟩ := hA.st9 e5
  rw [a9] at u9
  rw [hcl] at u9
  have a9 := u9
  have a10 := (nn 10 (by decide)).trans a10
  have a11 := (nn 11 (by decide)).trans a11
  have a12 := (nn 12 (by decide)).trans a12
  have kA := kA.put nn (by decide)
  refine q_aload_n d_Mo_act_50 rfl rfl ?_
  refine q_iconst (v := 0) d_Mo_act_51 (by decide) ?_
  refine x_put d_Mo_act_52 f_Mo_130 hA.1 (Nat.le_of_ble_eq_true rfl) rfl rfl (fun hp6 e6 _ => ?_)
  obtain ⟨m, hA, v28, nn⟩ := hA.put (k := 28) (by decide) e6
  have v16 := (nn 16 (by decide)).trans v16
  have km := km.put nn (by decide)
  refine q_aload_n d_Mo_act_55 rfl rfl ?_
  refine q_iconst (v := 1) d_Mo_act_56 (by decide) ?_
  refine q_aload_n d_Mo_act_57 rfl rfl ?_
  refine q_get d_Mo_act_58 f_Mo_143 hA.1 rfl ?_
  rw [v16]
  refine q_ishl d_Mo_act_61 ?_
  rw [tb_2 _ (by omega)]
  refine x_put d_Mo_act_62 f_Mo_136 hA.1 (Nat.le_of_ble_eq_true rfl) rfl rfl (fun hp7 e7 _ => ?_)
  obtain ⟨m, hA, v29, nn⟩ := hA.put (k := 29) (by decide) e7
  have v16 := (nn 16 (by decide)).trans v16
  have v28 := (nn 28 (by decide)).trans v28
  have km := km.put nn (by decide)
  refine q_aload_n d_Mo_act_65 rfl rfl ?_
  refine q_iconst (v := 1) d_Mo_act_66 (by decide) ?_
  refine q_aload_n d_Mo_act_67 rfl rfl ?_
  refine q_get d_Mo_act_68 f_Mo_143 hA.1 rfl ?_
  rw [v16]
  refine q_ishl d_Mo_act_71 ?_
  rw [tb_2 _ (by omega)]
  refine x_put d_Mo_act_72 f_Mo_133 hA.1 (Nat.le_of_ble_eq_true rfl) rfl rfl (fun hp8 e8 _ => ?_)
  obtain ⟨m, hA, v30, nn⟩ := hA.put (k := 30) (by decide) e8
  have v16 := (nn 16 (by decide)).trans v16
  have v28 := (nn 28 (by decide)).trans v28
  have v29 := (nn 29 (by decide)).trans v29
  have km := km.put nn (by decide)
  have hR2 : R_M n tb nv z (x_pre kd ow fg S) m A := hR.pre hz0 v16 km a9 a10 a11 a12 kA
  have hok2 := hok.pre (kd := kd) (ow := ow) (fg := fg) hc h1 h2 h3
  refine q_aload_n d_Mo_act_75 rfl rfl ?_
  refine x_callVm d_Mo_act_76 l_Mo_146 i_Mo_take v_Mo_take rfl hA.1 (c_Mo_take hG hT (o := none) (fun i hi => by cases hi) hA hR2 hok2 (fun i hi => by cases hi) (v28.trans nI_0.symm) v29 v30) rfl rfl (Nat.le_of_ble_eq_true rfl) (Nat.le_of_ble_eq_true rfl) (Nat.le_of_ble_eq_true rfl) (Nat.le_of_ble_eq_true rfl) (fun m A hp9 hA hz => ?_)
  obtain ⟨hR3, nm, nA⟩ := hz
  have v16 := (nm 16 (by decide)).trans v16
  have v29 := (nm 29 (by decide)).trans v29
  have v30 := (nm 30 (by decide)).trans v30
  have km2 : mo_K [15, 16, 28, 29, 30] m0 m := mo_K.sub (fun j hj => km j (fun e => hj (by simp only [List.mem_cons, List.not_mem_nil, or_false] at e ⊢; omega))) nm (by decide)
  have kA2 : mo_K [9, 10, 11, 12, 16, 17, 18] A0 A := mo_K.sub (fun j hj => kA j (fun e => hj (by simp only [List.mem_cons, List.not_mem_nil, or_false] at e ⊢; omega))) nA (by decide)
  refine q_vret d_Mo_act_79 rfl ?_ (Nat.le_of_ble_eq_true rfl) (Nat.le_of_ble_eq_true rfl) (by decide)
  exact ⟨(m, A, _), rfl, rfl, hA, hR3, km2, kA2⟩
set_option maxRecDepth 10000 in
set_option maxHeartbeats 2000000 in
theorem l_ra_kind (hG : q_GG g) {b hp : List va_E} {m0 m : Nat → Int32} {A0 A : Nat → Nat → Int32} {n : Nat} {tb : Nat → Nat} {nv : Nat} {z : Nat → Nat} {S : x_S} {hh cc : Nat} {z2 z4 : Option Value} (hT : m_T n tb) (hA : M_A b m A hp) (hR : R_M n tb nv z S m A) (hok : x_ok n (x_at1 S)) (hc : c_n (x_C S) ≤ 12) (hz0 : c_s (x_C S) (c_n (x_C S)) = 0) (hk0 : x_k S = 0) (hkd : b_kd hh = true) (hcc : 97 ≤ cc ∧ cc < 97 + nv) (hnv : nv ≤ 5) (hz5 : ∀ v, v < nv → z v ≤ 5) (km : mo_K [3, 4, 15, 16, 28, 29, 30] m0 m) (kA : mo_K [9, 10, 11, 12, 16, 17, 18] A0 A) : q_J g m_Mo_readAct true (q_R 3 90 0 0) (q_mo none b (fun m' A' => R_M n tb nv z (if b_kf hh then (if 48 ≤ t_b n tb (x_a S + 1) ∧ t_b n tb (x_a S + 1) < 48 + z (cc - 97) then x_pt n tb hh (cc - 97) (t_b n tb (x_a S + 1) - 48) (x_at1 (x_at1 S)) else x_mf 1 (x_at1 S)) else x_pt n tb hh (cc - 97) 0 (x_at1 S)) m' A' ∧ mo_K [3, 4, 15, 16, 28, 29, 30] m0 m' ∧ mo_K [9, 10, 11, 12, 16, 17, 18] A0 A')) 141 [some (.ref 84), some (.int (b_v cc)), z2, some (.int (nI (k_m hh))), z4] [] hp 0 0 true := by
  have hn1 := hT.1
  have ha1 : x_a S + 1 ≤ n := hok.2.1
  have hk5 := k_m_le hh
  have hzv := hz5 (cc - 97) (by omega)
  have v15 := hR.2.2.2.1
  have v3 : m 3 = 0 := by rw [hR.2.1, hk0]; rfl
  refine q_aload_n d_Mo_readAct_141 rfl rfl ?_
  refine q_dup d_Mo_readAct_142 rfl ?_
  refine q_get d_Mo_readAct_143 f_Mo_123 hA.1 rfl ?_
  rw [v15]
  refine q_iconst (v := 1) d_Mo_readAct_146 (by decide) ?_
  refine q_iadd d_Mo_readAct_147 ?_
  refine x_put d_Mo_readAct_148 f_Mo_123 hA.1 (Nat.le_of_ble_eq_true rfl) rfl rfl (fun hp1 e1 _ => ?_)
  obtain ⟨m, hA, v15, nn⟩ := hA.put (k := 15) (by decide) e1
  rw [nI_1] at v15
  have hR := hR.at1 v15 nn
  have v3 := (nn 3 (by decide)).trans v3
  have km := km.put nn (by decide)
  refine q_iload_n d_Mo_readAct_151 rfl ?_
  refine q_iconst (v := 3) d_Mo_readAct_152 (by decide) ?_
  refine q_icmp_ge (tgt := 167) d_Mo_readAct_153 (by decide) (fun b153 => ?_) (fun b153 => ?_)
  · skip
    have q : b_kf hh = true := (k_m_kf hkd).mpr ((nI_leI (a := 3) (by decide) (by omega)).mp b153)
    rw [if_pos q]
    obtain ⟨ff, hff⟩ : ∃ ff, t_b n tb (x_a S + 1) = ff := ⟨_, rfl⟩
    have hf6 : ff ≤ 256 := hff ▸ m_tle hT _
    rw [hff]
    refine q_aload_n d_Mo_readAct_167 rfl rfl ?_
    refine q_aload_n d_Mo_readAct_168 rfl rfl ?_
    refine q_get d_Mo_readAct_169 f_Mo_123 hA.1 rfl ?_
    rw [v15]
    refine x_callV d_Mo_readAct_172 l_Mo_126 i_Mo_byteAt v_Mo_byteAt rfl hA.1 (c_Mo_byteAt hG hA hR.1.1 hT.1 hR.1.2.1 hT.2 (show x_a S + 1 < 2 ^ 31 by omega)) rfl rfl (Nat.le_of_ble_eq_true rfl) (Nat.le_of_ble_eq_true rfl) (Nat.le_of_ble_eq_true rfl) (Nat.le_of_ble_eq_true rfl) ?_
    rw [hff]
    refine q_bipush (v := 48) d_Mo_readAct_175 (by decide) ?_
    refine q_isub d_Mo_readAct_177 ?_
    rw [show (48 : Int32) = nI 48 from rfl]
    refine q_istore d_Mo_readAct_178 (by decide) rfl ?_
    refine q_iload d_Mo_readAct_180 rfl ?_
    refine q_if_lt (tgt := 199) d_Mo_readAct_182 (by decide) (fun b182 => ?_) (fun b182 => ?_)
    · skip
      have q2 := (b_lt0 hf6 (by decide) (by decide)).mp b182
      rw [if_neg (fun q => by omega)]
      refine q_aload_n d_Mo_readAct_199 rfl rfl ?_
      refine q_iconst (v := 1) d_Mo_readAct_200 (by decide) ?_
      refine q_aload_n d_Mo_readAct_201 rfl rfl ?_
      refine q_get d_Mo_readAct_202 f_Mo_123 hA.1 rfl ?_
      rw [v15]
      refine x_callVm d_Mo_readAct_205 l_Mo_149 i_Mo_fail v_Mo_fail rfl hA.1 (c_Mo_fail hG hA v3) rfl rfl (Nat.le_of_ble_eq_true rfl) (Nat.le_of_ble_eq_true rfl) (Nat.le_of_ble_eq_true rfl) (Nat.le_of_ble_eq_true rfl) (fun m A hp2 hA hz => ?_)
      obtain ⟨w3, w4, nm, nA⟩ := hz
      have v15 := (nm 15 (by decide)).trans v15
      have km := km.sub nm (by decide)
      have kA := kA.sub nA (by decide)
      refine q_vret d_Mo_readAct_208 rfl ?_ (Nat.le_of_ble_eq_true rfl) (Nat.le_of_ble_eq_true rfl) (by decide)
      exact ⟨(m, A, _), rfl, rfl, hA, hR.mf w3 w4 nm nA, km, kA⟩
    · skip
      have q2 : ¬ (ff < 48 ∨ ff = 256) := fun q => b182 ((b_lt0 hf6 (by decide) (by decide)).mpr q)
      rw [b_sub (by omega) (by omega)]
      refine q_iload d_Mo_readAct_185 rfl ?_
      refine q_aload_n d_Mo_readAct_187 rfl rfl ?_
      refine q_get d_Mo_readAct_188 f_Mo_17 hA.1 rfl ?_
      refine q_iload_n d_Mo_readAct_191 rfl ?_
      refine q_bipush (v := 97) d_Mo_readAct_192 (by decide) ?_
      refine q_isub d_Mo_readAct_194 ?_
      rw [show (97 : Int32) = nI 97 from rfl, b_sub (by omega) (by omega)]
      refine q_iald d_Mo_readAct_195 hA.a1 rfl (vp_in_nI (by omega) (by decide)) ?_
      rw [nI_clamp (by omega), hR.1.2.2.2 _ (by omega)]
      refine q_icmp_lt (tgt := 209) d_Mo_readAct_196 (by decide) (fun b196 => ?_) (fun b196 => ?_)
      · skip
        have q3 := (nI_ltI (by omega) (by omega)).mp b196
        rw [if_pos (by omega)]
        have ha2 : x_a S + 1 < n := t_b_lt (tb := tb) (by omega)
        have hok := hok.at1 ha2
        refine q_aload_n d_Mo_readAct_209 rfl rfl ?_
        refine q_dup d_Mo_readAct_210 rfl ?_
        refine q_get d_Mo_readAct_211 f_Mo_123 hA.1 rfl ?_
        rw [v15]
        refine q_iconst (v := 1) d_Mo_readAct_214 (by decide) ?_
        refine q_iadd d_Mo_readAct_215 ?_
        refine x_put d_Mo_readAct_216 f_Mo_123 hA.1 (Nat.le_of_ble_eq_true rfl) rfl rfl (fun hp3 e3 _ => ?_)
        obtain ⟨m, hA, v15, nn⟩ := hA.put (k := 15) (by decide) e3
        rw [nI_1] at v15
        have hR := hR.at1 v15 nn
        have v3 := (nn 3 (by decide)).trans v3
        have km := km.put nn (by decide)
        refine q_aload_n d_Mo_readAct_219 rfl rfl ?_
        refine q_iload_n d_Mo_readAct_220 rfl ?_
        refine q_iload_n d_Mo_readAct_221 rfl ?_
        refine q_bipush (v := 97) d_Mo_readAct_222 (by decide) ?_
        refine q_isub d_Mo_readAct_224 ?_
        rw [show (97 : Int32) = nI 97 from rfl, b_sub (by omega) (by omega)]
        refine q_iload d_Mo_readAct_225 rfl ?_
        refine x_callVm d_Mo_readAct_227 l_Mo_152 i_Mo_act v_Mo_act rfl hA.1 (c_Mo_act hG hT (S := x_at1 (x_at1 S)) (kd := hh) (ow := cc - 97) (fg := ff - 48) hA hR hok hc hz0 (b_kd_lt hkd) (by omega) (by omega)) rfl rfl (Nat.le_of_ble_eq_true rfl) (Nat.le_of_ble_eq_true rfl) (Nat.le_of_ble_eq_true rfl) (Nat.le_of_ble_eq_true rfl) (fun m A hp4 hA hz => ?_)
        obtain ⟨hR, nm, nA⟩ := hz
        have v3 := (nm 3 (by decide)).trans v3
        have km := km.sub nm (by decide)
        have kA := kA.sub nA (by decide)
        refine q_vret d_Mo_readAct_230 rfl ?_ (Nat.le_of_ble_eq_true rfl) (Nat.le_of_ble_eq_true rfl) (by decide)
        exact ⟨(m, A, _), rfl, rfl, hA, hR, km, kA⟩
      · skip
        have q3 : ¬ ff - 48 < z (cc - 97) := fun q => b196 (nI_lt q (by omega))
        rw [if_neg (fun q => by omega)]
        refine q_aload_n d_Mo_readAct_199 rfl rfl ?_
        refine q_iconst (v := 1) d_Mo_readAct_200 (by decide) ?_
        refine q_aload_n d_Mo_readAct_201 rfl rfl ?_
        refine q_get d_Mo_readAct_202 f_Mo_123 hA.1 rfl ?_
        rw [v15]
        refine x_callVm d_Mo_readAct_205 l_Mo_149 i_Mo_fail v_Mo_fail rfl hA.1 (c_Mo_fail hG hA v3) rfl rfl (Nat.le_of_ble_eq_true rfl) (Nat.le_of_ble_eq_true rfl) (Nat.le_of_ble_eq_true rfl) (Nat.le_of_ble_eq_true rfl) (fun m A hp5 hA hz => ?_)
        obtain ⟨w3, w4, nm, nA⟩ := hz
        have v15 := (nm 15 (by decide)).trans v15
        have km := km.sub nm (by decide)
        have kA := kA.sub nA (by decide)
        refine q_vret d_Mo_readAct_208 rfl ?_ (Nat.le_of_ble_eq_true rfl) (Nat.le_of_ble_eq_true rfl) (by decide)
        exact ⟨(m, A, _), rfl, rfl, hA, hR.mf w3 w4 nm nA, km, kA⟩
  · skip
    have q : ¬ b_kf hh = true := fun q => b153 (nI_le (a := 3) ((k_m_kf hkd).mp q) (by omega))
    rw [if_neg q]
    refine q_aload_n d_Mo_readAct_156 rfl rfl ?_
    refine q_iload_n d_Mo_readAct_157 rfl ?_
    refine q_iload_n d_Mo_readAct_158 rfl ?_
    refine q_bipush (v := 97) d_Mo_readAct_159 (by decide) ?_
    refine q_isub d_Mo_readAct_161 ?_
    rw [show (97 : Int32) = nI 97 from rfl, b_sub (by omega) (by omega)]
    refine q_iconst (v := 0) d_Mo_readAct_162 (by decide) ?_
    refine x_callVm d_Mo_readAct_163 l_Mo_152 i_Mo_act v_Mo_act rfl hA.1 (c_Mo_act hG hT (S := x_at1 S) (kd := hh) (ow := cc - 97) (fg := 0) hA hR hok hc hz0 (b_kd_lt hkd) (by omega) (by omega)) rfl rfl (Nat.le_of_ble_eq_true rfl) (Nat.le_of_ble_eq_true rfl) (Nat.le_of_ble_eq_true rfl) (Nat.le_of_ble_eq_true rfl) (fun m A hp6 hA hz => ?_)
    obtain ⟨hR, nm, nA⟩ := hz
    have v3 := (nm 3 (by decide)).trans v3
    have km := km.sub nm (by decide)
    have kA := kA.sub nA (by decide)
    refine q_vret d_Mo_readAct_166 rfl ?_ (Nat.le_of_ble_eq_true rfl) (Nat.le_of_ble_eq_true rfl) (by decide)
    exact ⟨(m, A, _), rfl, rfl, hA, hR, km, kA⟩
end M3
