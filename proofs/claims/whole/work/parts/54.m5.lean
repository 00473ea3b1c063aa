/-! the reference: step -/
section M5
variable {g : q_G}
theorem x_rn_40 {n : Nat} {tb : Nat → Nat} {nv : Nat} {z : Nat → Nat} {S : x_S} (h : t_b n tb (x_a S) = 40) : x_rn n tb nv z S = x_ot S := by
  unfold x_rn
  rw [if_neg (by omega), if_pos h]
theorem x_rn_41 {n : Nat} {tb : Nat → Nat} {nv : Nat} {z : Nat → Nat} {S : x_S} (h : t_b n tb (x_a S) = 41) : x_rn n tb nv z S = x_ct n tb S := by
  unfold x_rn
  rw [if_neg (by omega), if_neg (by omega), if_pos h]
theorem x_rn_124 {n : Nat} {tb : Nat → Nat} {nv : Nat} {z : Nat → Nat} {S : x_S} (h : t_b n tb (x_a S) = 124) : x_rn n tb nv z S = x_ec (x_at1 S) := by
  unfold x_rn
  rw [if_pos h]
theorem x_rn_o {n : Nat} {tb : Nat → Nat} {nv : Nat} {z : Nat → Nat} {S : x_S} (h : ¬ t_b n tb (x_a S) = 124) (h2 : ¬ t_b n tb (x_a S) = 40) (h3 : t_b n tb (x_a S) = 41 → x_d S = 0) : x_rn n tb nv z S = x_ra n tb nv z S := by
  unfold x_rn
  rw [if_neg h, if_neg h2]
  split
  · next q =>
    rw [x_ra_no (by omega) (by omega)]
    unfold x_ct
    rw [if_pos (h3 q)]
  · rfl
theorem x_ra_2 {n : Nat} {tb : Nat → Nat} {nv : Nat} {z : Nat → Nat} {S : x_S} (h : t_b n tb (x_a S) = 46 ∨ (97 ≤ t_b n tb (x_a S) ∧ t_b n tb (x_a S) < 97 + nv)) (hc : 12 < c_n (x_C S)) : x_ra n tb nv z S = x_mf 2 S := by
  unfold x_ra
  by_cases q : t_b n tb (x_a S) = 46
  · rw [if_pos q, if_pos hc]
  · rw [if_neg q, if_pos (by omega), if_pos hc]
theorem R_M.of {n : Nat} {tb : Nat → Nat} {nv : Nat} {z : Nat → Nat} {S : x_S} {m0 m : Nat → Int32} {A0 A : Nat → Nat → Int32} (hR : R_M n tb nv z S m0 A0) (v2 : m 2 = nI n) (v5 : m 5 = nI nv) (a0 : A 0 = A0 0) (a1 : A 1 = A0 1) : R_T n tb nv z m A := ⟨v2, by rw [a0]; exact hR.1.2.1, v5, by rw [a1]; exact hR.1.2.2.2⟩
theorem R_C.of {C : c_T} {m0 m : Nat → Int32} {A0 A : Nat → Nat → Int32} (h : R_C C m0 A0) (v16 : m 16 = nI (c_n C - 1)) (a9 : A 9 = A0 9) (a10 : A 10 = A0 10) (a11 : A 11 = A0 11) (a12 : A 12 = A0 12) : R_C C m A := ⟨v16, by rw [a9]; exact h.2.1, by rw [a10, a11, a12]; exact h.2.2⟩
theorem m_or1 {x y : Nat} (hx : x < 2) (hy : y < 2) : (if nI x = 0 then (if nI y = 0 then (0 : Int32) else 1) else 1) = nI (x ||| y) := by
  rcases (by omega : x = 0 ∨ x = 1) with rfl | rfl <;> rcases (by omega : y = 0 ∨ y = 1) with rfl | rfl <;> rfl
theorem m_qB {y : Nat} (h : y < 2) : q_B (nI y) := by
  rcases (by omega : y = 0 ∨ y = 1) with rfl | rfl
  · exact Or.inl rfl
  · exact Or.inr rfl
theorem m_upd {f : Nat → Int32} {k : Nat} {x : Int32} : upd f k x k = x := by simp [upd]
theorem R_P.cut {k0 d : Nat} {t t' : Nat → p_T} {x y u : Int32} {A A' : Nat → Nat → Int32} (h : R_P k0 t d A) (ht : ∀ i, i < d → t' i = t i) (hd : 0 < d) (e0 : A' k0 = upd (A k0) d x) (e1 : A' (k0 + 1) = upd (A (k0 + 1)) d y) (e2 : A' (k0 + 2) = upd (A (k0 + 2)) d u) : R_P k0 t' (d - 1) A' := by
  intro i hi
  rw [e0, e1, e2, ht i (by omega)]
  simp only [upd, if_neg (show ¬ i = d by omega)]
  exact h i (by omega)
set_option maxRecDepth 10000 in
set_option maxHeartbeats 2000000 in
theorem l_st_144 (hG : q_GG g) {b hp : List va_E} {m : Nat → Int32} {A : Nat → Nat → Int32} {n : Nat} {tb : Nat → Nat} {nv : Nat} {z : Nat → Nat} {S : x_S} {cc : Nat} (hT : m_T n tb) (hA : M_A b m A hp) (hR : R_M n tb nv z S m A) (hok : x_ok n S) (hk0 : x_k S = 0) (hz0 : c_n (x_C S) ≤ 12 → c_s (x_C S) (c_n (x_C S)) = 0) (hnv : nv ≤ 5) (hz5 : ∀ v, v < nv → z v ≤ 5) (ha : x_a S < n) (hcc : t_b n tb (x_a S) = cc) (h40 : ¬ cc = 40) (h41 : cc = 41 → x_d S = 0) : q_J g m_Mo_step true (q_R 4 120 0 0) (q_mo none b (fun m' A' => R_M n tb nv z (x_rn n tb nv z S) m' A' ∧ mo_K [3, 4, 15, 16, 21, 28, 29, 30] m m' ∧ mo_K [9, 10, 11, 12, 13, 14, 15, 16, 17, 18] A A')) 144 [some (.ref 84), some (.int (b_v cc))] [] hp 0 0 true := by
  have hn1 := hT.1
  have hd := hok.1
  have hc1 := hok.2.2.2.2.1
  have hc2 := hok.2.2.2.2.2.1
  have v2 := hR.1.1
  have v3 := hR.2.1
  have v4 := hR.2.2.1
  have v5 := hR.1.2.2.1
  have v15 := hR.2.2.2.1
  have v16 := hR.2.2.2.2.2.2.2.1
  have v21 := hR.2.2.2.2.1
  obtain ⟨g13, g14, g15⟩ := hR.2.2.2.2.2.1 (x_d S) (Nat.le_refl _)
  obtain ⟨g16, g17, g18⟩ := hR.2.2.2.2.2.2.1 (x_d S) (Nat.le_refl _)
  have p1 := (hok.2.2.1 (x_d S) hd).1.1
  have p2 := (hok.2.2.1 (x_d S) hd).2.1
  have hcl : (nI (x_d S)).toNatClampNeg = x_d S := nI_clamp (by omega)
  have hin : vp_in (nI (x_d S)) 14 := vp_in_nI (by omega) (by decide)
  have a0 : A 0 = A 0 := rfl
  have a1 : A 1 = A 1 := rfl
  have a9 : A 9 = A 9 := rfl
  have a10 : A 10 = A 10 := rfl
  have a11 : A 11 = A 11 := rfl
  have a12 : A 12 = A 12 := rfl
  have a13 : A 13 = A 13 := rfl
  have a14 : A 14 = A 14 := rfl
  have a15 : A 15 = A 15 := rfl
  have a16 : A 16 = A 16 := rfl
  have a17 : A 17 = A 17 := rfl
  have a18 : A 18 = A 18 := rfl
  have km : mo_K [3, 4, 15, 16, 21, 28, 29, 30] m m := mo_K.rfl
  have kA : mo_K [9, 10, 11, 12, 13, 14, 15, 16, 17, 18] A A := mo_K.rfl
  have hc6 : cc ≤ 256 := hcc ▸ m_tle hT _
  refine q_iload_n d_Mo_step_144 rfl ?_
  refine q_bipush (v := 124) d_Mo_step_145 (by decide) ?_
  refine q_icmp_ne (tgt := 171) d_Mo_step_147 (by decide) (fun b147 => ?_) (fun b147 => ?_)
  · skip
    have q : ¬ cc = 124 := fun q => b147 ((b_v_eq (k := 124) hc6 (by decide)).mpr q)
    refine q_aload_n d_Mo_step_171 rfl rfl ?_
    refine q_get d_Mo_step_172 f_Mo_143 hA.1 rfl ?_
    rw [v16]
    refine q_bipush (v := 12) d_Mo_step_175 (by decide) ?_
    refine q_icmp_ne (tgt := 215) d_Mo_step_177 (by decide) (fun b177 => ?_) (fun b177 => ?_)
    · skip
      have q2 : ¬ c_n (x_C S) = 13 := fun q => b177 (by rw [q]; rfl)
      have hpre : (cc = 46 ∨ (97 ≤ cc ∧ cc < 97 + nv)) → c_n (x_C S) ≤ 12 := fun q => by omega
      refine q_aload_n d_Mo_step_215 rfl rfl ?_
      refine x_callVm d_Mo_step_216 l_Mo_162 i_Mo_readAct v_Mo_readAct rfl hA.1 (c_Mo_readAct hG hT hA hR hok hk0 hz0 hnv hz5 (by rw [hcc]; exact hpre)) rfl rfl (Nat.le_of_ble_eq_true rfl) (Nat.le_of_ble_eq_true rfl) (Nat.le_of_ble_eq_true rfl) (Nat.le_of_ble_eq_true rfl) (fun m A hp1 hA hz => ?_)
      obtain ⟨hX0, nm, nA⟩ := hz
      have v2 := (nm 2 (by decide)).trans v2
      have v5 := (nm 5 (by decide)).trans v5
      have v21 := (nm 21 (by decide)).trans v21
      have a0 := (nA 0 (by decide)).trans a0
      have a1 := (nA 1 (by decide)).trans a1
      have a13 := (nA 13 (by decide)).trans a13
      have a14 := (nA 14 (by decide)).trans a14
      have a15 := (nA 15 (by decide)).trans a15
      have km := km.sub nm (by decide)
      have kA := kA.sub nA (by decide)
      have hX : R_M n tb nv z (x_rn n tb nv z S) m A := by rw [x_rn_o (by omega) (by omega) (by omega)]; exact hX0
      refine q_vret d_Mo_step_219 rfl ?_ (Nat.le_of_ble_eq_true rfl) (Nat.le_of_ble_eq_true rfl) (by decide)
      exact ⟨(m, A, _), rfl, rfl, hA, hX, km, kA⟩
    · skip
      have q2 : c_n (x_C S) - 1 = 12 := (nI_eq (b := 12) (by omega) (by decide)).mp b177
      refine q_iload_n d_Mo_step_180 rfl ?_
      refine q_bipush (v := 46) d_Mo_step_181 (by decide) ?_
      refine q_icmp_eq (tgt := 203) d_Mo_step_183 (by decide) (fun b183 => ?_) (fun b183 => ?_)
      · skip
        have q3 : cc = 46 := (b_v_eq (k := 46) hc6 (by decide)).mp b183
        refine q_aload_n d_Mo_step_203 rfl rfl ?_
        refine q_iconst (v := 2) d_Mo_step_204 (by decide) ?_
        refine q_aload_n d_Mo_step_205 rfl rfl ?_
        refine q_get d_Mo_step_206 f_Mo_123 hA.1 rfl ?_
        rw [v15]
        refine x_callVm d_Mo_step_209 l_Mo_149 i_Mo_fail v_Mo_fail rfl hA.1 (c_Mo_fail hG hA (by rw [v3, hk0]; rfl)) rfl rfl (Nat.le_of_ble_eq_true rfl) (Nat.le_of_ble_eq_true rfl) (Nat.le_of_ble_eq_true rfl) (Nat.le_of_ble_eq_true rfl) (fun m A hp2 hA hz => ?_)
        obtain ⟨w3, w4, nm, nA⟩ := hz
        have v2 := (nm 2 (by decide)).trans v2
        have v5 := (nm 5 (by decide)).trans v5
        have v15 := (nm 15 (by decide)).trans v15
        have v16 := (nm 16 (by decide)).trans v16
        have v21 := (nm 21 (by decide)).trans v21
        have a0 := (nA 0 (by decide)).trans a0
        have a1 := (nA 1 (by decide)).trans a1
        have a9 := (nA 9 (by decide)).trans a9
        have a10 := (nA 10 (by decide)).trans a10
        have a11 := (nA 11 (by decide)).trans a11
        have a12 := (nA 12 (by decide)).trans a12
        have a13 := (nA 13 (by decide)).trans a13
        have a14 := (nA 14 (by decide)).trans a14
        have a15 := (nA 15 (by decide)).trans a15
        have a16 := (nA 16 (by decide)).trans a16
        have a17 := (nA 17 (by decide)).trans a17
        have a18 := (nA 18 (by decide)).trans a18
        have km := km.sub nm (by decide)
        have kA := kA.sub nA (by decide)
        have hX : R_M n tb nv z (x_rn n tb nv z S) m A := by
          rw [x_rn_o (by omega) (by omega) (by omega), x_ra_2 (by rw [hcc]; omega) (by omega)]
          exact hR.mf w3 w4 nm nA
        refine q_goto (tgt := 219) d_Mo_step_212 (by decide) ?_
        refine q_vret d_Mo_step_219 rfl ?_ (Nat.le_of_ble_eq_true rfl) (Nat.le_of_ble_eq_true rfl) (by decide)
        exact ⟨(m, A, _), rfl, rfl, hA, hX, km, kA⟩
      · skip
        have q3 : ¬ cc = 46 := fun q => b183 ((b_v_eq (k := 46) hc6 (by decide)).mpr q)
        refine q_iload_n d_Mo_step_186 rfl ?_
        refine q_bipush (v := 97) d_Mo_step_187 (by decide) ?_
        refine q_icmp_lt (tgt := 215) d_Mo_step_189 (by decide) (fun b189 => ?_) (fun b189 => ?_)
        · skip
          have q4 := (m_bl (k := 97) hc6 (by decide)).mp b189
          have hpre : (cc = 46 ∨ (97 ≤ cc ∧ cc < 97 + nv)) → c_n (x_C S) ≤ 12 := fun q => by omega
          refine q_aload_n d_Mo_step_215 rfl rfl ?_
          refine x_callVm d_Mo_step_216 l_Mo_162 i_Mo_readAct v_Mo_readAct rfl hA.1 (c_Mo_readAct hG hT hA hR hok hk0 hz0 hnv hz5 (by rw [hcc]; exact hpre)) rfl rfl (Nat.le_of_ble_eq_true rfl) (Nat.le_of_ble_eq_true rfl) (Nat.le_of_ble_eq_true rfl) (Nat.le_of_ble_eq_true rfl) (fun m A hp3 hA hz => ?_)
          obtain ⟨hX0, nm, nA⟩ := hz
          have v2 := (nm 2 (by decide)).trans v2
          have v5 := (nm 5 (by decide)).trans v5
          have v21 := (nm 21 (by decide)).trans v21
          have a0 := (nA 0 (by decide)).trans a0
          have a1 := (nA 1 (by decide)).trans a1
          have a13 := (nA 13 (by decide)).trans a13
          have a14 := (nA 14 (by decide)).trans a14
          have a15 := (nA 15 (by decide)).trans a15
          have km := km.sub nm (by decide)
          have kA := kA.sub nA (by decide)
          have hX : R_M n tb nv z (x_rn n tb nv z S) m A := by rw [x_rn_o (by omega) (by omega) (by omega)]; exact hX0
          refine q_vret d_Mo_step_219 rfl ?_ (Nat.le_of_ble_eq_true rfl) (Nat.le_of_ble_eq_true rfl) (by decide)
          exact ⟨(m, A, _), rfl, rfl, hA, hX, km, kA⟩
        · skip
          have q4 : ¬ (cc < 97 ∨ cc = 256) := fun q => b189 ((m_bl (k := 97) hc6 (by decide)).mpr q)
          refine q_iload_n d_Mo_step_192 rfl ?_
          refine q_bipush (v := 97) d_Mo_step_193 (by decide) ?_
          refine q_aload_n d_Mo_step_195 rfl rfl ?_
          refine q_get d_Mo_step_196 f_Mo_105 hA.1 rfl ?_
          rw [v5]
          refine q_iadd d_Mo_step_199 ?_
          rw [show (97 : Int32) = nI 97 from rfl, nI_add]
          refine q_icmp_ge (tgt := 215) d_Mo_step_200 (by decide) (fun b200 => ?_) (fun b200 => ?_)
          · skip
            have q5 : ¬ (cc < 97 + nv ∨ cc = 256) := fun q => absurd ((m_bl hc6 (by omega)).mpr q) (Int32.not_lt.mpr b200)
            have hpre : (cc = 46 ∨ (97 ≤ cc ∧ cc < 97 + nv)) → c_n (x_C S) ≤ 12 := fun q => by omega
            refine q_aload_n d_Mo_step_215 rfl rfl ?_
            refine x_callVm d_Mo_step_216 l_Mo_162 i_Mo_readAct v_Mo_readAct rfl hA.1 (c_Mo_readAct hG hT hA hR hok hk0 hz0 hnv hz5 (by rw [hcc]; exact hpre)) rfl rfl (Nat.le_of_ble_eq_true rfl) (Nat.le_of_ble_eq_true rfl) (Nat.le_of_ble_eq_true rfl) (Nat.le_of_ble_eq_true rfl) (fun m A hp4 hA hz => ?_)
            obtain ⟨hX0, nm, nA⟩ := hz
            have v2 := (nm 2 (by decide)).trans v2
            have v5 := (nm 5 (by decide)).trans v5
            have v21 := (nm 21 (by decide)).trans v21
            have a0 := (nA 0 (by decide)).trans a0
            have a1 := (nA 1 (by decide)).trans a1
            have a13 := (nA 13 (by decide)).trans a13
            have a14 := (nA 14 (by decide)).trans a14
            have a15 := (nA 15 (by decide)).trans a15
            have km := km.sub nm (by decide)
            have kA := kA.sub nA (by decide)
            have hX : R_M n tb nv z (x_rn n tb nv z S) m A := by rw [x_rn_o (by omega) (by omega) (by omega)]; exact hX0
            refine q_vret d_Mo_step_219 rfl ?_ (Nat.le_of_ble_eq_true rfl) (Nat.le_of_ble_eq_true rfl) (by decide)
            exact ⟨(m, A, _), rfl, rfl, hA, hX, km, kA⟩
          · skip
            have q5 : cc < 97 + nv ∨ cc = 256 := (m_bl hc6 (by omega)).mp (Int32.not_le.mp b200)
            refine q_aload_n d_Mo_step_203 rfl rfl ?_
            refine q_iconst (v := 2) d_Mo_step_204 (by decide) ?_
            refine q_aload_n d_Mo_step_205 rfl rfl ?_
            refine q_get d_Mo_step_206 f_Mo_123 hA.1 rfl ?_
            rw [v15]
            refine x_callVm d_Mo_step_209 l_Mo_149 i_Mo_fail v_Mo_fail rfl hA.1 (c_Mo_fail hG hA (by rw [v3, hk0]; rfl)) rfl rfl (Nat.le_of_ble_eq_true rfl) (Nat.le_of_ble_eq_true rfl) (Nat.le_of_ble_eq_true rfl) (Nat.le_of_ble_eq_true rfl) (fun m A hp5 hA hz => ?_)
            obtain ⟨w3, w4, nm, nA⟩ := hz
            have v2 := (nm 2 (by decide)).trans v2
            have v5 := (nm 5 (by decide)).trans v5
            have v15 := (nm 15 (by decide)).trans v15
            have v16 := (nm 16 (by decide)).trans v16
            have v21 := (nm 21 (by decide)).trans v21
            have a0 := (nA 0 (by decide)).trans a0
            have a1 := (nA 1 (by decide)).trans a1
            have a9 := (nA 9 (by decide)).trans a9
            have a10 := (nA 10 (by decide)).trans a10
            have a11 := (nA 11 (by decide)).trans a11
            have a12 := (nA 12 (by decide)).trans a12
            have a13 := (nA 13 (by decide)).trans a13
            have a14 := (nA 14 (by decide)).trans a14
            have a15 := (nA 15 (by decide)).trans a15
            have a16 := (nA 16 (by decide)).trans a16
            have a17 := (nA 17 (by decide)).trans a17
            have a18 := (nA 18 (by decide)).trans a18
            have km := km.sub nm (by decide)
            have kA := kA.sub nA (by decide)
            have hX : R_M n tb nv z (x_rn n tb nv z S) m A := by
              rw [x_rn_o (by omega) (by omega) (by omega), x_ra_2 (by rw [hcc]; omega) (by omega)]
              exact hR.mf w3 w4 nm nA
            refine q_goto (tgt := 219) d_Mo_step_212 (by decide) ?_
            refine q_vret d_Mo_step_219 rfl ?_ (Nat.le_of_ble_eq_true rfl) (Nat.le_of_ble_eq_true rfl) (by decide)
            exact ⟨(m, A, _), rfl, rfl, hA, hX, km, kA⟩
  · skip
    have q : cc = 124 := (b_v_eq (k := 124) hc6 (by decide)).mp b147
    refine q_aload_n d_Mo_step_150 rfl rfl ?_
    refine x_callVm d_Mo_step_151 l_Mo_159 i_Mo_endRow v_Mo_endRow rfl hA.1 (c_Mo_endRow hG hA v21 (by omega)) rfl rfl (Nat.le_of_ble_eq_true rfl) (Nat.le_of_ble_eq_true rfl) (Nat.le_of_ble_eq_true rfl) (Nat.le_of_ble_eq_true rfl) (fun m A hp6 hA hz => ?_)
    obtain ⟨w13, w14, w15, nm, nA⟩ := hz
    rw [a13, a16, g13, g16, m_or1 p1 p2] at w13
    rw [a14, a17, g14, g17, tb_or] at w14
    rw [a15, a18, g15, g18, tb_or] at w15
    have v2 := (nm 2 (by decide)).trans v2
    have v3 := (nm 3 (by decide)).trans v3
    have v4 := (nm 4 (by decide)).trans v4
    have v5 := (nm 5 (by decide)).trans v5
    have v15 := (nm 15 (by decide)).trans v15
    have v16 := (nm 16 (by decide)).trans v16
    have v21 := (nm 21 (by decide)).trans v21
    have a0 := (nA 0 (by decide)).trans a0
    have a1 := (nA 1 (by decide)).trans a1
    have a9 := (nA 9 (by decide)).trans a9
    have a10 := (nA 10 (by decide)).trans a10
    have a11 := (nA 11 (by decide)).trans a11
    have a12 := (nA 12 (by decide)).trans a12
    have a16 := (nA 16 (by decide)).trans a16
    have a17 := (nA 17 (by decide)).trans a17
    have a18 := (nA 18 (by decide)).trans a18
    have km := km.sub nm (by decide)
    have kA := kA.sub nA (by decide)
    have a13 := w13
    have a14 := w14
    have a15 := w15
    refine q_aload_n d_Mo_step_154 rfl rfl ?_
    refine x_callVm d_Mo_step_155 l_Mo_120 i_Mo_beginRow v_Mo_beginRow rfl hA.1 (c_Mo_beginRow hG hA v21 (by omega)) rfl rfl (Nat.le_of_ble_eq_true rfl) (Nat.le_of_ble_eq_true rfl) (Nat.le_of_ble_eq_true rfl) (Nat.le_of_ble_eq_true rfl) (fun m A hp7 hA hz => ?_)
    obtain ⟨w16, w17, w18, nm, nA⟩ := hz
    rw [a16] at w16
    rw [a17] at w17
    rw [a18] at w18
    have v2 := (nm 2 (by decide)).trans v2
    have v3 := (nm 3 (by decide)).trans v3
    have v4 := (nm 4 (by decide)).trans v4
    have v5 := (nm 5 (by decide)).trans v5
    have v15 := (nm 15 (by decide)).trans v15
    have v16 := (nm 16 (by decide)).trans v16
    have v21 := (nm 21 (by decide)).trans v21
    have a0 := (nA 0 (by decide)).trans a0
    have a1 := (nA 1 (by decide)).trans a1
    have a9 := (nA 9 (by decide)).trans a9
    have a10 := (nA 10 (by decide)).trans a10
    have a11 := (nA 11 (by decide)).trans a11
    have a12 := (nA 12 (by decide)).trans a12
    have a13 := (nA 13 (by decide)).trans a13
    have a14 := (nA 14 (by decide)).trans a14
    have a15 := (nA 15 (by decide)).trans a15
    have km := km.sub nm (by decide)
    have kA := kA.sub nA (by decide)
    have a16 := w16
    have a17 := w17
    have a18 := w18
    refine q_aload_n d_Mo_step_158 rfl rfl ?_
    refine q_dup d_Mo_step_159 rfl ?_
    refine q_get d_Mo_step_160 f_Mo_123 hA.1 rfl ?_
    rw [v15]
    refine q_iconst (v := 1) d_Mo_step_163 (by decide) ?_
    refine q_iadd d_Mo_step_164 ?_
    refine x_put d_Mo_step_165 f_Mo_123 hA.1 (Nat.le_of_ble_eq_true rfl) rfl rfl (fun hp8 e8 _ => ?_)
    obtain ⟨m, hA, v15, nn⟩ := hA.put (k := 15) (by decide) e8
    rw [nI_1] at v15
    have v2 := (nn 2 (by decide)).trans v2
    have v3 := (nn 3 (by decide)).trans v3
    have v4 := (nn 4 (by decide)).trans v4
    have v5 := (nn 5 (by decide)).trans v5
    have v16 := (nn 16 (by decide)).trans v16
    have v21 := (nn 21 (by decide)).trans v21
    have km := km.put nn (by decide)
    have hX : R_M n tb nv z (x_rn n tb nv z S) m A := by
      rw [x_rn_124 (by omega)]
      exact ⟨hR.of v2 v5 a0 a1, v3, v4, v15, v21, R_P.up hR.2.2.2.2.2.1.lt a13 a14 a15, R_P.up (x := (1, 0, 0)) hR.2.2.2.2.2.2.1.lt a16 a17 a18, hR.2.2.2.2.2.2.2.of v16 a9 a10 a11 a12⟩
    refine q_goto (tgt := 219) d_Mo_step_168 (by decide) ?_
    refine q_vret d_Mo_step_219 rfl ?_ (Nat.le_of_ble_eq_true rfl) (Nat.le_of_ble_eq_true rfl) (by decide)
    exact ⟨(m, A, _), rfl, rfl, hA, hX, km, kA⟩
set_option maxRecDepth 10000 in
set_option maxHeartbeats 2000000 in
theorem c_Mo_step (hG : q_GG g) {b hp : List va_E} {m : Nat → Int32} {A : Nat → Nat → Int32} {n : Nat} {tb : Nat → Nat} {nv : Nat} {z : Nat → Nat} {S : x_S} (hT : m_T n tb) (hA : M_A b m A hp) (hR : R_M n tb nv z S m A) (hok : x_ok n S) (hk0 : x_k S = 0) (hz0 : c_n (x_C S) ≤ 12 → c_s (x_C S) (c_n (x_C S)) = 0) (hnv : nv ≤ 5) (hz5 : ∀ v, v < nv → z v ≤ 5) (ha : x_a S < n) : q_C g m_Mo_step true (q_R 4 120 0 0) [.ref 84] hp (q_mo none b (fun m' A' => R_M n tb nv z (x_rn n tb nv z S) m' A' ∧ mo_K [3, 4, 15, 16, 21, 28, 29, 30] m m' ∧ mo_K [9, 10, 11, 12, 13, 14, 15, 16, 17, 18] A A')) := by
  refine q_C.of hG (by decide) (Nat.le_of_ble_eq_true rfl) ?_
  refine q_wrote ?_
  have hn1 := hT.1
  have hd := hok.1
  have hc1 := hok.2.2.2.2.1
  have hc2 := hok.2.2.2.2.2.1
  have v2 := hR.1.1
  have v3 := hR.2.1
  have v4 := hR.2.2.1
  have v5 := hR.1.2.2.1
  have v15 := hR.2.2.2.1
  have v16 := hR.2.2.2.2.2.2.2.1
  have v21 := hR.2.2.2.2.1
  obtain ⟨g13, g14, g15⟩ := hR.2.2.2.2.2.1 (x_d S) (Nat.le_refl _)
  obtain ⟨g16, g17, g18⟩ := hR.2.2.2.2.2.2.1 (x_d S) (Nat.le_refl _)
  have p1 := (hok.2.2.1 (x_d S) hd).1.1
  have p2 := (hok.2.2.1 (x_d S) hd).2.1
  have hcl : (nI (x_d S)).toNatClampNeg = x_d S := nI_clamp (by omega)
  have hin : vp_in (nI (x_d S)) 14 := vp_in_nI (by omega) (by decide)
  have a0 : A 0 = A 0 := rfl
  have a1 : A 1 = A 1 := rfl
  have a9 : A 9 = A 9 := rfl
  have a10 : A 10 = A 10 := rfl
  have a11 : A 11 = A 11 := rfl
  have a12 : A 12 = A 12 := rfl
  have a13 : A 13 = A 13 := rfl
  have a14 : A 14 = A 14 := rfl
  have a15 : A 15 = A 15 := rfl
  have a16 : A 16 = A 16 := rfl
  have a17 : A 17 = A 17 := rfl
  have a18 : A 18 = A 18 := rfl
  have km : mo_K [3, 4, 15, 16, 21, 28, 29, 30] m m := mo_K.rfl
  have kA : mo_K [9, 10, 11, 12, 13, 14, 15, 16, 17, 18] A A := mo_K.rfl
  obtain ⟨cc, hcc⟩ : ∃ cc, t_b n tb (x_a S) = cc := ⟨_, rfl⟩
  have hc6 : cc ≤ 256 := hcc ▸ m_tle hT _
  refine q_aload_n d_Mo_step_0 rfl rfl ?_
  refine q_aload_n d_Mo_step_1 rfl rfl ?_
  refine q_get d_Mo_step_2 f_Mo_123 hA.1 rfl ?_
  rw [v15]
  refine x_callV d_Mo_step_5 l_Mo_126 i_Mo_byteAt v_Mo_byteAt rfl hA.1 (c_Mo_byteAt hG hA hR.1.1 hT.1 hR.1.2.1 hT.2 (show x_a S < 2 ^ 31 by omega)) rfl rfl (Nat.le_of_ble_eq_true rfl) (Nat.le_of_ble_eq_true rfl) (Nat.le_of_ble_eq_true rfl) (Nat.le_of_ble_eq_true rfl) ?_
  rw [hcc]
  refine q_istore_n d_Mo_step_8 rfl (by decide) rfl ?_
  refine q_iload_n d_Mo_step_9 rfl ?_
  refine q_bipush (v := 40) d_Mo_step_10 (by decide) ?_
  refine q_icmp_ne (tgt := 61) d_Mo_step_12 (by decide) (fun b12 => ?_) (fun b12 => ?_)
  · skip
    have q : ¬ cc = 40 := fun q => b12 ((b_v_eq (k := 40) hc6 (by decide)).mpr q)
    refine q_iload_n d_Mo_step_61 rfl ?_
    refine q_bipush (v := 41) d_Mo_step_62 (by decide) ?_
    refine q_icmp_ne (tgt := 144) d_Mo_step_64 (by decide) (fun b64 => ?_) (fun b64 => ?_)
    · skip
      have q3 : ¬ cc = 41 := fun q => b64 ((b_v_eq (k := 41) hc6 (by decide)).mpr q)
      exact l_st_144 hG hT hA hR hok hk0 hz0 hnv hz5 ha hcc q (by omega)
    · skip
      have q3 : cc = 41 := (b_v_eq (k := 41) hc6 (by decide)).mp b64
      refine q_aload_n d_Mo_step_67 rfl rfl ?_
      refine q_get d_Mo_step_68 f_Mo_117 hA.1 rfl ?_
      rw [v21]
      refine q_if_le (tgt := 144) d_Mo_step_71 (by decide) (fun b71 => ?_) (fun b71 => ?_)
      · skip
        have q4 : x_d S ≤ 0 := (nI_leI (b := 0) (by omega) (by decide)).mp b71
        exact l_st_144 hG hT hA hR hok hk0 hz0 hnv hz5 ha hcc q (by omega)
      · skip
        have q4 : ¬ x_d S = 0 := fun q => b71 (by rw [q]; decide)
        refine q_aload_n d_Mo_step_74 rfl rfl ?_
        refine x_callVm d_Mo_step_75 l_Mo_159 i_Mo_endRow v_Mo_endRow rfl hA.1 (c_Mo_endRow hG hA v21 (by omega)) rfl rfl (Nat.le_of_ble_eq_true rfl) (Nat.le_of_ble_eq_true rfl) (Nat.le_of_ble_eq_true rfl) (Nat.le_of_ble_eq_true rfl) (fun m A hp1 hA hz => ?_)
        obtain ⟨w13, w14, w15, nm, nA⟩ := hz
        rw [a13, a16, g13, g16, m_or1 p1 p2] at w13
        rw [a14, a17, g14, g17, tb_or] at w14
        rw [a15, a18, g15, g18, tb_or] at w15
        have v2 := (nm 2 (by decide)).trans v2
        have v3 := (nm 3 (by decide)).trans v3
        have v4 := (nm 4 (by decide)).trans v4
        have v5 := (nm 5 (by decide)).trans v5
        have v15 := (nm 15 (by decide)).trans v15
        have v16 := (nm 16 (by decide)).trans v16
        have v21 := (nm 21 (by decide)).trans v21
        have a0 := (nA 0 (by decide)).trans a0
        have a1 := (nA 1 (by decide)).trans a1
        have a9 := (nA 9 (by decide)).trans a9
        have a10 := (nA 10 (by decide)).trans a10
        have a11 := (nA 11 (by decide)).trans a11
        have a12 := (nA 12 (by decide)).trans a12
        have a16 := (nA 16 (by decide)).trans a16
        have a17 := (nA 17 (by decide)).trans a17
        have a18 := (nA 18 (by decide)).trans a18
        have km := km.sub nm (by decide)
        have kA := kA.sub nA (by decide)
        have a13 := w13
        have a14 := w14
        have a15 := w15
        refine q_aload_n d_Mo_step_78 rfl rfl ?_
        refine q_aload_n d_Mo_step_79 rfl rfl ?_
        refine q_get d_Mo_step_80 f_Mo_53 hA.1 rfl ?_
        refine q_aload_n d_Mo_step_83 rfl rfl ?_
        refine q_get d_Mo_step_84 f_Mo_117 hA.1 rfl ?_
        rw [v21]
        refine q_zald d_Mo_step_87 hA.a13 rfl (by assumption) ?_
        rw [a13]
        rw [hcl, m_upd]
        refine x_put d_Mo_step_88 f_Mo_130 hA.1 (Nat.le_of_ble_eq_true rfl) (q_Bn (m_qB (Nat.or_lt_two_pow (n := 1) p1 p2))) (q_Bf (m_qB (Nat.or_lt_two_pow (n := 1) p1 p2))) (fun hp2 e2 _ => ?_)
        obtain ⟨m, hA, v28, nn⟩ := hA.put (k := 28) (by decide) e2
        have v2 := (nn 2 (by decide)).trans v2
        have v3 := (nn 3 (by decide)).trans v3
        have v4 := (nn 4 (by decide)).trans v4
        have v5 := (nn 5 (by decide)).trans v5
        have v15 := (nn 15 (by decide)).trans v15
        have v16 := (nn 16 (by decide)).trans v16
        have v21 := (nn 21 (by decide)).trans v21
        have km := km.put nn (by decide)
        refine q_aload_n d_Mo_step_91 rfl rfl ?_
        refine q_aload_n d_Mo_step_92 rfl rfl ?_
        refine q_get d_Mo_step_93 f_Mo_57 hA.1 rfl ?_
        refine q_aload_n d_Mo_step_96 rfl rfl ?_
        refine q_get d_Mo_step_97 f_Mo_117 hA.1 rfl ?_
        rw [v21]
        refine q_iald d_Mo_step_100 hA.a14 rfl (by assumption) ?_
        rw [a14]
        rw [hcl, m_upd]
        refine x_put d_Mo_step_101 f_Mo_136 hA.1 (Nat.le_of_ble_eq_true rfl) rfl rfl (fun hp3 e3 _ => ?_)
        obtain ⟨m, hA, v29, nn⟩ := hA.put (k := 29) (by decide) e3
        have v2 := (nn 2 (by decide)).trans v2
        have v3 := (nn 3 (by decide)).trans v3
        have v4 := (nn 4 (by decide)).trans v4
        have v5 := (nn 5 (by decide)).trans v5
        have v15 := (nn 15 (by decide)).trans v15
        have v16 := (nn 16 (by decide)).trans v16
        have v21 := (nn 21 (by decide)).trans v21
        have v28 := (nn 28 (by decide)).trans v28
        have km := km.put nn (by decide)
        refine q_aload_n d_Mo_step_104 rfl rfl ?_
        refine q_aload_n d_Mo_step_105 rfl rfl ?_
        refine q_get d_Mo_step_106 f_Mo_60 hA.1 rfl ?_
        refine q_aload_n d_Mo_step_109 rfl rfl ?_
        refine q_get d_Mo_step_110 f_Mo_117 hA.1 rfl ?_
        rw [v21]
        refine q_iald d_Mo_step_113 hA.a15 rfl (by assumption) ?_
        rw [a15]
        rw [hcl, m_upd]
        refine x_put d_Mo_step_114 f_Mo_133 hA.1 (Nat.le_of_ble_eq_true rfl) rfl rfl (fun hp4 e4 _ => ?_)
        obtain ⟨m, hA, v30, nn⟩ := hA.put (k := 30) (by decide) e4
        have v2 := (nn 2 (by decide)).trans v2
        have v3 := (nn 3 (by decide)).trans v3
        have v4 := (nn 4 (by decide)).trans v4
        have v5 := (nn 5 (by decide)).trans v5
        have v15 := (nn 15 (by decide)).trans v15
        have v16 := (nn 16 (by decide)).trans v16
        have v21 := (nn 21 (by decide)).trans v21
        have v28 := (nn 28 (by decide)).trans v28
        have v29 := (nn 29 (by decide)).trans v29
        have km := km.put nn (by decide)
        refine q_aload_n d_Mo_step_117 rfl rfl ?_
        refine q_dup d_Mo_step_118 rfl ?_
        refine q_get d_Mo_step_119 f_Mo_117 hA.1 rfl ?_
        rw [v21]
        refine q_iconst (v := 1) d_Mo_step_122 (by decide) ?_
        refine q_isub d_Mo_step_123 ?_
        refine x_put d_Mo_step_124 f_Mo_117 hA.1 (Nat.le_of_ble_eq_true rfl) rfl rfl (fun hp5 e5 _ => ?_)
        obtain ⟨m, hA, v21, nn⟩ := hA.put (k := 21) (by decide) e5
        rw [show x_d S = x_d S - 1 + 1 by omega, nI_pred] at v21
        have v2 := (nn 2 (by decide)).trans v2
        have v3 := (nn 3 (by decide)).trans v3
        have v4 := (nn 4 (by decide)).trans v4
        have v5 := (nn 5 (by decide)).trans v5
        have v15 := (nn 15 (by decide)).trans v15
        have v16 := (nn 16 (by decide)).trans v16
        have v28 := (nn 28 (by decide)).trans v28
        have v29 := (nn 29 (by decide)).trans v29
        have v30 := (nn 30 (by decide)).trans v30
        have km := km.put nn (by decide)
        refine q_aload_n d_Mo_step_127 rfl rfl ?_
        refine q_dup d_Mo_step_128 rfl ?_
        refine q_get d_Mo_step_129 f_Mo_123 hA.1 rfl ?_
        rw [v15]
        refine q_iconst (v := 1) d_Mo_step_132 (by decide) ?_
        refine q_iadd d_Mo_step_133 ?_
        refine x_put d_Mo_step_134 f_Mo_123 hA.1 (Nat.le_of_ble_eq_true rfl) rfl rfl (fun hp6 e6 _ => ?_)
        obtain ⟨m, hA, v15, nn⟩ := hA.put (k := 15) (by decide) e6
        rw [nI_1] at v15
        have v2 := (nn 2 (by decide)).trans v2
        have v3 := (nn 3 (by decide)).trans v3
        have v4 := (nn 4 (by decide)).trans v4
        have v5 := (nn 5 (by decide)).trans v5
        have v16 := (nn 16 (by decide)).trans v16
        have v21 := (nn 21 (by decide)).trans v21
        have v28 := (nn 28 (by decide)).trans v28
        have v29 := (nn 29 (by decide)).trans v29
        have v30 := (nn 30 (by decide)).trans v30
        have km := km.put nn (by decide)
        have hRc : R_M n tb nv z (x_cl S) m A := ⟨hR.of v2 v5 a0 a1, v3, v4, v15, v21, hR.2.2.2.2.2.1.cut (fun i hi => va_up_ne _ _ (by show i ≠ x_d S; omega)) (by omega) a13 a14 a15, hR.2.2.2.2.2.2.1.keep (Nat.sub_le _ _) (fun i hi => va_up_ne _ _ (by have : i ≤ x_d S - 1 := hi; show i ≠ x_d S; omega)) a16 a17 a18, hR.2.2.2.2.2.2.2.of v16 a9 a10 a11 a12⟩
        have htg : x_tg (x_cl S) (some (x_d S)) = p_or (x_ch S (x_d S)) (x_rw S (x_d S)) := va_up_self _ _ _
        refine q_aload_n d_Mo_step_137 rfl rfl ?_
        refine x_callVm d_Mo_step_138 l_Mo_146 i_Mo_take v_Mo_take rfl hA.1 (c_Mo_take hG hT (o := some (x_d S)) (fun i hi => by cases hi; exact hok.1) hA hRc (hok.cl ha) (fun i hi => by cases hi; show x_d S - 1 < x_d S; omega) (by rw [htg]; exact v28) (by rw [htg]; exact v29) (by rw [htg]; exact v30)) rfl rfl (Nat.le_of_ble_eq_true rfl) (Nat.le_of_ble_eq_true rfl) (Nat.le_of_ble_eq_true rfl) (Nat.le_of_ble_eq_true rfl) (fun m A hp7 hA hz => ?_)
        obtain ⟨hX0, nm, nA⟩ := hz
        have v2 := (nm 2 (by decide)).trans v2
        have v3 := (nm 3 (by decide)).trans v3
        have v4 := (nm 4 (by decide)).trans v4
        have v5 := (nm 5 (by decide)).trans v5
        have v16 := (nm 16 (by decide)).trans v16
        have v21 := (nm 21 (by decide)).trans v21
        have v29 := (nm 29 (by decide)).trans v29
        have v30 := (nm 30 (by decide)).trans v30
        have a0 := (nA 0 (by decide)).trans a0
        have a1 := (nA 1 (by decide)).trans a1
        have a10 := (nA 10 (by decide)).trans a10
        have a11 := (nA 11 (by decide)).trans a11
        have a12 := (nA 12 (by decide)).trans a12
        have a13 := (nA 13 (by decide)).trans a13
        have a14 := (nA 14 (by decide)).trans a14
        have a15 := (nA 15 (by decide)).trans a15
        have km := km.sub nm (by decide)
        have kA := kA.sub nA (by decide)
        have hX : R_M n tb nv z (x_rn n tb nv z S) m A := by
          rw [x_rn_41 (by omega)]
          unfold x_ct
          rw [if_neg (by omega)]
          exact hX0
        refine q_goto (tgt := 219) d_Mo_step_141 (by decide) ?_
        refine q_vret d_Mo_step_219 rfl ?_ (Nat.le_of_ble_eq_true rfl) (Nat.le_of_ble_eq_true rfl) (by decide)
        exact ⟨(m, A, _), rfl, rfl, hA, hX, km, kA⟩
  · skip
    have q : cc = 40 := (b_v_eq (k := 40) hc6 (by decide)).mp b12
    refine q_aload_n d_Mo_step_15 rfl rfl ?_
    refine q_get d_Mo_step_16 f_Mo_117 hA.1 rfl ?_
    rw [v21]
    refine q_bipush (v := 12) d_Mo_step_19 (by decide) ?_
    refine q_icmp_ne (tgt := 34) d_Mo_step_21 (by decide) (fun b21 => ?_) (fun b21 => ?_)
    · skip
      have q2 : ¬ x_d S = 12 := fun q => b21 (by rw [q]; rfl)
      refine q_aload_n d_Mo_step_34 rfl rfl ?_
      refine q_dup d_Mo_step_35 rfl ?_
      refine q_get d_Mo_step_36 f_Mo_117 hA.1 rfl ?_
      rw [v21]
      refine q_iconst (v := 1) d_Mo_step_39 (by decide) ?_
      refine q_iadd d_Mo_step_40 ?_
      refine x_put d_Mo_step_41 f_Mo_117 hA.1 (Nat.le_of_ble_eq_true rfl) rfl rfl (fun hp8 e8 _ => ?_)
      obtain ⟨m, hA, v21, nn⟩ := hA.put (k := 21) (by decide) e8
      rw [nI_1] at v21
      have v2 := (nn 2 (by decide)).trans v2
      have v3 := (nn 3 (by decide)).trans v3
      have v4 := (nn 4 (by decide)).trans v4
      have v5 := (nn 5 (by decide)).trans v5
      have v15 := (nn 15 (by decide)).trans v15
      have v16 := (nn 16 (by decide)).trans v16
      have km := km.put nn (by decide)
      refine q_aload_n d_Mo_step_44 rfl rfl ?_
      refine x_callVm d_Mo_step_45 l_Mo_156 i_Mo_beginChoices v_Mo_beginChoices rfl hA.1 (c_Mo_beginChoices hG hA v21 (by omega)) rfl rfl (Nat.le_of_ble_eq_true rfl) (Nat.le_of_ble_eq_true rfl) (Nat.le_of_ble_eq_true rfl) (Nat.le_of_ble_eq_true rfl) (fun m A hp9 hA hz => ?_)
      obtain ⟨w13, w14, w15, w16, w17, w18, nm, nA⟩ := hz
      rw [a13] at w13
      rw [a14] at w14
      rw [a15] at w15
      rw [a16] at w16
      rw [a17] at w17
      rw [a18] at w18
      have v2 := (nm 2 (by decide)).trans v2
      have v3 := (nm 3 (by decide)).trans v3
      have v4 := (nm 4 (by decide)).trans v4
      have v5 := (nm 5 (by decide)).trans v5
      have v15 := (nm 15 (by decide)).trans v15
      have v16 := (nm 16 (by decide)).trans v16
      have v21 := (nm 21 (by decide)).trans v21
      have a0 := (nA 0 (by decide)).trans a0
      have a1 := (nA 1 (by decide)).trans a1
      have a9 := (nA 9 (by decide)).trans a9
      have a10 := (nA 10 (by decide)).trans a10
      have a11 := (nA 11 (by decide)).trans a11
      have a12 := (nA 12 (by decide)).trans a12
      have km := km.sub nm (by decide)
      have kA := kA.sub nA (by decide)
      have a13 := w13
      have a14 := w14
      have a15 := w15
      have a16 := w16
      have a17 := w17
      have a18 := w18
      refine q_aload_n d_Mo_step_48 rfl rfl ?_
      refine q_dup d_Mo_step_49 rfl ?_
      refine q_get d_Mo_step_50 f_Mo_123 hA.1 rfl ?_
      rw [v15]
      refine q_iconst (v := 1) d_Mo_step_53 (by decide) ?_
      refine q_iadd d_Mo_step_54 ?_
      refine x_put d_Mo_step_55 f_Mo_123 hA.1 (Nat.le_of_ble_eq_true rfl) rfl rfl (fun hp10 e10 _ => ?_)
      obtain ⟨m, hA, v15, nn⟩ := hA.put (k := 15) (by decide) e10
      rw [nI_1] at v15
      have v2 := (nn 2 (by decide)).trans v2
      have v3 := (nn 3 (by decide)).trans v3
      have v4 := (nn 4 (by decide)).trans v4
      have v5 := (nn 5 (by decide)).trans v5
      have v16 := (nn 16 (by decide)).trans v16
      have v21 := (nn 21 (by decide)).trans v21
      have km := km.put nn (by decide)
      have hX : R_M n tb nv z (x_rn n tb nv z S) m A := by
        rw [x_rn_40 (by omega)]
        unfold x_ot
        rw [if_neg (by omega)]
        exact ⟨hR.of v2 v5 a0 a1, v3, v4, v15, v21, R_P.up (d := x_d S + 1) (x := (0, 0, 0)) (fun i hi => hR.2.2.2.2.2.1 i (by omega)) a13 a14 a15, R_P.up (d := x_d S + 1) (x := (1, 0, 0)) (fun i hi => hR.2.2.2.2.2.2.1 i (by omega)) a16 a17 a18, hR.2.2.2.2.2.2.2.of v16 a9 a10 a11 a12⟩
      refine q_goto (tgt := 219) d_Mo_step_58 (by decide) ?_
      refine q_vret d_Mo_step_219 rfl ?_ (Nat.le_of_ble_eq_true rfl) (Nat.le_of_ble_eq_true rfl) (by decide)
      exact ⟨(m, A, _), rfl, rfl, hA, hX, km, kA⟩
    · skip
      have q2 : x_d S = 12 := (nI_eq (b := 12) (by omega) (by decide)).mp b21
      refine q_aload_n d_Mo_step_24 rfl rfl ?_
      refine q_iconst (v := 3) d_Mo_step_25 (by decide) ?_
      refine q_aload_n d_Mo_step_26 rfl rfl ?_
      refine q_get d_Mo_step_27 f_Mo_123 hA.1 rfl ?_
      rw [v15]
      refine x_callVm d_Mo_step_30 l_Mo_149 i_Mo_fail v_Mo_fail rfl hA.1 (c_Mo_fail hG hA (by rw [v3, hk0]; rfl)) rfl rfl (Nat.le_of_ble_eq_true rfl) (Nat.le_of_ble_eq_true rfl) (Nat.le_of_ble_eq_true rfl) (Nat.le_of_ble_eq_true rfl) (fun m A hp11 hA hz => ?_)
      obtain ⟨w3, w4, nm, nA⟩ := hz
      have v2 := (nm 2 (by decide)).trans v2
      have v5 := (nm 5 (by decide)).trans v5
      have v15 := (nm 15 (by decide)).trans v15
      have v16 := (nm 16 (by decide)).trans v16
      have v21 := (nm 21 (by decide)).trans v21
      have a0 := (nA 0 (by decide)).trans a0
      have a1 := (nA 1 (by decide)).trans a1
      have a9 := (nA 9 (by decide)).trans a9
      have a10 := (nA 10 (by decide)).trans a10
      have a11 := (nA 11 (by decide)).trans a11
      have a12 := (nA 12 (by decide)).trans a12
      have a13 := (nA 13 (by decide)).trans a13
      have a14 := (nA 14 (by decide)).trans a14
      have a15 := (nA 15 (by decide)).trans a15
      have a16 := (nA 16 (by decide)).trans a16
      have a17 := (nA 17 (by decide)).trans a17
      have a18 := (nA 18 (by decide)).trans a18
      have km := km.sub nm (by decide)
      have kA := kA.sub nA (by decide)
      refine q_vret d_Mo_step_33 rfl ?_ (Nat.le_of_ble_eq_true rfl) (Nat.le_of_ble_eq_true rfl) (by decide)
      refine ⟨(m, A, _), rfl, rfl, hA, ?_, km, kA⟩
      rw [x_rn_40 (by omega)]
      unfold x_ot
      rw [if_pos (by omega)]
      exact hR.mf w3 w4 nm nA
end M5
