/-! the law: place, value, move -/
section W6
variable {g : q_G}
theorem m_c_mono {w : w_T} {pl vl : Nat → Nat} {q j : Nat} : ∀ k, m_c w pl vl q j ≤ m_c w pl vl q (j + k) := by
  intro k
  induction k with
  | zero => exact Nat.le_refl _
  | succ k ih => exact Nat.le_trans ih (Nat.le_add_right _ _)
theorem m_c_lt {w : w_T} {pl vl : Nat → Nat} {q j : Nat} (h1 : 1 ≤ j) (hj : j < 13) (hc : w_can w pl vl q j = true) : m_c w pl vl q j < m_c w pl vl q 13 := by
  have a := m_c_mono (w := w) (pl := pl) (vl := vl) (q := q) (j := j + 1) (13 - (j + 1))
  rw [show j + 1 + (13 - (j + 1)) = 13 by omega] at a
  have b : m_c w pl vl q (j + 1) = m_c w pl vl q j + 1 := by
    show m_c w pl vl q j + (if 1 ≤ j ∧ _ then 1 else 0) = _
    rw [if_pos ⟨h1, hc⟩]
  omega
/-- the same step on both sides -/
theorem mv_tie {w : w_T} {pl vl : Nat → Nat} {k q1 j1 q2 j2 : Nat} (hmk : w_mk w) (hs : s_ok w pl vl) (a1 : q1 < w_p w) (a2 : w_mv w pl vl q1 ≤ k) (a3 : k < w_mv w pl vl (q1 + 1)) (a4 : 1 ≤ j1 ∧ j1 < c_n (w_c w q1)) (a5 : w_can w pl vl q1 j1 = true) (a6 : pb_cnt j1 (w_op w pl vl q1 (c_n (w_c w q1) - 1)) = k - w_mv w pl vl q1)
    (b1 : q2 < w_p w) (b2 : 1 ≤ j2 ∧ j2 < 13) (b3 : w_can w pl vl q2 j2 = true) (b4 : w_mv w pl vl q2 + m_c w pl vl q2 j2 = k) : q1 = q2 ∧ j1 = j2 := by
  have h13 : ∀ q, q < w_p w → pl q < 13 := fun q hq => hs.2.1 q (Nat.lt_of_lt_of_le hq hmk.1.2.1)
  have c1 := m_c_13 (vl := vl) (hmk.2.2.1 q2 b1) (h13 q2 b1)
  have c2 := m_c_lt b2.1 b2.2 b3
  have e : q1 = q2 := mv_uniq a2 a3 (by omega) (by omega)
  subst e
  refine ⟨rfl, ?_⟩
  have c3 := can_lt (hmk.2.2.1 q1 a1) (h13 q1 a1) b3
  rw [m_c_op (hmk.2.2.1 q1 a1) (h13 q1 a1)] at b4
  refine pb_uniq (x := w_op w pl vl q1 (c_n (w_c w q1) - 1)) ?_ ?_ (by omega)
  · rw [w_op_bit, a5]
    simp
    omega
  · rw [w_op_bit, b3]
    simp
    omega
theorem N_M.move {w : w_T} {cp cv : Nat → Nat} {A A' : Nat → Nat → Int32} {q j y : Nat} (hmk : w_mk w) (h : N_M cp cv A) (hq : q < w_p w) (hj : 1 ≤ j ∧ j < c_n (w_c w q)) (hy : w_oc w cv q j = some y) (hg : G_P w cv q j (A 19) (A' 19)) : N_M (va_up cp q j) (va_up cv (c_v (w_c w q) j) y) A' := by
  have h6 := hmk.1.2.1
  have hc := hmk.1.2.2.2 q (by omega)
  have hv5 := (hc.2.2.2 j (by have := hc.2.1; omega)).2.2.1
  refine ⟨fun q' hq' => ?_, fun v hv => ?_⟩
  · by_cases e : q' = q
    · subst e
      rw [va_up_self]
      exact hg.2.1
    · rw [va_up_ne _ _ e, hg.1 q' (by omega) e (by omega)]
      exact h.1 q' hq'
  · by_cases e : v = c_v (w_c w q) j
    · subst e
      rw [va_up_self]
      by_cases hn : c_v (w_c w q) j < w_n w
      · rw [hg.2.2.1 hn, hy]
        rfl
      · rw [hg.2.2.2 hn, h.2 _ hv]
        rcases hmk.2.1 q hq j hj.1 hj.2 with r | r
        · exact absurd r.2.1 hn
        · have := w_oc_k (vl := cv) r.1
          rw [hy] at this
          rw [Option.some.inj this]
    · rw [va_up_ne _ _ e, hg.1 (6 + v) (by omega) (by omega) (by omega)]
      exact h.2 v hv
theorem P_P.move {w : w_T} {S : x_S} {cp cv : Nat → Nat} {q j y : Nat} (h : P_P w S cp cv) (hq : q < w_p w) (hj : 1 ≤ j ∧ j < c_n (w_c w q)) (hc : w_can w cp cv q j = true) (hy : w_oc w cv q j = some y) : P_P w S (va_up cp q j) (va_up cv (c_v (w_c w q) j) y) := by
  refine ⟨h.1, h.2.1, nx_ok h.1.1 h.1.fz h.2.2.1 hq hj.1 hj.2 hy, ?_⟩
  refine rr_step h.2.2.2 ⟨s_lt h.2.2.1, (sc_iff h.1.1 h.2.2.1).mpr ⟨q, j, y, hq, hj.1, hj.2, ?_, hy, rfl⟩⟩
  unfold w_can at hc
  simp only [Bool.and_eq_true] at hc
  exact hc.1
set_option maxRecDepth 10000 in
set_option maxHeartbeats 2000000 in
theorem law_place (hG : q_GG g) {P : Outcome → List va_E → Prop} {j c s : Nat} {hp : List va_E} {z5 z6 : Option Value} (hno : (q_s g).vm.assignable ((q_D g).1 11) ((q_D g).1 12) = false) (hj : j + 4 ≤ (q_x g).2.1) (hL : (q_x g).2.1 ≤ 2048) (hJ : J_L g P (nI j) c s) (hc : c + 1 ≤ 601024) (hs : s + 6 ≤ 7293034) (hI : I_L hp) : q_J g m_La_law true rmL P 468 (lsL (nI j) z5 z6) [] hp c s true := by
  obtain ⟨n, tb, w, S, cp, cv, gone, ⟨f, B, hT, ht, hz⟩, hP, ⟨m, A, hA, hR⟩, hO⟩ := hI
  have hmk := hP.1
  obtain ⟨x, hx1⟩ : ∃ x, (q_x g).2.2 (j + 1) = x := ⟨_, rfl⟩
  obtain ⟨y, hx2⟩ : ∃ y, (q_x g).2.2 (j + 2) = y := ⟨_, rfl⟩
  by_cases hN : w_q w ≤ 30000
  · obtain ⟨sn, hsn⟩ := sn_ex w
    by_cases hb : x < 0 ∨ nI (cn (f_F w sn) (w_q w)) ≤ x ∨ m_np y (w_p w)
    · skip
      refine q_aload_n d_La_law_468 rfl rfl ?_
      refine q_aload_n d_La_law_469 rfl rfl ?_
      refine q_iload d_La_law_470 rfl ?_
      refine q_iconst (v := 1) d_La_law_472 (by decide) ?_
      refine q_iadd d_La_law_473 ?_
      rw [nI_1]
      refine q_sald d_La_law_474 (sc_in hj hL (by decide)) ?_
      rw [nI_clamp (by omega), hx1]
      refine q_aload_n d_La_law_475 rfl rfl ?_
      refine q_iload d_La_law_476 rfl ?_
      refine q_iconst (v := 2) d_La_law_478 (by decide) ?_
      refine q_iadd d_La_law_479 ?_
      rw [show (2 : Int32) = nI 2 from rfl, nI_add]
      refine q_sald d_La_law_480 (sc_in hj hL (by decide)) ?_
      rw [nI_clamp (by omega), hx2]
      refine q_aload_n d_La_law_481 rfl rfl ?_
      refine x_her d_La_law_482 l_La_101 s_La_place (h_place_e2 hG hno (c_S_placeB hG hT hmk.1 hmk.fz hN hz (fun R St o hk => by rw [(sk_tie hmk hN hk hsn).2.1]; exact hb)) ⟨_, hT.1⟩ (show _ + 1 ≤ 8 by decide) (by decide) (by decide) (by decide)) rfl rfl (Nat.le_of_ble_eq_true rfl) (Nat.le_of_ble_eq_true rfl) hc hs (fun z hpA hz1 eA => ?_)
      have hF := hz1.2.2.2.2.2
      have hC1 : C_P n tb w S cp cv gone z.2 := ⟨f, z.1, hz1.1, ht, hz1.2.2.1⟩
      have hO1 : O_P z.2 := hO.keep (hF.2 110 (by omega))
      have hfr : ∀ i, 84 ≤ i → z.2[i]? = hp[i]? := fun i hi => hF.2 i (by omega)
      have hq := app_110 eA hO1
      have hA1 : M_A hpA m A hpA := hA.move (fun i a b => (hq i (by omega)).trans (hfr i (by omega)))
      have hOA : O_P hpA := hO1.keep (hq 110 (by omega))
      have hCA := hC1.keep (fun i hi => hq i (by omega))
      refine q_istore d_La_law_485 (by decide) rfl ?_
      refine q_aload_n d_La_law_487 rfl rfl ?_
      refine q_aload_n d_La_law_488 rfl rfl ?_
      refine q_iload d_La_law_489 rfl ?_
      refine q_iconst (v := 1) d_La_law_491 (by decide) ?_
      refine q_iadd d_La_law_492 ?_
      rw [nI_1]
      refine q_sald d_La_law_493 (sc_in hj hL (by decide)) ?_
      rw [nI_clamp (by omega), hx1]
      refine q_aload_n d_La_law_494 rfl rfl ?_
      refine q_iload d_La_law_495 rfl ?_
      refine q_iconst (v := 2) d_La_law_497 (by decide) ?_
      refine q_iadd d_La_law_498 ?_
      rw [show (2 : Int32) = nI 2 from rfl, nI_add]
      refine q_sald d_La_law_499 (sc_in hj hL (by decide)) ?_
      rw [nI_clamp (by omega), hx2]
      refine x_callVm d_La_law_500 l_La_103 i_Mo_place v_Mo_place rfl hA1.1 (c_Mo_placeB hG hA1 hmk hR.2.2.2.2.1 hN (w_0_lt hmk.1) hR.2.2.2.2.2.2.2 (fun sn2 h2 => by rw [sn_eq hsn h2]; exact hb)) rfl rfl (Nat.le_of_ble_eq_true rfl) (Nat.le_of_ble_eq_true rfl) (show c + 1 + 0 ≤ 601024 by omega) (show s + 6 + 0 ≤ 7293034 by omega) (fun m2 A2 hp2 hA2 hz2 => ?_)
      obtain ⟨v0, h37, hK, km, kA⟩ := hz2
      refine q_istore d_La_law_503 (by decide) rfl ?_
      refine q_aload_n d_La_law_505 rfl rfl ?_
      refine x_callV d_La_law_506 l_La_58 i_Mo_thrown v_Mo_thrown rfl hA2.1 (c_Mo_thrown hG hA2 v0) rfl rfl (Nat.le_of_ble_eq_true rfl) (Nat.le_of_ble_eq_true rfl) (show c + 1 + 0 + 0 ≤ 601024 by omega) (show s + 6 + 0 + 0 ≤ 7293034 by omega) ?_
      refine q_iload d_La_law_509 rfl ?_
      refine q_icmp_eq (tgt := 516) d_La_law_511 (by decide) (fun b511 => ?_) (fun b511 => ?_)
      · skip
        refine q_iload d_La_law_516 rfl ?_
        refine q_if_ne (tgt := 533) d_La_law_518 (by decide) (fun b518 => ?_) (fun b518 => ?_)
        · skip
          refine q_goto (tgt := 849) d_La_law_533 (by decide) ?_
          refine q_more (show c + 1 + 0 + 0 ≤ c + 1 by omega) (show s + 6 + 0 + 0 ≤ s + 6 by omega) (hJ _ _ _ ?_)
          exact I_L.fin hCA hP hA2 (hR.know h37 hK km kA) hOA
        · skip
          exact absurd b518 (by decide)
      · skip
        exact absurd rfl b511
    · obtain ⟨k, hkN, rfl⟩ := m_np_of (x := x) (k := cn (f_F w sn) (w_q w)) (fun h => hb (h.elim Or.inl (fun h => Or.inr (Or.inl h)))) (by have := cn_le (f_F w sn) (w_q w); omega)
      obtain ⟨i, hi, rfl⟩ := m_np_of (x := y) (k := w_p w) (fun h => hb (Or.inr (Or.inr h))) (by have := hmk.1.2.1; omega)
      refine q_aload_n d_La_law_468 rfl rfl ?_
      refine q_aload_n d_La_law_469 rfl rfl ?_
      refine q_iload d_La_law_470 rfl ?_
      refine q_iconst (v := 1) d_La_law_472 (by decide) ?_
      refine q_iadd d_La_law_473 ?_
      rw [nI_1]
      refine q_sald d_La_law_474 (sc_in hj hL (by decide)) ?_
      rw [nI_clamp (by omega), hx1]
      refine q_aload_n d_La_law_475 rfl rfl ?_
      refine q_iload d_La_law_476 rfl ?_
      refine q_iconst (v := 2) d_La_law_478 (by decide) ?_
      refine q_iadd d_La_law_479 ?_
      rw [show (2 : Int32) = nI 2 from rfl, nI_add]
      refine q_sald d_La_law_480 (sc_in hj hL (by decide)) ?_
      rw [nI_clamp (by omega), hx2]
      refine q_aload_n d_La_law_481 rfl rfl ?_
      refine x_hok d_La_law_482 l_La_101 s_La_place (h_place_ok hG (Z := Nat × z_S × List va_E) (v := fun z => nI (w_dp w z.1 i)) (c_S_place hG hT hmk.1 hmk.fz hN hz (fun R St o hk => by rw [(sk_tie hmk hN hk hsn).2.1]; exact hkN) hi) (fun z hz1 => hO.keep (hz1.2.2.2.2.2 110 (by omega))) ⟨_, hT.1⟩ (show _ + 1 ≤ 8 by decide) (by decide) (by decide) (by decide)) rfl rfl (Nat.le_of_ble_eq_true rfl) (Nat.le_of_ble_eq_true rfl) hc hs (fun z fo hpA hz1 hfo eA => ?_)
      have hF := hz1.2.2.2.2
      have hC1 : C_P n tb w S cp cv gone z.2.2 := ⟨f, z.2.1, hz1.1, ht, hz1.2.1⟩
      have hO1 : O_P z.2.2 := hO.keep (hF.2 110 (by omega))
      have hfr : ∀ i, 84 ≤ i → z.2.2[i]? = hp[i]? := fun i hi => hF.2 i (by omega)
      have hq := set_110 eA hO1
      have hA1 : M_A hpA m A hpA := hA.move (fun i a b => (hq.1 i (by omega)).trans (hfr i (by omega)))
      have hOA : O_P hpA := ⟨fo, hq.2⟩
      have hCA := hC1.keep (fun i hi => hq.1 i (by omega))
      refine q_istore d_La_law_485 (by decide) rfl ?_
      refine q_aload_n d_La_law_487 rfl rfl ?_
      refine q_aload_n d_La_law_488 rfl rfl ?_
      refine q_iload d_La_law_489 rfl ?_
      refine q_iconst (v := 1) d_La_law_491 (by decide) ?_
      refine q_iadd d_La_law_492 ?_
      rw [nI_1]
      refine q_sald d_La_law_493 (sc_in hj hL (by decide)) ?_
      rw [nI_clamp (by omega), hx1]
      refine q_aload_n d_La_law_494 rfl rfl ?_
      refine q_iload d_La_law_495 rfl ?_
      refine q_iconst (v := 2) d_La_law_497 (by decide) ?_
      refine q_iadd d_La_law_498 ?_
      rw [show (2 : Int32) = nI 2 from rfl, nI_add]
      refine q_sald d_La_law_499 (sc_in hj hL (by decide)) ?_
      rw [nI_clamp (by omega), hx2]
      refine x_callVr d_La_law_500 l_La_103 i_Mo_place v_Mo_place rfl hA1.1 (c_Mo_place hG hA1 hmk hR.2.2.2.2.1 hN (w_0_lt hmk.1) hR.2.2.2.2.2.2.2 (fun sn2 h2 => by rw [sn_eq hsn h2]; exact hkN) (by have := cn_le (f_F w sn) (w_q w); omega) hi) rfl rfl (Nat.le_of_ble_eq_true rfl) (Nat.le_of_ble_eq_true rfl) (show c + 1 + 0 ≤ 601024 by omega) (show s + 6 + 0 ≤ 7293034 by omega) (fun z2 hz2 => ?_)
      obtain ⟨x2, m2, A2, hp2⟩ := z2
      obtain ⟨hA2, v0, h37, hK, ⟨sn2, hsn2, e1, e2, e3⟩, km, kA⟩ := hz2
      have hzx : z.1 = x2 := by
        have hk := hz1.2.2.1
        have hn := hz1.2.2.2.1
        have ht1 := (sk_tie hmk hN hk hsn2).1
        refine cn_uniq (M := f_F w sn2) ((ht1 _ hn.1).symm.trans hn.2.1) e2 ?_
        rw [e3, ← hn.2.2]
        exact (cn_eq _ (fun q hq => ht1 q (by omega))).symm
      have h_o : hp2[110]? = some (a_J 1 fo) := (hA2.2.2.2 110 (Or.inr (by omega))).trans hq.2
      refine q_istore d_La_law_503 (by decide) rfl ?_
      refine q_aload_n d_La_law_505 rfl rfl ?_
      refine x_callV d_La_law_506 l_La_58 i_Mo_thrown v_Mo_thrown rfl hA2.1 (c_Mo_thrown hG hA2 v0) rfl rfl (Nat.le_of_ble_eq_true rfl) (Nat.le_of_ble_eq_true rfl) (show c + 1 + 0 + 0 ≤ 601024 by omega) (show s + 6 + 0 + 0 ≤ 7293034 by omega) ?_
      refine q_iload d_La_law_509 rfl ?_
      refine q_icmp_eq (tgt := 516) d_La_law_511 (by decide) (fun b511 => ?_) (fun b511 => ?_)
      · skip
        refine q_iload d_La_law_516 rfl ?_
        refine q_if_ne (tgt := 533) d_La_law_518 (by decide) (fun b518 => ?_) (fun b518 => ?_)
        · skip
          exact absurd rfl b518
        · skip
          refine q_aload_n d_La_law_521 rfl rfl ?_
          refine q_iconst (v := 0) d_La_law_522 (by decide) ?_
          refine q_lald d_La_law_523 h_o rfl (vp_in_nI (n := 0) (by decide) (by decide)) ?_
          rw [show (0 : Int32).toNatClampNeg = 0 from rfl, hfo]
          refine q_iload d_La_law_524 rfl ?_
          refine q_i2l d_La_law_526 ?_
          refine q_lcmp d_La_law_527 ?_
          refine q_if_eq (tgt := 533) d_La_law_528 (by decide) (fun b528 => ?_) (fun b528 => ?_)
          · skip
            refine q_goto (tgt := 849) d_La_law_533 (by decide) ?_
            refine q_more (show c + 1 + 0 + 0 ≤ c + 1 by omega) (show s + 6 + 0 + 0 ≤ s + 6 by omega) (hJ _ _ _ ?_)
            exact I_L.fin hCA hP hA2 (hR.know h37 hK km kA) hOA
          · skip
            exact absurd (ss_lg.mpr (congrArg Int32.toInt64 (by show nI (w_dp w z.1 i) = nI (w_dp w x2 i); rw [hzx]))) b528
      · skip
        exact absurd rfl b511
  · skip
    refine q_aload_n d_La_law_468 rfl rfl ?_
    refine q_aload_n d_La_law_469 rfl rfl ?_
    refine q_iload d_La_law_470 rfl ?_
    refine q_iconst (v := 1) d_La_law_472 (by decide) ?_
    refine q_iadd d_La_law_473 ?_
    rw [nI_1]
    refine q_sald d_La_law_474 (sc_in hj hL (by decide)) ?_
    rw [nI_clamp (by omega), hx1]
    refine q_aload_n d_La_law_475 rfl rfl ?_
    refine q_iload d_La_law_476 rfl ?_
    refine q_iconst (v := 2) d_La_law_478 (by decide) ?_
    refine q_iadd d_La_law_479 ?_
    rw [show (2 : Int32) = nI 2 from rfl, nI_add]
    refine q_sald d_La_law_480 (sc_in hj hL (by decide)) ?_
    rw [nI_clamp (by omega), hx2]
    refine q_aload_n d_La_law_481 rfl rfl ?_
    refine x_her d_La_law_482 l_La_101 s_La_place (h_place_e1 hG (q_C.trl (c_S_placeM hG hT hmk.1 hN)) ⟨_, hT.1⟩ (show _ + 1 ≤ 8 by decide) (by decide) (by decide) (by decide)) rfl rfl (Nat.le_of_ble_eq_true rfl) (Nat.le_of_ble_eq_true rfl) hc hs (fun z hpA hz1 eA => ?_)
    have hC1 : C_P n tb w S cp cv gone hp := ⟨f, B, hT, ht, hz⟩
    have hO1 := hO
    have hfr : ∀ i, 84 ≤ i → hp[i]? = hp[i]? := fun _ _ => rfl
    have hq := app_110 eA hO1
    have hA1 : M_A hpA m A hpA := hA.move (fun i a b => (hq i (by omega)).trans (hfr i (by omega)))
    have hOA : O_P hpA := hO1.keep (hq 110 (by omega))
    have hCA := hC1.keep (fun i hi => hq i (by omega))
    refine q_istore d_La_law_485 (by decide) rfl ?_
    refine q_aload_n d_La_law_487 rfl rfl ?_
    refine q_aload_n d_La_law_488 rfl rfl ?_
    refine q_iload d_La_law_489 rfl ?_
    refine q_iconst (v := 1) d_La_law_491 (by decide) ?_
    refine q_iadd d_La_law_492 ?_
    rw [nI_1]
    refine q_sald d_La_law_493 (sc_in hj hL (by decide)) ?_
    rw [nI_clamp (by omega), hx1]
    refine q_aload_n d_La_law_494 rfl rfl ?_
    refine q_iload d_La_law_495 rfl ?_
    refine q_iconst (v := 2) d_La_law_497 (by decide) ?_
    refine q_iadd d_La_law_498 ?_
    rw [show (2 : Int32) = nI 2 from rfl, nI_add]
    refine q_sald d_La_law_499 (sc_in hj hL (by decide)) ?_
    rw [nI_clamp (by omega), hx2]
    refine x_callVm d_La_law_500 l_La_103 i_Mo_place v_Mo_place rfl hA1.1 (c_Mo_placeM hG hA1 hmk hR.2.2.2.2.1 hN) rfl rfl (Nat.le_of_ble_eq_true rfl) (Nat.le_of_ble_eq_true rfl) (show c + 1 + 0 ≤ 601024 by omega) (show s + 6 + 0 ≤ 7293034 by omega) (fun m2 A2 hp2 hA2 hz2 => ?_)
    obtain ⟨v0, km, kA⟩ := hz2
    refine q_istore d_La_law_503 (by decide) rfl ?_
    refine q_aload_n d_La_law_505 rfl rfl ?_
    refine x_callV d_La_law_506 l_La_58 i_Mo_thrown v_Mo_thrown rfl hA2.1 (c_Mo_thrown hG hA2 v0) rfl rfl (Nat.le_of_ble_eq_true rfl) (Nat.le_of_ble_eq_true rfl) (show c + 1 + 0 + 0 ≤ 601024 by omega) (show s + 6 + 0 + 0 ≤ 7293034 by omega) ?_
    refine q_iload d_La_law_509 rfl ?_
    refine q_icmp_eq (tgt := 516) d_La_law_511 (by decide) (fun b511 => ?_) (fun b511 => ?_)
    · skip
      refine q_iload d_La_law_516 rfl ?_
      refine q_if_ne (tgt := 533) d_La_law_518 (by decide) (fun b518 => ?_) (fun b518 => ?_)
      · skip
        refine q_goto (tgt := 849) d_La_law_533 (by decide) ?_
        refine q_more (show c + 1 + 0 + 0 ≤ c + 1 by omega) (show s + 6 + 0 + 0 ≤ s + 6 by omega) (hJ _ _ _ ?_)
        exact I_L.fin hCA hP hA2 (hR.keep km kA (by decide) (by decide)) hOA
      · skip
        exact absurd b518 (by decide)
    · skip
      exact absurd rfl b511
set_option maxRecDepth 10000 in
set_option maxHeartbeats 2000000 in
theorem law_value (hG : q_GG g) {P : Outcome → List va_E → Prop} {j c s : Nat} {hp : List va_E} {z5 z6 : Option Value} (hno : (q_s g).vm.assignable ((q_D g).1 11) ((q_D g).1 12) = false) (hj : j + 4 ≤ (q_x g).2.1) (hL : (q_x g).2.1 ≤ 2048) (hJ : J_L g P (nI j) c s) (hc : c + 1 ≤ 601024) (hs : s + 6 ≤ 7293034) (hI : I_L hp) : q_J g m_La_law true rmL P 536 (lsL (nI j) z5 z6) [] hp c s true := by
  obtain ⟨n, tb, w, S, cp, cv, gone, ⟨f, B, hT, ht, hz⟩, hP, ⟨m, A, hA, hR⟩, hO⟩ := hI
  have hmk := hP.1
  obtain ⟨x, hx1⟩ : ∃ x, (q_x g).2.2 (j + 1) = x := ⟨_, rfl⟩
  obtain ⟨y, hx2⟩ : ∃ y, (q_x g).2.2 (j + 2) = y := ⟨_, rfl⟩
  by_cases hN : w_q w ≤ 30000
  · obtain ⟨sn, hsn⟩ := sn_ex w
    by_cases hb : x < 0 ∨ nI (cn (f_F w sn) (w_q w)) ≤ x ∨ m_np y (w_n w)
    · skip
      refine q_aload_n d_La_law_536 rfl rfl ?_
      refine q_aload_n d_La_law_537 rfl rfl ?_
      refine q_iload d_La_law_538 rfl ?_
      refine q_iconst (v := 1) d_La_law_540 (by decide) ?_
      refine q_iadd d_La_law_541 ?_
      rw [nI_1]
      refine q_sald d_La_law_542 (sc_in hj hL (by decide)) ?_
      rw [nI_clamp (by omega), hx1]
      refine q_aload_n d_La_law_543 rfl rfl ?_
      refine q_iload d_La_law_544 rfl ?_
      refine q_iconst (v := 2) d_La_law_546 (by decide) ?_
      refine q_iadd d_La_law_547 ?_
      rw [show (2 : Int32) = nI 2 from rfl, nI_add]
      refine q_sald d_La_law_548 (sc_in hj hL (by decide)) ?_
      rw [nI_clamp (by omega), hx2]
      refine q_aload_n d_La_law_549 rfl rfl ?_
      refine x_her d_La_law_550 l_La_104 s_La_value (h_value_e2 hG hno (c_S_valueB hG hT hmk.1 hmk.fz hN hz (fun R St o hk => by rw [(sk_tie hmk hN hk hsn).2.1]; exact hb)) ⟨_, hT.1⟩ (show _ + 1 ≤ 8 by decide) (by decide) (by decide) (by decide)) rfl rfl (Nat.le_of_ble_eq_true rfl) (Nat.le_of_ble_eq_true rfl) hc hs (fun z hpA hz1 eA => ?_)
      have hF := hz1.2.2.2.2.2
      have hC1 : C_P n tb w S cp cv gone z.2 := ⟨f, z.1, hz1.1, ht, hz1.2.2.1⟩
      have hO1 : O_P z.2 := hO.keep (hF.2 110 (by omega))
      have hfr : ∀ i, 84 ≤ i → z.2[i]? = hp[i]? := fun i hi => hF.2 i (by omega)
      have hq := app_110 eA hO1
      have hA1 : M_A hpA m A hpA := hA.move (fun i a b => (hq i (by omega)).trans (hfr i (by omega)))
      have hOA : O_P hpA := hO1.keep (hq 110 (by omega))
      have hCA := hC1.keep (fun i hi => hq i (by omega))
      refine q_istore d_La_law_553 (by decide) rfl ?_
      refine q_aload_n d_La_law_555 rfl rfl ?_
      refine q_aload_n d_La_law_556 rfl rfl ?_
      refine q_iload d_La_law_557 rfl ?_
      refine q_iconst (v := 1) d_La_law_559 (by decide) ?_
      refine q_iadd d_La_law_560 ?_
      rw [nI_1]
      refine q_sald d_La_law_561 (sc_in hj hL (by decide)) ?_
      rw [nI_clamp (by omega), hx1]
      refine q_aload_n d_La_law_562 rfl rfl ?_
      refine q_iload d_La_law_563 rfl ?_
      refine q_iconst (v := 2) d_La_law_565 (by decide) ?_
      refine q_iadd d_La_law_566 ?_
      rw [show (2 : Int32) = nI 2 from rfl, nI_add]
      refine q_sald d_La_law_567 (sc_in hj hL (by decide)) ?_
      rw [nI_clamp (by omega), hx2]
      refine x_callVm d_La_law_568 l_La_106 i_Mo_value v_Mo_value rfl hA1.1 (c_Mo_valueB hG hA1 hmk hR.2.2.2.2.1 hN (w_0_lt hmk.1) hR.2.2.2.2.2.2.2 (fun sn2 h2 => by rw [sn_eq hsn h2]; exact hb)) rfl rfl (Nat.le_of_ble_eq_true rfl) (Nat.le_of_ble_eq_true rfl) (show c + 1 + 0 ≤ 601024 by omega) (show s + 6 + 0 ≤ 7293034 by omega) (fun m2 A2 hp2 hA2 hz2 => ?_)
      obtain ⟨v0, h37, hK, km, kA⟩ := hz2
      refine q_istore d_La_law_571 (by decide) rfl ?_
      refine q_aload_n d_La_law_573 rfl rfl ?_
      refine x_callV d_La_law_574 l_La_58 i_Mo_thrown v_Mo_thrown rfl hA2.1 (c_Mo_thrown hG hA2 v0) rfl rfl (Nat.le_of_ble_eq_true rfl) (Nat.le_of_ble_eq_true rfl) (show c + 1 + 0 + 0 ≤ 601024 by omega) (show s + 6 + 0 + 0 ≤ 7293034 by omega) ?_
      refine q_iload d_La_law_577 rfl ?_
      refine q_icmp_eq (tgt := 584) d_La_law_579 (by decide) (fun b579 => ?_) (fun b579 => ?_)
      · skip
        refine q_iload d_La_law_584 rfl ?_
        refine q_if_ne (tgt := 601) d_La_law_586 (by decide) (fun b586 => ?_) (fun b586 => ?_)
        · skip
          refine q_goto (tgt := 849) d_La_law_601 (by decide) ?_
          refine q_more (show c + 1 + 0 + 0 ≤ c + 1 by omega) (show s + 6 + 0 + 0 ≤ s + 6 by omega) (hJ _ _ _ ?_)
          exact I_L.fin hCA hP hA2 (hR.know h37 hK km kA) hOA
        · skip
          exact absurd b586 (by decide)
      · skip
        exact absurd rfl b579
    · obtain ⟨k, hkN, rfl⟩ := m_np_of (x := x) (k := cn (f_F w sn) (w_q w)) (fun h => hb (h.elim Or.inl (fun h => Or.inr (Or.inl h)))) (by have := cn_le (f_F w sn) (w_q w); omega)
      obtain ⟨i, hi, rfl⟩ := m_np_of (x := y) (k := w_n w) (fun h => hb (Or.inr (Or.inr h))) (by have := hmk.1.1; omega)
      refine q_aload_n d_La_law_536 rfl rfl ?_
      refine q_aload_n d_La_law_537 rfl rfl ?_
      refine q_iload d_La_law_538 rfl ?_
      refine q_iconst (v := 1) d_La_law_540 (by decide) ?_
      refine q_iadd d_La_law_541 ?_
      rw [nI_1]
      refine q_sald d_La_law_542 (sc_in hj hL (by decide)) ?_
      rw [nI_clamp (by omega), hx1]
      refine q_aload_n d_La_law_543 rfl rfl ?_
      refine q_iload d_La_law_544 rfl ?_
      refine q_iconst (v := 2) d_La_law_546 (by decide) ?_
      refine q_iadd d_La_law_547 ?_
      rw [show (2 : Int32) = nI 2 from rfl, nI_add]
      refine q_sald d_La_law_548 (sc_in hj hL (by decide)) ?_
      rw [nI_clamp (by omega), hx2]
      refine q_aload_n d_La_law_549 rfl rfl ?_
      refine x_hok d_La_law_550 l_La_104 s_La_value (h_value_ok hG (Z := Nat × z_S × List va_E) (v := fun z => nI (w_dv w z.1 i)) (c_S_value hG hT hmk.1 hmk.fz hN hz (fun R St o hk => by rw [(sk_tie hmk hN hk hsn).2.1]; exact hkN) hi) (fun z hz1 => hO.keep (hz1.2.2.2.2.2 110 (by omega))) ⟨_, hT.1⟩ (show _ + 1 ≤ 8 by decide) (by decide) (by decide) (by decide)) rfl rfl (Nat.le_of_ble_eq_true rfl) (Nat.le_of_ble_eq_true rfl) hc hs (fun z fo hpA hz1 hfo eA => ?_)
      have hF := hz1.2.2.2.2
      have hC1 : C_P n tb w S cp cv gone z.2.2 := ⟨f, z.2.1, hz1.1, ht, hz1.2.1⟩
      have hO1 : O_P z.2.2 := hO.keep (hF.2 110 (by omega))
      have hfr : ∀ i, 84 ≤ i → z.2.2[i]? = hp[i]? := fun i hi => hF.2 i (by omega)
      have hq := set_110 eA hO1
      have hA1 : M_A hpA m A hpA := hA.move (fun i a b => (hq.1 i (by omega)).trans (hfr i (by omega)))
      have hOA : O_P hpA := ⟨fo, hq.2⟩
      have hCA := hC1.keep (fun i hi => hq.1 i (by omega))
      refine q_istore d_La_law_553 (by decide) rfl ?_
      refine q_aload_n d_La_law_555 rfl rfl ?_
      refine q_aload_n d_La_law_556 rfl rfl ?_
      refine q_iload d_La_law_557 rfl ?_
      refine q_iconst (v := 1) d_La_law_559 (by decide) ?_
      refine q_iadd d_La_law_560 ?_
      rw [nI_1]
      refine q_sald d_La_law_561 (sc_in hj hL (by decide)) ?_
      rw [nI_clamp (by omega), hx1]
      refine q_aload_n d_La_law_562 rfl rfl ?_
      refine q_iload d_La_law_563 rfl ?_
      refine q_iconst (v := 2) d_La_law_565 (by decide) ?_
      refine q_iadd d_La_law_566 ?_
      rw [show (2 : Int32) = nI 2 from rfl, nI_add]
      refine q_sald d_La_law_567 (sc_in hj hL (by decide)) ?_
      rw [nI_clamp (by omega), hx2]
      refine x_callVr d_La_law_568 l_La_106 i_Mo_value v_Mo_value rfl hA1.1 (c_Mo_value hG hA1 hmk hR.2.2.2.2.1 hN (w_0_lt hmk.1) hR.2.2.2.2.2.2.2 (fun sn2 h2 => by rw [sn_eq hsn h2]; exact hkN) (by have := cn_le (f_F w sn) (w_q w); omega) hi) rfl rfl (Nat.le_of_ble_eq_true rfl) (Nat.le_of_ble_eq_true rfl) (show c + 1 + 0 ≤ 601024 by omega) (show s + 6 + 0 ≤ 7293034 by omega) (fun z2 hz2 => ?_)
      obtain ⟨x2, m2, A2, hp2⟩ := z2
      obtain ⟨hA2, v0, h37, hK, ⟨sn2, hsn2, e1, e2, e3⟩, km, kA⟩ := hz2
      have hzx : z.1 = x2 := by
        have hk := hz1.2.2.1
        have hn := hz1.2.2.2.1
        have ht1 := (sk_tie hmk hN hk hsn2).1
        refine cn_uniq (M := f_F w sn2) ((ht1 _ hn.1).symm.trans hn.2.1) e2 ?_
        rw [e3, ← hn.2.2]
        exact (cn_eq _ (fun q hq => ht1 q (by omega))).symm
      have h_o : hp2[110]? = some (a_J 1 fo) := (hA2.2.2.2 110 (Or.inr (by omega))).trans hq.2
      refine q_istore d_La_law_571 (by decide) rfl ?_
      refine q_aload_n d_La_law_573 rfl rfl ?_
      refine x_callV d_La_law_574 l_La_58 i_Mo_thrown v_Mo_thrown rfl hA2.1 (c_Mo_thrown hG hA2 v0) rfl rfl (Nat.le_of_ble_eq_true rfl) (Nat.le_of_ble_eq_true rfl) (show c + 1 + 0 + 0 ≤ 601024 by omega) (show s + 6 + 0 + 0 ≤ 7293034 by omega) ?_
      refine q_iload d_La_law_577 rfl ?_
      refine q_icmp_eq (tgt := 584) d_La_law_579 (by decide) (fun b579 => ?_) (fun b579 => ?_)
      · skip
        refine q_iload d_La_law_584 rfl ?_
        refine q_if_ne (tgt := 601) d_La_law_586 (by decide) (fun b586 => ?_) (fun b586 => ?_)
        · skip
          exact absurd rfl b586
        · skip
          refine q_aload_n d_La_law_589 rfl rfl ?_
          refine q_iconst (v := 0) d_La_law_590 (by decide) ?_
          refine q_lald d_La_law_591 h_o rfl (vp_in_nI (n := 0) (by decide) (by decide)) ?_
          rw [show (0 : Int32).toNatClampNeg = 0 from rfl, hfo]
          refine q_iload d_La_law_592 rfl ?_
          refine q_i2l d_La_law_594 ?_
          refine q_lcmp d_La_law_595 ?_
          refine q_if_eq (tgt := 601) d_La_law_596 (by decide) (fun b596 => ?_) (fun b596 => ?_)
          · skip
            refine q_goto (tgt := 849) d_La_law_601 (by decide) ?_
            refine q_more (show c + 1 + 0 + 0 ≤ c + 1 by omega) (show s + 6 + 0 + 0 ≤ s + 6 by omega) (hJ _ _ _ ?_)
            exact I_L.fin hCA hP hA2 (hR.know h37 hK km kA) hOA
          · skip
            exact absurd (ss_lg.mpr (congrArg Int32.toInt64 (by show nI (w_dv w z.1 i) = nI (w_dv w x2 i); rw [hzx]))) b596
      · skip
        exact absurd rfl b579
  · skip
    refine q_aload_n d_La_law_536 rfl rfl ?_
    refine q_aload_n d_La_law_537 rfl rfl ?_
    refine q_iload d_La_law_538 rfl ?_
    refine q_iconst (v := 1) d_La_law_540 (by decide) ?_
    refine q_iadd d_La_law_541 ?_
    rw [nI_1]
    refine q_sald d_La_law_542 (sc_in hj hL (by decide)) ?_
    rw [nI_clamp (by omega), hx1]
    refine q_aload_n d_La_law_543 rfl rfl ?_
    refine q_iload d_La_law_544 rfl ?_
    refine q_iconst (v := 2) d_La_law_546 (by decide) ?_
    refine q_iadd d_La_law_547 ?_
    rw [show (2 : Int32) = nI 2 from rfl, nI_add]
    refine q_sald d_La_law_548 (sc_in hj hL (by decide)) ?_
    rw [nI_clamp (by omega), hx2]
    refine q_aload_n d_La_law_549 rfl rfl ?_
    refine x_her d_La_law_550 l_La_104 s_La_value (h_value_e1 hG (q_C.trl (c_S_valueM hG hT hmk.1 hN)) ⟨_, hT.1⟩ (show _ + 1 ≤ 8 by decide) (by decide) (by decide) (by decide)) rfl rfl (Nat.le_of_ble_eq_true rfl) (Nat.le_of_ble_eq_true rfl) hc hs (fun z hpA hz1 eA => ?_)
    have hC1 : C_P n tb w S cp cv gone hp := ⟨f, B, hT, ht, hz⟩
    have hO1 := hO
    have hfr : ∀ i, 84 ≤ i → hp[i]? = hp[i]? := fun _ _ => rfl
    have hq := app_110 eA hO1
    have hA1 : M_A hpA m A hpA := hA.move (fun i a b => (hq i (by omega)).trans (hfr i (by omega)))
    have hOA : O_P hpA := hO1.keep (hq 110 (by omega))
    have hCA := hC1.keep (fun i hi => hq i (by omega))
    refine q_istore d_La_law_553 (by decide) rfl ?_
    refine q_aload_n d_La_law_555 rfl rfl ?_
    refine q_aload_n d_La_law_556 rfl rfl ?_
    refine q_iload d_La_law_557 rfl ?_
    refine q_iconst (v := 1) d_La_law_559 (by decide) ?_
    refine q_iadd d_La_law_560 ?_
    rw [nI_1]
    refine q_sald d_La_law_561 (sc_in hj hL (by decide)) ?_
    rw [nI_clamp (by omega), hx1]
    refine q_aload_n d_La_law_562 rfl rfl ?_
    refine q_iload d_La_law_563 rfl ?_
    refine q_iconst (v := 2) d_La_law_565 (by decide) ?_
    refine q_iadd d_La_law_566 ?_
    rw [show (2 : Int32) = nI 2 from rfl, nI_add]
    refine q_sald d_La_law_567 (sc_in hj hL (by decide)) ?_
    rw [nI_clamp (by omega), hx2]
    refine x_callVm d_La_law_568 l_La_106 i_Mo_value v_Mo_value rfl hA1.1 (c_Mo_valueM hG hA1 hmk hR.2.2.2.2.1 hN) rfl rfl (Nat.le_of_ble_eq_true rfl) (Nat.le_of_ble_eq_true rfl) (show c + 1 + 0 ≤ 601024 by omega) (show s + 6 + 0 ≤ 7293034 by omega) (fun m2 A2 hp2 hA2 hz2 => ?_)
    obtain ⟨v0, km, kA⟩ := hz2
    refine q_istore d_La_law_571 (by decide) rfl ?_
    refine q_aload_n d_La_law_573 rfl rfl ?_
    refine x_callV d_La_law_574 l_La_58 i_Mo_thrown v_Mo_thrown rfl hA2.1 (c_Mo_thrown hG hA2 v0) rfl rfl (Nat.le_of_ble_eq_true rfl) (Nat.le_of_ble_eq_true rfl) (show c + 1 + 0 + 0 ≤ 601024 by omega) (show s + 6 + 0 + 0 ≤ 7293034 by omega) ?_
    refine q_iload d_La_law_577 rfl ?_
    refine q_icmp_eq (tgt := 584) d_La_law_579 (by decide) (fun b579 => ?_) (fun b579 => ?_)
    · skip
      refine q_iload d_La_law_584 rfl ?_
      refine q_if_ne (tgt := 601) d_La_law_586 (by decide) (fun b586 => ?_) (fun b586 => ?_)
      · skip
        refine q_goto (tgt := 849) d_La_law_601 (by decide) ?_
        refine q_more (show c + 1 + 0 + 0 ≤ c + 1 by omega) (show s + 6 + 0 + 0 ≤ s + 6 by omega) (hJ _ _ _ ?_)
        exact I_L.fin hCA hP hA2 (hR.keep km kA (by decide) (by decide)) hOA
      · skip
        exact absurd b586 (by decide)
    · skip
      exact absurd rfl b579
set_option maxRecDepth 10000 in
set_option maxHeartbeats 2000000 in
theorem law_move (hG : q_GG g) {P : Outcome → List va_E → Prop} {j c s : Nat} {hp : List va_E} {z5 z6 : Option Value} (hj : j + 4 ≤ (q_x g).2.1) (hL : (q_x g).2.1 ≤ 2048) (hJ : J_L g P (nI j) c s) (hc : c + 1 ≤ 601024) (hs : s + 6 ≤ 7293034) (hI : I_L hp) : q_J g m_La_law true rmL P 617 (lsL (nI j) z5 z6) [] hp c s true := by
  obtain ⟨n, tb, w, S, cp, cv, gone, ⟨f, B, hT, ht, hz⟩, hP, ⟨m, A, hA, hR⟩, hO⟩ := hI
  have hmk := hP.1
  obtain ⟨x, hx1⟩ : ∃ x, (q_x g).2.2 (j + 1) = x := ⟨_, rfl⟩
  by_cases hb : x < 0
  · skip
    refine q_aload_n d_La_law_617 rfl rfl ?_
    refine q_aload_n d_La_law_618 rfl rfl ?_
    refine q_iload d_La_law_619 rfl ?_
    refine q_iconst (v := 1) d_La_law_621 (by decide) ?_
    refine q_iadd d_La_law_622 ?_
    rw [nI_1]
    refine q_sald d_La_law_623 (sc_in hj hL (by decide)) ?_
    rw [nI_clamp (by omega), hx1]
    refine q_aload_n d_La_law_624 rfl rfl ?_
    refine x_her d_La_law_625 l_La_111 s_La_move (h_move_e1 hG (q_C.trl (c_S_moveN hG hT hb)) ⟨_, hT.1⟩ (show _ + 1 ≤ 8 by decide) (by decide) (by decide) (by decide)) rfl rfl (Nat.le_of_ble_eq_true rfl) (Nat.le_of_ble_eq_true rfl) hc hs (fun z hpA hz1 eA => ?_)
    have hC1 : C_P n tb w S cp cv gone hp := ⟨f, B, hT, ht, hz⟩
    have hO1 := hO
    have hfr : ∀ i, 84 ≤ i → hp[i]? = hp[i]? := fun _ _ => rfl
    have hq := app_110 eA hO1
    have hA1 : M_A hpA m A hpA := hA.move (fun i a b => (hq i (by omega)).trans (hfr i (by omega)))
    have hOA : O_P hpA := hO1.keep (hq 110 (by omega))
    have hCA := hC1.keep (fun i hi => hq i (by omega))
    refine q_istore d_La_law_628 (by decide) rfl ?_
    refine q_aload_n d_La_law_630 rfl rfl ?_
    refine q_aload_n d_La_law_631 rfl rfl ?_
    refine q_iload d_La_law_632 rfl ?_
    refine q_iconst (v := 1) d_La_law_634 (by decide) ?_
    refine q_iadd d_La_law_635 ?_
    rw [nI_1]
    refine q_sald d_La_law_636 (sc_in hj hL (by decide)) ?_
    rw [nI_clamp (by omega), hx1]
    refine x_callVm d_La_law_637 l_La_114 i_Mo_move v_Mo_move rfl hA1.1 (c_Mo_moveN hG hA1 hb) rfl rfl (Nat.le_of_ble_eq_true rfl) (Nat.le_of_ble_eq_true rfl) (show c + 1 + 0 ≤ 601024 by omega) (show s + 6 + 0 ≤ 7293034 by omega) (fun m2 A2 hp2 hA2 hz2 => ?_)
    obtain ⟨v0, km, kA⟩ := hz2
    refine q_istore d_La_law_640 (by decide) rfl ?_
    refine q_aload_n d_La_law_642 rfl rfl ?_
    refine x_callV d_La_law_643 l_La_58 i_Mo_thrown v_Mo_thrown rfl hA2.1 (c_Mo_thrown hG hA2 v0) rfl rfl (Nat.le_of_ble_eq_true rfl) (Nat.le_of_ble_eq_true rfl) (show c + 1 + 0 + 0 ≤ 601024 by omega) (show s + 6 + 0 + 0 ≤ 7293034 by omega) ?_
    refine q_iload d_La_law_646 rfl ?_
    refine q_icmp_eq (tgt := 653) d_La_law_648 (by decide) (fun b648 => ?_) (fun b648 => ?_)
    · skip
      refine q_iload d_La_law_653 rfl ?_
      refine q_if_ne (tgt := 670) d_La_law_655 (by decide) (fun b655 => ?_) (fun b655 => ?_)
      · skip
        refine q_goto (tgt := 849) d_La_law_670 (by decide) ?_
        refine q_more (show c + 1 + 0 + 0 ≤ c + 1 by omega) (show s + 6 + 0 + 0 ≤ s + 6 by omega) (hJ _ _ _ ?_)
        exact I_L.fin hCA hP hA2 (hR.keep km kA (by decide) (by decide)) hOA
      · skip
        exact absurd b655 (by decide)
    · skip
      exact absurd rfl b648
  · obtain ⟨k, hk31, rfl⟩ := nI_of hb
    by_cases hk : k < w_mv w cp cv (w_p w)
    · have hk30 : k < 2 ^ 30 := by
        have := mv_bd (w := w) (pl := cp) (vl := cv) (w_p w)
        have := hmk.1.2.1
        omega
      refine q_aload_n d_La_law_617 rfl rfl ?_
      refine q_aload_n d_La_law_618 rfl rfl ?_
      refine q_iload d_La_law_619 rfl ?_
      refine q_iconst (v := 1) d_La_law_621 (by decide) ?_
      refine q_iadd d_La_law_622 ?_
      rw [nI_1]
      refine q_sald d_La_law_623 (sc_in hj hL (by decide)) ?_
      rw [nI_clamp (by omega), hx1]
      refine q_aload_n d_La_law_624 rfl rfl ?_
      refine x_hok d_La_law_625 l_La_111 s_La_move (h_move_ok hG (Z := Nat × Nat × Nat × List va_E) (v := fun z => nI (16 * z.1 + z.2.1)) (d_S_move hG hT hmk.1 hP.2.2.1 hk hk30) (fun z hz1 => hO.keep (hz1.2.2.2.2.2.2.2.2.2 110 (by omega))) ⟨_, hT.1⟩ (show _ + 1 ≤ 8 by decide) (by decide) (by decide) (by decide)) rfl rfl (Nat.le_of_ble_eq_true rfl) (Nat.le_of_ble_eq_true rfl) hc hs (fun z fo hpA hz1 hfo eA => ?_)
      obtain ⟨q1, j1, y1, hp1⟩ := z
      obtain ⟨a1, a2, a3, a4, a5, a6, a7, a8, a9⟩ := hz1
      have a9 : F_U hp hp1 := a9
      have hC1 : C_P n tb w S (va_up cp q1 j1) (va_up cv (c_v (w_c w q1) j1) y1) (gone + 1) hp1 := ⟨f, B, a8, ht, hz.keep (a9.2 _ (by omega)) (a9.2 _ (by omega))⟩
      have hO1 : O_P hp1 := hO.keep (a9.2 110 (by omega))
      have hfr : ∀ i, 84 ≤ i → hp1[i]? = hp[i]? := fun i hi => a9.2 i (by omega)
      have hq := set_110 eA hO1
      have hA1 : M_A hpA m A hpA := hA.move (fun i a b => (hq.1 i (by omega)).trans (hfr i (by omega)))
      have hOA : O_P hpA := ⟨fo, hq.2⟩
      have hCA := hC1.keep (fun i hi => hq.1 i (by omega))
      refine q_istore d_La_law_628 (by decide) rfl ?_
      refine q_aload_n d_La_law_630 rfl rfl ?_
      refine q_aload_n d_La_law_631 rfl rfl ?_
      refine q_iload d_La_law_632 rfl ?_
      refine q_iconst (v := 1) d_La_law_634 (by decide) ?_
      refine q_iadd d_La_law_635 ?_
      rw [nI_1]
      refine q_sald d_La_law_636 (sc_in hj hL (by decide)) ?_
      rw [nI_clamp (by omega), hx1]
      refine x_callVr d_La_law_637 l_La_114 i_Mo_move v_Mo_move rfl hA1.1 (c_Mo_move hG hA1 hmk hR.2.2.2.2.1 (hR.2.2.2.2.2.1.st hmk.1) hP.2.2.1.1 hP.2.2.1.2.2 hk hk30) rfl rfl (Nat.le_of_ble_eq_true rfl) (Nat.le_of_ble_eq_true rfl) (show c + 1 + 0 ≤ 601024 by omega) (show s + 6 + 0 ≤ 7293034 by omega) (fun z2 hz2 => ?_)
      obtain ⟨q2, j2, m2, A2, hp2⟩ := z2
      obtain ⟨b1, b2, b3, b4, hA2, v0, v34, hg, km, kA⟩ := hz2
      have hA2 : M_A hpA m2 A2 hp2 := hA2
      obtain ⟨rfl, rfl⟩ := mv_tie hmk hP.2.2.1 a1 a2 a3 a4 a5 a6 b1 b2 b3 b4
      have h_o : hp2[110]? = some (a_J 1 fo) := (hA2.2.2.2 110 (Or.inr (by omega))).trans hq.2
      refine q_istore d_La_law_640 (by decide) rfl ?_
      refine q_aload_n d_La_law_642 rfl rfl ?_
      refine x_callV d_La_law_643 l_La_58 i_Mo_thrown v_Mo_thrown rfl hA2.1 (c_Mo_thrown hG hA2 v0) rfl rfl (Nat.le_of_ble_eq_true rfl) (Nat.le_of_ble_eq_true rfl) (show c + 1 + 0 + 0 ≤ 601024 by omega) (show s + 6 + 0 + 0 ≤ 7293034 by omega) ?_
      refine q_iload d_La_law_646 rfl ?_
      refine q_icmp_eq (tgt := 653) d_La_law_648 (by decide) (fun b648 => ?_) (fun b648 => ?_)
      · skip
        refine q_iload d_La_law_653 rfl ?_
        refine q_if_ne (tgt := 670) d_La_law_655 (by decide) (fun b655 => ?_) (fun b655 => ?_)
        · skip
          exact absurd rfl b655
        · skip
          refine q_aload_n d_La_law_658 rfl rfl ?_
          refine q_iconst (v := 0) d_La_law_659 (by decide) ?_
          refine q_lald d_La_law_660 h_o rfl (vp_in_nI (n := 0) (by decide) (by decide)) ?_
          rw [show (0 : Int32).toNatClampNeg = 0 from rfl, hfo]
          refine q_iload d_La_law_661 rfl ?_
          refine q_i2l d_La_law_663 ?_
          refine q_lcmp d_La_law_664 ?_
          refine q_if_eq (tgt := 670) d_La_law_665 (by decide) (fun b665 => ?_) (fun b665 => ?_)
          · skip
            refine q_goto (tgt := 849) d_La_law_670 (by decide) ?_
            refine q_more (show c + 1 + 0 + 0 ≤ c + 1 by omega) (show s + 6 + 0 + 0 ≤ s + 6 by omega) (hJ _ _ _ ?_)
            refine I_L.fin hCA (hP.move a1 a4 a5 a7) hA2 ?_ hOA
            obtain ⟨r1, r2, r3, r4, r5, r6, r7, r8⟩ := hR
            exact ⟨(km 2 (by decide)).trans r1, by rw [kA 0 (by decide)]; exact r2, (km 3 (by decide)).trans r3, (km 4 (by decide)).trans r4, r5.keep km kA (by decide) (by decide), r6.move hmk a1 a4 a7 hg, v34.trans (by rw [r7, nI_1]), k_St_keep r8 (km 37 (by decide)) (km 39 (by decide)) (km 40 (by decide)) (kA 24 (by decide))⟩
          · skip
            exact absurd (ss_lg.mpr (congrArg Int32.toInt64 (rfl))) b665
      · skip
        exact absurd rfl b648
    · skip
      refine q_aload_n d_La_law_617 rfl rfl ?_
      refine q_aload_n d_La_law_618 rfl rfl ?_
      refine q_iload d_La_law_619 rfl ?_
      refine q_iconst (v := 1) d_La_law_621 (by decide) ?_
      refine q_iadd d_La_law_622 ?_
      rw [nI_1]
      refine q_sald d_La_law_623 (sc_in hj hL (by decide)) ?_
      rw [nI_clamp (by omega), hx1]
      refine q_aload_n d_La_law_624 rfl rfl ?_
      refine x_her d_La_law_625 l_La_111 s_La_move (h_move_e1 hG (q_C.trl (c_S_moveB hG hT hmk.1 hP.2.2.1 (by omega) hk31)) ⟨_, hT.1⟩ (show _ + 1 ≤ 8 by decide) (by decide) (by decide) (by decide)) rfl rfl (Nat.le_of_ble_eq_true rfl) (Nat.le_of_ble_eq_true rfl) hc hs (fun z hpA hz1 eA => ?_)
      have hC1 : C_P n tb w S cp cv gone hp := ⟨f, B, hT, ht, hz⟩
      have hO1 := hO
      have hfr : ∀ i, 84 ≤ i → hp[i]? = hp[i]? := fun _ _ => rfl
      have hq := app_110 eA hO1
      have hA1 : M_A hpA m A hpA := hA.move (fun i a b => (hq i (by omega)).trans (hfr i (by omega)))
      have hOA : O_P hpA := hO1.keep (hq 110 (by omega))
      have hCA := hC1.keep (fun i hi => hq i (by omega))
      refine q_istore d_La_law_628 (by decide) rfl ?_
      refine q_aload_n d_La_law_630 rfl rfl ?_
      refine q_aload_n d_La_law_631 rfl rfl ?_
      refine q_iload d_La_law_632 rfl ?_
      refine q_iconst (v := 1) d_La_law_634 (by decide) ?_
      refine q_iadd d_La_law_635 ?_
      rw [nI_1]
      refine q_sald d_La_law_636 (sc_in hj hL (by decide)) ?_
      rw [nI_clamp (by omega), hx1]
      refine x_callVm d_La_law_637 l_La_114 i_Mo_move v_Mo_move rfl hA1.1 (c_Mo_moveB hG hA1 hmk hR.2.2.2.2.1 (hR.2.2.2.2.2.1.st hmk.1) hP.2.2.1.1 hP.2.2.1.2.2 (by omega) hk31) rfl rfl (Nat.le_of_ble_eq_true rfl) (Nat.le_of_ble_eq_true rfl) (show c + 1 + 0 ≤ 601024 by omega) (show s + 6 + 0 ≤ 7293034 by omega) (fun m2 A2 hp2 hA2 hz2 => ?_)
      obtain ⟨v0, km, kA⟩ := hz2
      refine q_istore d_La_law_640 (by decide) rfl ?_
      refine q_aload_n d_La_law_642 rfl rfl ?_
      refine x_callV d_La_law_643 l_La_58 i_Mo_thrown v_Mo_thrown rfl hA2.1 (c_Mo_thrown hG hA2 v0) rfl rfl (Nat.le_of_ble_eq_true rfl) (Nat.le_of_ble_eq_true rfl) (show c + 1 + 0 + 0 ≤ 601024 by omega) (show s + 6 + 0 + 0 ≤ 7293034 by omega) ?_
      refine q_iload d_La_law_646 rfl ?_
      refine q_icmp_eq (tgt := 653) d_La_law_648 (by decide) (fun b648 => ?_) (fun b648 => ?_)
      · skip
        refine q_iload d_La_law_653 rfl ?_
        refine q_if_ne (tgt := 670) d_La_law_655 (by decide) (fun b655 => ?_) (fun b655 => ?_)
        · skip
          refine q_goto (tgt := 849) d_La_law_670 (by decide) ?_
          refine q_more (show c + 1 + 0 + 0 ≤ c + 1 by omega) (show s + 6 + 0 + 0 ≤ s + 6 by omega) (hJ _ _ _ ?_)
          exact I_L.fin hCA hP hA2 (hR.keep km kA (by decide) (by decide)) hOA
        · skip
          exact absurd b655 (by decide)
      · skip
        exact absurd rfl b648
end W6
