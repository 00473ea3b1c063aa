/-! the law: falls -/
section W7
variable {g : q_G}
set_option maxRecDepth 10000 in
set_option maxHeartbeats 2000000 in
theorem law_falls (hG : q_GG g) {P : Outcome → List va_E → Prop} {j c s : Nat} {hp : List va_E} {z5 z6 : Option Value} (hj : j + 4 ≤ (q_x g).2.1) (hL : (q_x g).2.1 ≤ 2048) (hJ : J_L g P (nI j) c s) (hc : c + 1 ≤ 601024) (hs : s + 6 ≤ 7293034) (hI : I_L hp) : q_J g m_La_law true rmL P 798 (lsL (nI j) z5 z6) [] hp c s true := by
  obtain ⟨n, tb, w, S, cp, cv, gone, ⟨f, B, hT, ht, hz⟩, hP, ⟨m, A, hA, hR⟩, hO⟩ := hI
  have hmk := hP.1
  have huq := s_lt hP.2.2.1
  by_cases hN : w_q w ≤ 30000
  · skip
    refine q_aload_n d_La_law_798 rfl rfl ?_
    refine q_aload_n d_La_law_799 rfl rfl ?_
    refine x_hok d_La_law_800 l_La_125 s_La_falls (h_falls_ok hG (Z := z_S × List va_E) (v := fun z => if z.1.2.2.1 (w_u w cp cv) = true then 1 else 0) (c_S_falls hG hT hmk.1 hmk.fz hN hz hP.2.2.1) (fun z hz1 => hO.keep (hz1.2.2.2.2.2.2 110 (by omega))) (fun z => by by_cases q : z.1.2.2.1 (w_u w cp cv) = true; exact Or.inr (if_pos q); exact Or.inl (if_neg q)) ⟨_, hT.1⟩ (show _ + 1 ≤ 8 by decide) (by decide) (by decide) (by decide)) rfl rfl (Nat.le_of_ble_eq_true rfl) (Nat.le_of_ble_eq_true rfl) hc hs (fun z fo hpA hz1 hfo eA => ?_)
    have hF := hz1.2.2.2.2.2
    have hC1 : C_P n tb w S cp cv gone z.2 := ⟨f, z.1, hz1.1, ht, hz1.2.2.1⟩
    have hO1 : O_P z.2 := hO.keep (hF.2 110 (by omega))
    have hfr : ∀ i, 84 ≤ i → z.2[i]? = hp[i]? := fun i hi => hF.2 i (by omega)
    have hq := set_110 eA hO1
    have hA1 : M_A hpA m A hpA := hA.move (fun i a b => (hq.1 i (by omega)).trans (hfr i (by omega)))
    have hOA : O_P hpA := ⟨fo, hq.2⟩
    have hCA := hC1.keep (fun i hi => hq.1 i (by omega))
    refine q_istore d_La_law_803 (by decide) rfl ?_
    refine q_aload_n d_La_law_805 rfl rfl ?_
    refine x_callVr d_La_law_806 l_La_128 i_Mo_falls v_Mo_falls rfl hA1.1 (c_Mo_falls hG hA1 hmk hR.2.2.2.2.1 hN (hR.2.2.2.2.2.1.st hmk.1) hP.2.2.1.2.2 huq (fun u hu => w_R_q hmk huq hu)) rfl rfl (Nat.le_of_ble_eq_true rfl) (Nat.le_of_ble_eq_true rfl) (show c + 1 + 0 ≤ 601024 by omega) (show s + 6 + 0 ≤ 7293034 by omega) (fun z2 hz2 => ?_)
    obtain ⟨bb, m2, A2, hp2⟩ := z2
    obtain ⟨hA2, hbb, v0, km, kA⟩ := hz2
    have hA2 : M_A hpA m2 A2 hp2 := hA2
    have v0 : m2 0 = 0 := v0
    have hSM := hz1.2.2.2.2.1
    have hiff : z.1.2.2.1 (w_u w cp cv) = true ↔ bb = true := by
      refine ((hSM _ (by omega)).trans ?_).trans hbb.symm
      exact ⟨fun h => h.2.elim (fun u hu => ⟨u, hu.2, hu.1⟩), fun h => ⟨hP.2.2.2, h.elim (fun u hu => ⟨u, hu.2, hu.1⟩)⟩⟩
    have h_o : hp2[110]? = some (a_J 1 fo) := (hA2.2.2.2 110 (Or.inr (by omega))).trans hq.2
    refine q_istore d_La_law_809 (by decide) rfl ?_
    refine q_aload_n d_La_law_811 rfl rfl ?_
    refine x_callV d_La_law_812 l_La_58 i_Mo_thrown v_Mo_thrown rfl hA2.1 (c_Mo_thrown hG hA2 v0) rfl rfl (Nat.le_of_ble_eq_true rfl) (Nat.le_of_ble_eq_true rfl) (show c + 1 + 0 + 0 ≤ 601024 by omega) (show s + 6 + 0 + 0 ≤ 7293034 by omega) ?_
    refine q_iload d_La_law_815 rfl ?_
    refine q_icmp_eq (tgt := 822) d_La_law_817 (by decide) (fun b817 => ?_) (fun b817 => ?_)
    · skip
      refine q_iload d_La_law_822 rfl ?_
      refine q_if_ne (tgt := 846) d_La_law_824 (by decide) (fun b824 => ?_) (fun b824 => ?_)
      · skip
        exact absurd rfl b824
      · skip
        refine q_aload_n d_La_law_827 rfl rfl ?_
        refine q_iconst (v := 0) d_La_law_828 (by decide) ?_
        refine q_lald d_La_law_829 h_o rfl (vp_in_nI (n := 0) (by decide) (by decide)) ?_
        rw [show (0 : Int32).toNatClampNeg = 0 from rfl, hfo]
        refine q_iload d_La_law_830 rfl ?_
        refine q_if_eq (tgt := 839) d_La_law_832 (by decide) (fun b832 => ?_) (fun b832 => ?_)
        · skip
          have hv : (if z.1.2.2.1 (w_u w cp cv) = true then (1 : Int32) else 0) = 0 := if_neg (fun h => m_if0.mp b832 (hiff.mp h))
          refine q_lconst (v := 0) d_La_law_839 (by decide) ?_
          refine q_lcmp d_La_law_840 ?_
          refine q_if_eq (tgt := 846) d_La_law_841 (by decide) (fun b841 => ?_) (fun b841 => ?_)
          · skip
            refine q_goto (tgt := 849) d_La_law_846 (by decide) ?_
            refine q_more (show c + 1 + 0 + 0 ≤ c + 1 by omega) (show s + 6 + 0 + 0 ≤ s + 6 by omega) (hJ _ _ _ ?_)
            exact I_L.fin hCA hP hA2 (hR.keep km kA (by decide) (by decide)) hOA
          · skip
            exact absurd (ss_lg.mpr (congrArg Int32.toInt64 (hv))) b841
        · skip
          have hv : (if z.1.2.2.1 (w_u w cp cv) = true then (1 : Int32) else 0) = 1 := if_pos (hiff.mpr (Classical.byContradiction (fun h => b832 (m_if0.mpr h))))
          refine q_lconst (v := 1) d_La_law_835 (by decide) ?_
          refine q_goto (tgt := 840) d_La_law_836 (by decide) ?_
          refine q_lcmp d_La_law_840 ?_
          refine q_if_eq (tgt := 846) d_La_law_841 (by decide) (fun b841 => ?_) (fun b841 => ?_)
          · skip
            refine q_goto (tgt := 849) d_La_law_846 (by decide) ?_
            refine q_more (show c + 1 + 0 + 0 ≤ c + 1 by omega) (show s + 6 + 0 + 0 ≤ s + 6 by omega) (hJ _ _ _ ?_)
            exact I_L.fin hCA hP hA2 (hR.keep km kA (by decide) (by decide)) hOA
          · skip
            exact absurd (ss_lg.mpr (congrArg Int32.toInt64 (hv))) b841
    · skip
      exact absurd rfl b817
  · skip
    refine q_aload_n d_La_law_798 rfl rfl ?_
    refine q_aload_n d_La_law_799 rfl rfl ?_
    refine x_her d_La_law_800 l_La_125 s_La_falls (h_falls_e1 hG (q_C.trl (c_S_fallsM hG hT hmk.1 hN)) ⟨_, hT.1⟩ (show _ + 1 ≤ 8 by decide) (by decide) (by decide) (by decide)) rfl rfl (Nat.le_of_ble_eq_true rfl) (Nat.le_of_ble_eq_true rfl) hc hs (fun z hpA hz1 eA => ?_)
    have hC1 : C_P n tb w S cp cv gone hp := ⟨f, B, hT, ht, hz⟩
    have hO1 := hO
    have hfr : ∀ i, 84 ≤ i → hp[i]? = hp[i]? := fun _ _ => rfl
    have hq := app_110 eA hO1
    have hA1 : M_A hpA m A hpA := hA.move (fun i a b => (hq i (by omega)).trans (hfr i (by omega)))
    have hOA : O_P hpA := hO1.keep (hq 110 (by omega))
    have hCA := hC1.keep (fun i hi => hq i (by omega))
    refine q_istore d_La_law_803 (by decide) rfl ?_
    refine q_aload_n d_La_law_805 rfl rfl ?_
    refine x_callVm d_La_law_806 l_La_128 i_Mo_falls v_Mo_falls rfl hA1.1 (c_Mo_fallsM hG hA1 hmk hR.2.2.2.2.1 hN) rfl rfl (Nat.le_of_ble_eq_true rfl) (Nat.le_of_ble_eq_true rfl) (show c + 1 + 0 ≤ 601024 by omega) (show s + 6 + 0 ≤ 7293034 by omega) (fun m2 A2 hp2 hA2 hz2 => ?_)
    obtain ⟨v0, km, kA⟩ := hz2
    refine q_istore d_La_law_809 (by decide) rfl ?_
    refine q_aload_n d_La_law_811 rfl rfl ?_
    refine x_callV d_La_law_812 l_La_58 i_Mo_thrown v_Mo_thrown rfl hA2.1 (c_Mo_thrown hG hA2 v0) rfl rfl (Nat.le_of_ble_eq_true rfl) (Nat.le_of_ble_eq_true rfl) (show c + 1 + 0 + 0 ≤ 601024 by omega) (show s + 6 + 0 + 0 ≤ 7293034 by omega) ?_
    refine q_iload d_La_law_815 rfl ?_
    refine q_icmp_eq (tgt := 822) d_La_law_817 (by decide) (fun b817 => ?_) (fun b817 => ?_)
    · skip
      refine q_iload d_La_law_822 rfl ?_
      refine q_if_ne (tgt := 846) d_La_law_824 (by decide) (fun b824 => ?_) (fun b824 => ?_)
      · skip
        refine q_goto (tgt := 849) d_La_law_846 (by decide) ?_
        refine q_more (show c + 1 + 0 + 0 ≤ c + 1 by omega) (show s + 6 + 0 + 0 ≤ s + 6 by omega) (hJ _ _ _ ?_)
        exact I_L.fin hCA hP hA2 (hR.keep km kA (by decide) (by decide)) hOA
      · skip
        exact absurd b824 (by decide)
    · skip
      exact absurd rfl b817
end W7
