/-! the law: calls without a helper -/
section W2
variable {g : q_G}
abbrev rmL : Room := q_R 11 386 601024 7293034
abbrev lsL (i : Int32) (z5 z6 : Option Value) : List (Option Value) := [some (.retAddr 0), some (.ref 0), some (.ref 84), some (.ref 110), some (.int i), z5, z6]
def J_L (g : q_G) (P : Outcome → List va_E → Prop) (i : Int32) (c s : Nat) : Prop := ∀ hp' z5 z6, I_L hp' → q_J g m_La_law true rmL P 849 (lsL i z5 z6) [] hp' (c + 1) (s + 6) true
theorem I_L.fin {n : Nat} {tb : Nat → Nat} {w : w_T} {S : x_S} {cp cv : Nat → Nat} {gone : Nat} {hp1 hp2 : List va_E} {m : Nat → Int32} {A : Nat → Nat → Int32} (hC : C_P n tb w S cp cv gone hp1) (hP : P_P w S cp cv) (hA : M_A hp1 m A hp2) (hR : M_R n tb w S cp cv gone m A) (hO : O_P hp1) : I_L hp2 :=
  ⟨n, tb, w, S, cp, cv, gone, hC.keep (fun i hi => hA.2.2.2 i (Or.inl hi)), hP, ⟨m, A, hA.move (fun _ _ _ => rfl), hR⟩, hO.keep (hA.2.2.2 110 (Or.inr (by omega)))⟩
theorem M_R.keep {n : Nat} {tb : Nat → Nat} {w : w_T} {S : x_S} {cp cv : Nat → Nat} {gone : Nat} {m m' : Nat → Int32} {A A' : Nat → Nat → Int32} {L L' : List Nat} (h : M_R n tb w S cp cv gone m A) (km : mo_K L m m') (kA : mo_K L' A A') (hL : ∀ k ∈ [2, 3, 4, 5, 8, 34, 37, 39, 40], k ∉ L) (hL' : ∀ k ∈ [0, 1, 2, 3, 4, 5, 6, 7, 8, 19, 24], k ∉ L') : M_R n tb w S cp cv gone m' A' := by
  obtain ⟨h1, h2, h3, h4, h5, h6, h7, h8⟩ := h
  have e : ∀ k, k ∈ [2, 3, 4, 5, 8, 34, 37, 39, 40] → m' k = m k := fun k hk => km k (hL k hk)
  have e' : ∀ k, k ∈ [0, 1, 2, 3, 4, 5, 6, 7, 8, 19, 24] → A' k = A k := fun k hk => kA k (hL' k hk)
  refine ⟨(e 2 (by decide)).trans h1, by rw [e' 0 (by decide)]; exact h2, (e 3 (by decide)).trans h3, (e 4 (by decide)).trans h4, h5.keep km kA ⟨hL 5 (by decide), hL 8 (by decide)⟩ (fun k hk => hL' k (by revert hk; revert k; decide)), ?_, (e 34 (by decide)).trans h7, k_St_keep h8 (e 37 (by decide)) (e 39 (by decide)) (e 40 (by decide)) (e' 24 (by decide))⟩
  unfold N_M
  rw [e' 19 (by decide)]
  exact h6
theorem K_M.kst {w : w_T} {m : Nat → Int32} {A : Nat → Nat → Int32} (h : m 37 = 1) (k : K_M w m A) : k_St w m A := Or.inr ⟨h, k⟩
/-- after a search -/
theorem M_R.know {n : Nat} {tb : Nat → Nat} {w : w_T} {S : x_S} {cp cv : Nat → Nat} {gone : Nat} {m m' : Nat → Int32} {A A' : Nat → Nat → Int32} (h : M_R n tb w S cp cv gone m A) (h37 : m' 37 = 1) (hK : K_M w m' A') (km : mo_K [0, 37, 39, 40] m m') (kA : mo_K [20, 21, 22, 23, 24] A A') : M_R n tb w S cp cv gone m' A' := by
  obtain ⟨h1, h2, h3, h4, h5, h6, h7, h8⟩ := h
  refine ⟨(km 2 (by decide)).trans h1, by rw [kA 0 (by decide)]; exact h2, (km 3 (by decide)).trans h3, (km 4 (by decide)).trans h4, h5.keep km kA (by decide) (by decide), ?_, (km 34 (by decide)).trans h7, hK.kst h37⟩
  unfold N_M
  rw [kA 19 (by decide)]
  exact h6
set_option maxRecDepth 10000 in
set_option maxHeartbeats 2000000 in
theorem law_wipe (hG : q_GG g) {P : Outcome → List va_E → Prop} {i : Int32} {c s : Nat} {hp : List va_E} {z5 z6 : Option Value} (hJ : J_L g P i c s) (hc : c + 1 ≤ 601024) (hs : s + 6 ≤ 7293034) (hI : I_L hp) : q_J g m_La_law true rmL P 228 (lsL i z5 z6) [] hp c s true := by
  obtain ⟨n, tb, w, S, cp, cv, gone, ⟨f, B, hT, ht, hz⟩, hP, ⟨m, A, hA, hR⟩, hO⟩ := hI
  have hmk := hP.1
  refine q_aload_n d_La_law_228 rfl rfl ?_
  refine x_callVr d_La_law_229 l_La_62 i_S_wipe v_S_wipe rfl hT.1 (d_S_wipe hG hT) rfl rfl (Nat.le_of_ble_eq_true rfl) (Nat.le_of_ble_eq_true rfl) (show c + 0 ≤ 601024 by omega) (show s + 0 ≤ 7293034 by omega) (fun z1 h1 => ?_)
  have hA1 : M_A z1 m A z1 := hA.move (fun i a b => h1.2.2 i (by omega))
  have hO1 : O_P z1 := hO.keep (h1.2.2 110 (by omega))
  refine q_aload_n d_La_law_232 rfl rfl ?_
  refine x_callVm d_La_law_233 l_La_65 i_Mo_wipe v_Mo_wipe rfl hA1.1 (c_Mo_wipe hG hA1 hR.1) rfl rfl (Nat.le_of_ble_eq_true rfl) (Nat.le_of_ble_eq_true rfl) (show c + 0 + 0 ≤ 601024 by omega) (show s + 0 + 0 ≤ 7293034 by omega) (fun m2 A2 hp2 hA2 hz2 => ?_)
  obtain ⟨v0, v2, km, kA⟩ := hz2
  refine q_icmp_eq (tgt := 849) d_La_law_236 (by decide) (fun b => ?_) (fun b => ?_)
  · refine q_more (show c + 0 + 0 ≤ c + 1 by omega) (show s + 0 + 0 ≤ s + 6 by omega) (hJ hp2 _ _ ?_)
    refine I_L.fin (n := 0) (tb := tb) ⟨f, B, h1.1, ⟨by omega, fun j hj => absurd hj (Nat.not_lt_zero j)⟩, hz.keep (h1.2.2 _ (by omega)) (h1.2.2 _ (by omega))⟩ hP hA2 ?_ hO1
    obtain ⟨r1, r2, r3, r4, r5, r6, r7, r8⟩ := hR
    exact ⟨v2, fun j hj => absurd hj (Nat.not_lt_zero j), (km 3 (by decide)).trans r3, (km 4 (by decide)).trans r4, r5.keep km kA (by decide) (by decide), by unfold N_M; rw [kA 19 (by decide)]; exact r6, (km 34 (by decide)).trans r7, k_St_keep r8 (km 37 (by decide)) (km 39 (by decide)) (km 40 (by decide)) (kA 24 (by decide))⟩
  · exact absurd (rfl) b
set_option maxRecDepth 10000 in
set_option maxHeartbeats 2000000 in
theorem law_fault (hG : q_GG g) {P : Outcome → List va_E → Prop} {i : Int32} {c s : Nat} {hp : List va_E} {z5 z6 : Option Value} (hJ : J_L g P i c s) (hc : c + 1 ≤ 601024) (hs : s + 6 ≤ 7293034) (hI : I_L hp) : q_J g m_La_law true rmL P 322 (lsL i z5 z6) [] hp c s true := by
  obtain ⟨n, tb, w, S, cp, cv, gone, ⟨f, B, hT, ht, hz⟩, hP, ⟨m, A, hA, hR⟩, hO⟩ := hI
  have hmk := hP.1
  refine q_aload_n d_La_law_322 rfl rfl ?_
  refine x_callV d_La_law_323 l_La_74 i_S_fault v_S_fault rfl hT.1 (c_S_fault hG hT) rfl rfl (Nat.le_of_ble_eq_true rfl) (Nat.le_of_ble_eq_true rfl) (show c + 0 ≤ 601024 by omega) (show s + 0 ≤ 7293034 by omega) ?_
  refine q_aload_n d_La_law_326 rfl rfl ?_
  refine x_callVm d_La_law_327 l_La_77 i_Mo_fault v_Mo_fault rfl hA.1 (c_Mo_fault hG hA) rfl rfl (Nat.le_of_ble_eq_true rfl) (Nat.le_of_ble_eq_true rfl) (show c + 0 + 0 ≤ 601024 by omega) (show s + 0 + 0 ≤ 7293034 by omega) (fun m2 A2 hp2 hA2 hz2 => ?_)
  obtain ⟨v0, km, kA⟩ := hz2
  refine q_icmp_eq (tgt := 849) d_La_law_330 (by decide) (fun b => ?_) (fun b => ?_)
  · refine q_more (show c + 0 + 0 ≤ c + 1 by omega) (show s + 0 + 0 ≤ s + 6 by omega) (hJ hp2 _ _ ?_)
    exact I_L.fin ⟨f, B, hT, ht, hz⟩ hP hA2 (hR.keep km kA (by decide) (by decide)) hO
  · exact absurd (hR.2.2.1.symm) b
set_option maxRecDepth 10000 in
set_option maxHeartbeats 2000000 in
theorem law_faultAt (hG : q_GG g) {P : Outcome → List va_E → Prop} {i : Int32} {c s : Nat} {hp : List va_E} {z5 z6 : Option Value} (hJ : J_L g P i c s) (hc : c + 1 ≤ 601024) (hs : s + 6 ≤ 7293034) (hI : I_L hp) : q_J g m_La_law true rmL P 335 (lsL i z5 z6) [] hp c s true := by
  obtain ⟨n, tb, w, S, cp, cv, gone, ⟨f, B, hT, ht, hz⟩, hP, ⟨m, A, hA, hR⟩, hO⟩ := hI
  have hmk := hP.1
  refine q_aload_n d_La_law_335 rfl rfl ?_
  refine x_callV d_La_law_336 l_La_78 i_S_faultAt v_S_faultAt rfl hT.1 (c_S_faultAt hG hT) rfl rfl (Nat.le_of_ble_eq_true rfl) (Nat.le_of_ble_eq_true rfl) (show c + 0 ≤ 601024 by omega) (show s + 0 ≤ 7293034 by omega) ?_
  refine q_aload_n d_La_law_339 rfl rfl ?_
  refine x_callVm d_La_law_340 l_La_81 i_Mo_faultAt v_Mo_faultAt rfl hA.1 (c_Mo_faultAt hG hA) rfl rfl (Nat.le_of_ble_eq_true rfl) (Nat.le_of_ble_eq_true rfl) (show c + 0 + 0 ≤ 601024 by omega) (show s + 0 + 0 ≤ 7293034 by omega) (fun m2 A2 hp2 hA2 hz2 => ?_)
  obtain ⟨v0, km, kA⟩ := hz2
  refine q_icmp_eq (tgt := 849) d_La_law_343 (by decide) (fun b => ?_) (fun b => ?_)
  · refine q_more (show c + 0 + 0 ≤ c + 1 by omega) (show s + 0 + 0 ≤ s + 6 by omega) (hJ hp2 _ _ ?_)
    exact I_L.fin ⟨f, B, hT, ht, hz⟩ hP hA2 (hR.keep km kA (by decide) (by decide)) hO
  · exact absurd (hR.2.2.2.1.symm) b
set_option maxRecDepth 10000 in
set_option maxHeartbeats 2000000 in
theorem law_clear (hG : q_GG g) {P : Outcome → List va_E → Prop} {i : Int32} {c s : Nat} {hp : List va_E} {z5 z6 : Option Value} (hJ : J_L g P i c s) (hc : c + 1 ≤ 601024) (hs : s + 6 ≤ 7293034) (hI : I_L hp) : q_J g m_La_law true rmL P 348 (lsL i z5 z6) [] hp c s true := by
  obtain ⟨n, tb, w, S, cp, cv, gone, ⟨f, B, hT, ht, hz⟩, hP, ⟨m, A, hA, hR⟩, hO⟩ := hI
  have hmk := hP.1
  refine q_aload_n d_La_law_348 rfl rfl ?_
  refine x_callVr d_La_law_349 l_La_82 i_S_clear v_S_clear rfl hT.1 (c_S_clear hG hT) rfl rfl (Nat.le_of_ble_eq_true rfl) (Nat.le_of_ble_eq_true rfl) (show c + 0 ≤ 601024 by omega) (show s + 0 ≤ 7293034 by omega) (fun z1 h1 => ?_)
  have hA1 : M_A z1 m A z1 := hA.move (fun i a b => h1.2.2 i (by omega))
  have hO1 : O_P z1 := hO.keep (h1.2.2 110 (by omega))
  refine q_aload_n d_La_law_352 rfl rfl ?_
  refine x_callVm d_La_law_353 l_La_85 i_Mo_clear v_Mo_clear rfl hA1.1 (c_Mo_clear hG hA1 hR.2.2.2.2.1.2.1) rfl rfl (Nat.le_of_ble_eq_true rfl) (Nat.le_of_ble_eq_true rfl) (show c + 0 + 0 ≤ 601024 by omega) (show s + 0 + 0 ≤ 7293034 by omega) (fun m2 A2 hp2 hA2 hz2 => ?_)
  obtain ⟨v0, v5, v8, v37, v34, e19, km, kA⟩ := hz2
  refine q_icmp_eq (tgt := 849) d_La_law_356 (by decide) (fun b => ?_) (fun b => ?_)
  · refine q_more (show c + 0 + 0 ≤ c + 1 by omega) (show s + 0 + 0 ≤ s + 6 by omega) (hJ hp2 _ _ ?_)
    refine I_L.fin (w := w_cl w) ⟨f, B_0 B, h1.1, ht, hz.fg⟩ (P_P.first hmk.cl hP.2.1) hA2 ?_ hO1
    obtain ⟨r1, r2, r3, r4, r5, r6, r7, r8⟩ := hR
    exact ⟨(km 2 (by decide)).trans r1, by rw [kA 0 (by decide)]; exact r2, (km 3 (by decide)).trans r3, (km 4 (by decide)).trans r4, ⟨v5, v8, fun v hv => absurd hv (Nat.not_lt_zero v), fun q hq => absurd hq (Nat.not_lt_zero q)⟩, N_M.begin (w := w_cl w) (A := A) hmk.cl (fun v hv => absurd hv (Nat.not_lt_zero v)) e19, v34, Or.inl v37⟩
  · exact absurd (rfl) b
set_option maxRecDepth 10000 in
set_option maxHeartbeats 2000000 in
theorem law_product (hG : q_GG g) {P : Outcome → List va_E → Prop} {i : Int32} {c s : Nat} {hp : List va_E} {z5 z6 : Option Value} (hJ : J_L g P i c s) (hc : c + 1 ≤ 601024) (hs : s + 6 ≤ 7293034) (hI : I_L hp) : q_J g m_La_law true rmL P 429 (lsL i z5 z6) [] hp c s true := by
  obtain ⟨n, tb, w, S, cp, cv, gone, ⟨f, B, hT, ht, hz⟩, hP, ⟨m, A, hA, hR⟩, hO⟩ := hI
  have hmk := hP.1
  refine q_aload_n d_La_law_429 rfl rfl ?_
  refine x_callV d_La_law_430 l_La_89 i_S_product v_S_product rfl hT.1 (c_S_product hG hmk.1 hT) rfl rfl (Nat.le_of_ble_eq_true rfl) (Nat.le_of_ble_eq_true rfl) (show c + 0 ≤ 601024 by omega) (show s + 0 ≤ 7293034 by omega) ?_
  refine q_aload_n d_La_law_433 rfl rfl ?_
  refine x_callVm d_La_law_434 l_La_92 i_Mo_product v_Mo_product rfl hA.1 (c_Mo_product hG hmk hR.2.2.2.2.1 hA) rfl rfl (Nat.le_of_ble_eq_true rfl) (Nat.le_of_ble_eq_true rfl) (show c + 0 + 0 ≤ 601024 by omega) (show s + 0 + 0 ≤ 7293034 by omega) (fun m2 A2 hp2 hA2 hz2 => ?_)
  obtain ⟨v0, km, kA⟩ := hz2
  refine q_icmp_eq (tgt := 849) d_La_law_437 (by decide) (fun b => ?_) (fun b => ?_)
  · refine q_more (show c + 0 + 0 ≤ c + 1 by omega) (show s + 0 + 0 ≤ s + 6 by omega) (hJ hp2 _ _ ?_)
    exact I_L.fin ⟨f, B, hT, ht, hz⟩ hP hA2 (hR.keep km kA (by decide) (by decide)) hO
  · exact absurd (rfl) b
set_option maxRecDepth 10000 in
set_option maxHeartbeats 2000000 in
theorem law_stuck (hG : q_GG g) {P : Outcome → List va_E → Prop} {i : Int32} {c s : Nat} {hp : List va_E} {z5 z6 : Option Value} (hJ : J_L g P i c s) (hc : c + 1 ≤ 601024) (hs : s + 6 ≤ 7293034) (hI : I_L hp) : q_J g m_La_law true rmL P 442 (lsL i z5 z6) [] hp c s true := by
  obtain ⟨n, tb, w, S, cp, cv, gone, ⟨f, B, hT, ht, hz⟩, hP, ⟨m, A, hA, hR⟩, hO⟩ := hI
  have hmk := hP.1
  by_cases hN : w_q w ≤ 30000
  · skip
    refine q_aload_n d_La_law_442 rfl rfl ?_
    refine x_callVr d_La_law_443 l_La_93 i_S_stuck v_S_stuck rfl hT.1 (c_S_stuck hG hmk.1 hmk.fz hN hT hz) rfl rfl (Nat.le_of_ble_eq_true rfl) (Nat.le_of_ble_eq_true rfl) (show c + 0 ≤ 601024 by omega) (show s + 0 ≤ 7293034 by omega) (fun z1 h1 => ?_)
    obtain ⟨B1, hp1⟩ := z1
    have h1 : T_A n f w S B1 cp cv gone hp1 ∧ sk_P w hp (B1, hp1) := h1
    obtain ⟨h1, h2, h3, h4, h5, h6⟩ := h1
    have h6 : F_S hp hp1 := h6
    have hA1 : M_A hp1 m A hp1 := hA.move (fun i a b => h6.2 i (by omega))
    have hO1 : O_P hp1 := hO.keep (h6.2 110 (by omega))
    refine q_aload_n d_La_law_446 rfl rfl ?_
    refine x_callVr d_La_law_447 l_La_96 i_Mo_stuck v_Mo_stuck rfl hA1.1 (c_Mo_stuck hG hA1 hmk hR.2.2.2.2.1 hN (w_0_lt hmk.1) hR.2.2.2.2.2.2.2) rfl rfl (Nat.le_of_ble_eq_true rfl) (Nat.le_of_ble_eq_true rfl) (show c + 0 + 0 ≤ 601024 by omega) (show s + 0 + 0 ≤ 7293034 by omega) (fun z2 hz2 => ?_)
    obtain ⟨m2, A2, hp2⟩ := z2
    obtain ⟨hA2, h37, hK, km, kA⟩ := hz2
    refine q_icmp_eq (tgt := 849) d_La_law_450 (by decide) (fun b => ?_) (fun b => ?_)
    · refine q_more (show c + 0 + 0 ≤ c + 1 by omega) (show s + 0 + 0 ≤ s + 6 by omega) (hJ hp2 _ _ ?_)
      exact I_L.fin ⟨f, B1, h1, ht, h3⟩ hP hA2 (hR.know h37 hK km kA) hO1
    · exact absurd (by
    obtain ⟨sn, hsn, k39, k40, -⟩ := hK
    have e := (sk_tie hmk hN h5 hsn).2.1
    exact (congrArg nI e).trans k39.symm) b
  · skip
    refine q_aload_n d_La_law_442 rfl rfl ?_
    refine x_callV d_La_law_443 l_La_93 i_S_stuck v_S_stuck rfl hT.1 (c_S_stuckM hG hmk.1 hN hT) rfl rfl (Nat.le_of_ble_eq_true rfl) (Nat.le_of_ble_eq_true rfl) (show c + 0 ≤ 601024 by omega) (show s + 0 ≤ 7293034 by omega) ?_
    refine q_aload_n d_La_law_446 rfl rfl ?_
    refine x_callVm d_La_law_447 l_La_96 i_Mo_stuck v_Mo_stuck rfl hA.1 (c_Mo_stuckM hG hA hmk hR.2.2.2.2.1 hN) rfl rfl (Nat.le_of_ble_eq_true rfl) (Nat.le_of_ble_eq_true rfl) (show c + 0 + 0 ≤ 601024 by omega) (show s + 0 + 0 ≤ 7293034 by omega) (fun m2 A2 hp2 hA2 hz2 => ?_)
    obtain ⟨v0, km, kA⟩ := hz2
    refine q_icmp_eq (tgt := 849) d_La_law_450 (by decide) (fun b => ?_) (fun b => ?_)
    · refine q_more (show c + 0 + 0 ≤ c + 1 by omega) (show s + 0 + 0 ≤ s + 6 by omega) (hJ hp2 _ _ ?_)
      exact I_L.fin ⟨f, B, hT, ht, hz⟩ hP hA2 (hR.keep km kA (by decide) (by decide)) hO
    · exact absurd (rfl) b
set_option maxRecDepth 10000 in
set_option maxHeartbeats 2000000 in
theorem law_ended (hG : q_GG g) {P : Outcome → List va_E → Prop} {i : Int32} {c s : Nat} {hp : List va_E} {z5 z6 : Option Value} (hJ : J_L g P i c s) (hc : c + 1 ≤ 601024) (hs : s + 6 ≤ 7293034) (hI : I_L hp) : q_J g m_La_law true rmL P 455 (lsL i z5 z6) [] hp c s true := by
  obtain ⟨n, tb, w, S, cp, cv, gone, ⟨f, B, hT, ht, hz⟩, hP, ⟨m, A, hA, hR⟩, hO⟩ := hI
  have hmk := hP.1
  by_cases hN : w_q w ≤ 30000
  · skip
    refine q_aload_n d_La_law_455 rfl rfl ?_
    refine x_callVr d_La_law_456 l_La_97 i_S_ended v_S_ended rfl hT.1 (c_S_ended hG hmk.1 hmk.fz hN hT hz) rfl rfl (Nat.le_of_ble_eq_true rfl) (Nat.le_of_ble_eq_true rfl) (show c + 0 ≤ 601024 by omega) (show s + 0 ≤ 7293034 by omega) (fun z1 h1 => ?_)
    obtain ⟨B1, hp1⟩ := z1
    have h1 : T_A n f w S B1 cp cv gone hp1 ∧ sk_P w hp (B1, hp1) := h1
    obtain ⟨h1, h2, h3, h4, h5, h6⟩ := h1
    have h6 : F_S hp hp1 := h6
    have hA1 : M_A hp1 m A hp1 := hA.move (fun i a b => h6.2 i (by omega))
    have hO1 : O_P hp1 := hO.keep (h6.2 110 (by omega))
    refine q_aload_n d_La_law_459 rfl rfl ?_
    refine x_callVr d_La_law_460 l_La_100 i_Mo_ended v_Mo_ended rfl hA1.1 (c_Mo_ended hG hA1 hmk hR.2.2.2.2.1 hN (w_0_lt hmk.1) hR.2.2.2.2.2.2.2) rfl rfl (Nat.le_of_ble_eq_true rfl) (Nat.le_of_ble_eq_true rfl) (show c + 0 + 0 ≤ 601024 by omega) (show s + 0 + 0 ≤ 7293034 by omega) (fun z2 hz2 => ?_)
    obtain ⟨m2, A2, hp2⟩ := z2
    obtain ⟨hA2, h37, hK, km, kA⟩ := hz2
    refine q_icmp_eq (tgt := 849) d_La_law_463 (by decide) (fun b => ?_) (fun b => ?_)
    · refine q_more (show c + 0 + 0 ≤ c + 1 by omega) (show s + 0 + 0 ≤ s + 6 by omega) (hJ hp2 _ _ ?_)
      exact I_L.fin ⟨f, B1, h1, ht, h3⟩ hP hA2 (hR.know h37 hK km kA) hO1
    · exact absurd (by
    obtain ⟨sn, hsn, k39, k40, -⟩ := hK
    have e := (sk_tie hmk hN h5 hsn).2.2
    exact (congrArg nI e).trans k40.symm) b
  · skip
    refine q_aload_n d_La_law_455 rfl rfl ?_
    refine x_callV d_La_law_456 l_La_97 i_S_ended v_S_ended rfl hT.1 (c_S_endedM hG hmk.1 hN hT) rfl rfl (Nat.le_of_ble_eq_true rfl) (Nat.le_of_ble_eq_true rfl) (show c + 0 ≤ 601024 by omega) (show s + 0 ≤ 7293034 by omega) ?_
    refine q_aload_n d_La_law_459 rfl rfl ?_
    refine x_callVm d_La_law_460 l_La_100 i_Mo_ended v_Mo_ended rfl hA.1 (c_Mo_endedM hG hA hmk hR.2.2.2.2.1 hN) rfl rfl (Nat.le_of_ble_eq_true rfl) (Nat.le_of_ble_eq_true rfl) (show c + 0 + 0 ≤ 601024 by omega) (show s + 0 + 0 ≤ 7293034 by omega) (fun m2 A2 hp2 hA2 hz2 => ?_)
    obtain ⟨v0, km, kA⟩ := hz2
    refine q_icmp_eq (tgt := 849) d_La_law_463 (by decide) (fun b => ?_) (fun b => ?_)
    · refine q_more (show c + 0 + 0 ≤ c + 1 by omega) (show s + 0 + 0 ≤ s + 6 by omega) (hJ hp2 _ _ ?_)
      exact I_L.fin ⟨f, B, hT, ht, hz⟩ hP hA2 (hR.keep km kA (by decide) (by decide)) hO
    · exact absurd (rfl) b
set_option maxRecDepth 10000 in
set_option maxHeartbeats 2000000 in
theorem law_moves (hG : q_GG g) {P : Outcome → List va_E → Prop} {i : Int32} {c s : Nat} {hp : List va_E} {z5 z6 : Option Value} (hJ : J_L g P i c s) (hc : c + 1 ≤ 601024) (hs : s + 6 ≤ 7293034) (hI : I_L hp) : q_J g m_La_law true rmL P 604 (lsL i z5 z6) [] hp c s true := by
  obtain ⟨n, tb, w, S, cp, cv, gone, ⟨f, B, hT, ht, hz⟩, hP, ⟨m, A, hA, hR⟩, hO⟩ := hI
  have hmk := hP.1
  refine q_aload_n d_La_law_604 rfl rfl ?_
  refine x_callV d_La_law_605 l_La_107 i_S_moves v_S_moves rfl hT.1 (c_S_moves hG hmk.1 hP.2.2.1 hT) rfl rfl (Nat.le_of_ble_eq_true rfl) (Nat.le_of_ble_eq_true rfl) (show c + 0 ≤ 601024 by omega) (show s + 0 ≤ 7293034 by omega) ?_
  refine q_aload_n d_La_law_608 rfl rfl ?_
  refine x_callVm d_La_law_609 l_La_110 i_Mo_moves v_Mo_moves rfl hA.1 (c_Mo_moves hG hA hmk hR.2.2.2.2.1 (hR.2.2.2.2.2.1.st hmk.1) hP.2.2.1.1 hP.2.2.1.2.2) rfl rfl (Nat.le_of_ble_eq_true rfl) (Nat.le_of_ble_eq_true rfl) (show c + 0 + 0 ≤ 601024 by omega) (show s + 0 + 0 ≤ 7293034 by omega) (fun m2 A2 hp2 hA2 hz2 => ?_)
  obtain ⟨v0, km, kA⟩ := hz2
  refine q_icmp_eq (tgt := 849) d_La_law_612 (by decide) (fun b => ?_) (fun b => ?_)
  · refine q_more (show c + 0 + 0 ≤ c + 1 by omega) (show s + 0 + 0 ≤ s + 6 by omega) (hJ hp2 _ _ ?_)
    exact I_L.fin ⟨f, B, hT, ht, hz⟩ hP hA2 (hR.keep km kA (by decide) (by decide)) hO
  · exact absurd (rfl) b
set_option maxRecDepth 10000 in
set_option maxHeartbeats 2000000 in
theorem law_restart (hG : q_GG g) {P : Outcome → List va_E → Prop} {i : Int32} {c s : Nat} {hp : List va_E} {z5 z6 : Option Value} (hJ : J_L g P i c s) (hc : c + 1 ≤ 601024) (hs : s + 6 ≤ 7293034) (hI : I_L hp) : q_J g m_La_law true rmL P 673 (lsL i z5 z6) [] hp c s true := by
  obtain ⟨n, tb, w, S, cp, cv, gone, ⟨f, B, hT, ht, hz⟩, hP, ⟨m, A, hA, hR⟩, hO⟩ := hI
  have hmk := hP.1
  refine q_aload_n d_La_law_673 rfl rfl ?_
  refine x_callVr d_La_law_674 l_La_115 i_S_restart v_S_restart rfl hT.1 (d_S_restart hG hT) rfl rfl (Nat.le_of_ble_eq_true rfl) (Nat.le_of_ble_eq_true rfl) (show c + 0 ≤ 601024 by omega) (show s + 0 ≤ 7293034 by omega) (fun z1 h1 => ?_)
  have hA1 : M_A z1 m A z1 := hA.move (fun i a b => h1.2.2 i (by omega))
  have hO1 : O_P z1 := hO.keep (h1.2.2 110 (by omega))
  have hkn : q_B (m 37) := by
    rcases hR.2.2.2.2.2.2.2 with h | h
    · exact Or.inl h
    · exact Or.inr h.1
  refine q_aload_n d_La_law_677 rfl rfl ?_
  refine x_callVm d_La_law_678 l_La_118 i_Mo_restart v_Mo_restart rfl hA1.1 (c_Mo_restart hG hA1 hmk.1.1 hR.2.2.2.2.1.1 hR.2.2.2.2.2.2.1 rfl hkn) rfl rfl (Nat.le_of_ble_eq_true rfl) (Nat.le_of_ble_eq_true rfl) (show c + 0 + 0 ≤ 601024 by omega) (show s + 0 + 0 ≤ 7293034 by omega) (fun m2 A2 hp2 hA2 hz2 => ?_)
  obtain ⟨v0, v37, v34, e19, km, kA⟩ := hz2
  refine q_icmp_eq (tgt := 849) d_La_law_681 (by decide) (fun b => ?_) (fun b => ?_)
  · refine q_more (show c + 0 + 0 ≤ c + 1 by omega) (show s + 0 + 0 ≤ s + 6 by omega) (hJ hp2 _ _ ?_)
    refine I_L.fin (w := w) ⟨f, B, h1.1, ht, hz.keep (h1.2.2 _ (by omega)) (h1.2.2 _ (by omega))⟩ (P_P.first hmk hP.2.1) hA2 ?_ hO1
    obtain ⟨r1, r2, r3, r4, r5, r6, r7, r8⟩ := hR
    exact ⟨(km 2 (by decide)).trans r1, by rw [kA 0 (by decide)]; exact r2, (km 3 (by decide)).trans r3, (km 4 (by decide)).trans r4, r5.keep km kA (by decide) (by decide), N_M.begin (A := A) hmk (fun v hv => (r5.2.2.1 v hv).2) e19, v34, k_St_keep r8 v37 (km 39 (by decide)) (km 40 (by decide)) (kA 24 (by decide))⟩
  · exact absurd (rfl) b
end W2
