/-! the law: process -/
section W3
variable {g : q_G}
theorem x_ok.wc {n0 : Nat} {S : x_S} {C : c_T} (h : x_ok n0 S) (hC : c_ok C) : x_ok n0 (x_wc S C) := ⟨h.1, h.2.1, h.2.2.1, h.2.2.2.1, hC⟩
theorem K_M.sc {w : w_T} {m : Nat → Int32} {A : Nat → Nat → Int32} (C : c_T) (h : K_M w m A) : K_M (w_sc w (w_p w) C) m A := by
  have e := e_sc w C
  obtain ⟨sn, h1, h2, h3, h4⟩ := h
  refine ⟨sn, ?_, ?_, ?_, ?_⟩
  · rw [e_S e, e_0 e]; exact h1
  · rw [e_q e]; unfold f_F; rw [e_Nst e]; exact h2
  · rw [e_q e]; unfold f_E f_F; rw [e_Nst e, e_Nae e]; exact h3
  · rw [e_q e]; unfold f_F; rw [e_Nst e]; exact h4
theorem k_St_sc {w : w_T} {m : Nat → Int32} {A : Nat → Nat → Int32} (C : c_T) (h : k_St w m A) : k_St (w_sc w (w_p w) C) m A := by
  rcases h with h | h
  · exact Or.inl h
  · exact Or.inr ⟨h.1, h.2.sc C⟩
theorem W_M.sc {w : w_T} {m : Nat → Int32} {A : Nat → Nat → Int32} (C : c_T) (h : W_M w m A) : W_M (w_sc w (w_p w) C) m A := by
  refine ⟨h.1, h.2.1, h.2.2.1, fun q hq => ?_⟩
  have hq : q < w_p w := hq
  show D_M q (if q = w_p w then C else w_c w q) A
  rw [if_neg (by omega)]
  exact h.2.2.2 q hq
theorem P_P.sc {w : w_T} {S S' : x_S} {cp cv : Nat → Nat} {C : c_T} (h : P_P w S cp cv) (hC : c_ok C) (hx : ∃ n0, x_ok n0 S') : P_P (w_sc w (w_p w) C) S' cp cv := by
  have e := e_sc w C
  refine ⟨h.1.sc hC, hx, ⟨fun q hq => ?_, h.2.2.1.2.1, h.2.2.1.2.2⟩, ?_⟩
  · have hq : q < w_p w := hq
    show cp q < c_n (if q = w_p w then C else w_c w q)
    rw [if_neg (by omega)]
    exact h.2.2.1.1 q hq
  · show rr_R (w_S (w_sc w (w_p w) C)) (w_0 (w_sc w (w_p w) C)) (w_u (w_sc w (w_p w) C) cp cv)
    rw [e_S e, e_0 e, e_u e]
    exact h.2.2.2
theorem mo_K8 {m m' : Nat → Int32} {L : List Nat} {x : Int32} (h : mo_K L m m') (_ : m' 8 = x) (_ : m 8 = x) : mo_K L m m' := h
set_option maxRecDepth 10000 in
set_option maxHeartbeats 2000000 in
theorem law_process (hG : q_GG g) {P : Outcome → List va_E → Prop} {i : Int32} {c s : Nat} {hp : List va_E} {z5 z6 : Option Value} (hJ : J_L g P i c s) (hc : c + 1 ≤ 601024) (hs : s + 6 ≤ 7293034) (hI : I_L hp) : q_J g m_La_law true rmL P 309 (lsL i z5 z6) [] hp c s true := by
  obtain ⟨n, tb, w, S, cp, cv, gone, ⟨f, B, hT, ht, hz⟩, hP, ⟨m, A, hA, hR⟩, hO⟩ := hI
  have hmk := hP.1
  by_cases h6 : w_p w = 6
  · skip
    refine q_aload_n d_La_law_309 rfl rfl ?_
    refine x_callV d_La_law_310 l_La_70 i_S_process v_S_process rfl hT.1 (c_S_process6 hG (tb := tb) (n0 := 0) hT h6) rfl rfl (Nat.le_of_ble_eq_true rfl) (Nat.le_of_ble_eq_true rfl) (show c + 0 ≤ 601024 by omega) (show s + 0 ≤ 7293034 by omega) ?_
    refine q_aload_n d_La_law_313 rfl rfl ?_
    refine x_callVm d_La_law_314 l_La_73 i_Mo_process v_Mo_process rfl hA.1 (c_Mo_process6 hG hA (by rw [hR.2.2.2.2.1.2.1, h6]; rfl)) rfl rfl (Nat.le_of_ble_eq_true rfl) (Nat.le_of_ble_eq_true rfl) (show c + 0 + 0 ≤ 601024 by omega) (show s + 0 + 0 ≤ 7293034 by omega) (fun m2 A2 hp2 hA2 hz2 => ?_)
    obtain ⟨v0, km, kA⟩ := hz2
    refine q_icmp_eq (tgt := 849) d_La_law_317 (by decide) (fun b => ?_) (fun b => ?_)
    · refine q_more (show c + 0 + 0 ≤ c + 1 by omega) (show s + 0 + 0 ≤ s + 6 by omega) (hJ hp2 _ _ ?_)
      exact I_L.fin ⟨f, B, hT, ht, hz⟩ hP hA2 (hR.keep km kA (by decide) (by decide)) hO
    · exact absurd (rfl) b
  · have h6 : w_p w < 6 := by have := hmk.1.2.1; omega
    obtain ⟨n0, hxo⟩ := hP.2.1
    have hx2 := hxo.wc (hmk.1.2.2.2 (w_p w) (by omega))
    have hz5 : ∀ v, v < w_n w → w_z w v ≤ 5 := fun v hv => (hmk.1.2.2.1 v (by have := hmk.1.1; omega)).2.1
    have hz1 : ∀ v, v < w_n w → 1 ≤ w_z w v := fun v hv => (hmk.1.2.2.1 v (by have := hmk.1.1; omega)).1
    have hmT : m_T n tb := ⟨ht.1, fun j hj => (ht.2 j hj).2⟩
    have hRT : R_T n tb (w_n w) (w_z w) m A := ⟨hR.1, hR.2.1, hR.2.2.2.2.1.1, fun v hv => (hR.2.2.2.2.1.2.2.1 v hv).1⟩
    have hxr := x_ok.rd (n := n) (tb := tb) hx2 hmk.1.1 hz5
    have hCr := hxr.2.2.2.2
    by_cases hk : x_k (x_ld n tb (w_n w) (w_z w) (x_wc S (w_c w (w_p w)))) = 0
    · skip
      refine q_aload_n d_La_law_309 rfl rfl ?_
      refine x_callVr d_La_law_310 l_La_70 i_S_process v_S_process rfl hT.1 (c_S_process1 hG hT h6 hmk.1 ht hxo hk) rfl rfl (Nat.le_of_ble_eq_true rfl) (Nat.le_of_ble_eq_true rfl) (show c + 0 ≤ 601024 by omega) (show s + 0 ≤ 7293034 by omega) (fun z1 h1 => ?_)
      have hA1 : M_A z1 m A z1 := hA.move (fun i a b => h1.2.2 i (by omega))
      have hO1 : O_P z1 := hO.keep (h1.2.2 110 (by omega))
      refine q_aload_n d_La_law_313 rfl rfl ?_
      refine x_callVm d_La_law_314 l_La_73 i_Mo_process v_Mo_process rfl hA1.1 (c_Mo_process1 hG hmT hmk.1.1 hz5 hx2 hRT h6 hR.2.2.2.2.1.2.1 hA1 hk) rfl rfl (Nat.le_of_ble_eq_true rfl) (Nat.le_of_ble_eq_true rfl) (show c + 0 + 0 ≤ 601024 by omega) (show s + 0 + 0 ≤ 7293034 by omega) (fun m2 A2 hp2 hA2 hz2 => ?_)
      obtain ⟨v0, v8, v3, v4, v37, v34, hD, hDk, e19, km, kA⟩ := hz2
      refine q_icmp_eq (tgt := 849) d_La_law_317 (by decide) (fun b => ?_) (fun b => ?_)
      · refine q_more (show c + 0 + 0 ≤ c + 1 by omega) (show s + 0 + 0 ≤ s + 6 by omega) (hJ hp2 _ _ ?_)
        have hmk2 : w_mk (w_in (w_sc w (w_p w) (x_C (x_rd n tb (w_n w) (w_z w) (x_wc S (w_c w (w_p w))))))) := hmk.in h6 hCr (ky_rd hz1) (x_bz.rd _)
        refine I_L.fin (w := w_in (w_sc w (w_p w) (x_C (x_rd n tb (w_n w) (w_z w) (x_wc S (w_c w (w_p w))))))) ⟨f, B_0 B, h1.1, ht, hz.fg⟩ (P_P.first hmk2 ⟨n, hxr⟩) hA2 ?_ hO1
        obtain ⟨r1, r2, r3, r4, r5, r6, r7, r8⟩ := hR
        refine ⟨(km 2 (by decide)).trans r1, by rw [kA 0 (by decide)]; exact r2, v3, v4, ⟨(km 5 (by decide)).trans r5.1, v8, ?_, fun q hq => ?_⟩, N_M.begin (w := w_in (w_sc w (w_p w) (x_C (x_rd n tb (w_n w) (w_z w) (x_wc S (w_c w (w_p w))))))) (A := A) hmk2 (fun v hv => (r5.2.2.1 v hv).2) e19, v34, Or.inl v37⟩
        · rw [kA 1 (by decide), kA 2 (by decide)]
          exact r5.2.2.1
        · have hq : q < w_p w + 1 := hq
          show D_M q (if q = w_p w then _ else w_c w q) A2
          by_cases e : q = w_p w
          · subst e
            rw [if_pos rfl]
            exact hD
          · rw [if_neg e]
            exact hDk q _ (by omega) (hmk.1.2.2.2 q (by omega)).2.1 (r5.2.2.2 q (by omega))
      · exact absurd (rfl) b
    · skip
      refine q_aload_n d_La_law_309 rfl rfl ?_
      refine x_callVr d_La_law_310 l_La_70 i_S_process v_S_process rfl hT.1 (d_S_process0 hG hT h6 hmk.1 ht hxo hk) rfl rfl (Nat.le_of_ble_eq_true rfl) (Nat.le_of_ble_eq_true rfl) (show c + 0 ≤ 601024 by omega) (show s + 0 ≤ 7293034 by omega) (fun z1 h1 => ?_)
      have hA1 : M_A z1 m A z1 := hA.move (fun i a b => h1.2.2 i (by omega))
      have hO1 : O_P z1 := hO.keep (h1.2.2 110 (by omega))
      refine q_aload_n d_La_law_313 rfl rfl ?_
      refine x_callVm d_La_law_314 l_La_73 i_Mo_process v_Mo_process rfl hA1.1 (c_Mo_process0 hG hmT hmk.1.1 hz5 hx2 hRT h6 hR.2.2.2.2.1.2.1 hA1 hk) rfl rfl (Nat.le_of_ble_eq_true rfl) (Nat.le_of_ble_eq_true rfl) (show c + 0 + 0 ≤ 601024 by omega) (show s + 0 + 0 ≤ 7293034 by omega) (fun m2 A2 hp2 hA2 hz2 => ?_)
      obtain ⟨v0, v8, v3, v4, km, kA⟩ := hz2
      refine q_icmp_eq (tgt := 849) d_La_law_317 (by decide) (fun b => ?_) (fun b => ?_)
      · refine q_more (show c + 0 + 0 ≤ c + 1 by omega) (show s + 0 + 0 ≤ s + 6 by omega) (hJ hp2 _ _ ?_)
        have hrd : x_rd n tb (w_n w) (w_z w) (x_wc S (w_c w (w_p w))) = x_ld n tb (w_n w) (w_z w) (x_wc S (w_c w (w_p w))) := by unfold x_rd; rw [if_neg hk]
        refine I_L.fin ⟨f, B, h1.1, ht, (e_z (e_sc w _) hz).keep (h1.2.2 _ (by omega)) (h1.2.2 _ (by omega))⟩ (hP.sc hCr ⟨n, hxr⟩) hA2 ?_ hO1
        obtain ⟨r1, r2, r3, r4, r5, r6, r7, r8⟩ := hR
        exact ⟨(km 2 (by decide)).trans r1, by rw [kA 0 (by decide)]; exact r2, by rw [hrd]; exact v3, by rw [hrd]; exact v4, (r5.keep (mo_K8 km v8 r5.2.1) kA (by decide) (by decide)).sc _, by unfold N_M; rw [kA 19 (by decide)]; exact r6, (km 34 (by decide)).trans r7, k_St_sc _ (k_St_keep r8 (km 37 (by decide)) (km 39 (by decide)) (km 40 (by decide)) (kA 24 (by decide)))⟩
      · exact absurd (rfl) b
end W3
