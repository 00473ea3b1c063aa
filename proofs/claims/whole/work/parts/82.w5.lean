/-! the law: feed, variable, told, now, has -/
section W5
variable {g : q_G}
theorem m_fb_of {x : Int32} (h : ¬ m_fb x) : ∃ k : Nat, 1 ≤ k ∧ k ≤ 8 ∧ x = nI k := by
  have h1 : ¬ x < 0 := fun q => h (Or.inl (Int32.lt_trans q (by decide)))
  obtain ⟨k, hk, rfl⟩ := nI_of2 (M := 8) (n := 8) (by decide) h1 (Int32.not_lt.mp (fun q => h (Or.inr q)))
  refine ⟨k, ?_, hk, rfl⟩
  by_cases q : 1 ≤ k
  · exact q
  · exact absurd (Or.inl (nI_lt (b := 1) (by omega) (by decide))) h
theorem m_vb_of {x y : Int32} (h : ¬ m_vb x y) : ∃ a b : Nat, 2 ≤ a ∧ a ≤ 5 ∧ b < a ∧ x = nI a ∧ y = nI b := by
  have h1 : ¬ x < 0 := fun q => h (Or.inl (Int32.lt_trans q (by decide)))
  have h2 : ¬ y < 0 := fun q => h (Or.inr (Or.inr (Or.inl q)))
  obtain ⟨a, ha, rfl⟩ := nI_of2 (M := 5) (n := 5) (by decide) h1 (Int32.not_lt.mp (fun q => h (Or.inr (Or.inl q))))
  obtain ⟨b, hb, rfl⟩ := nI_of h2
  refine ⟨a, b, ?_, ha, ?_, rfl, rfl⟩
  · by_cases q : 2 ≤ a
    · exact q
    · exact absurd (Or.inl (nI_lt (b := 2) (by omega) (by decide))) h
  · by_cases q : b < a
    · exact q
    · exact absurd (Or.inr (Or.inr (Or.inr (nI_le (by omega) hb)))) h
theorem m_np_of {x : Int32} {k : Nat} (h : ¬ m_np x k) (hk : k < 2 ^ 31) : ∃ i : Nat, i < k ∧ x = nI i := by
  obtain ⟨i, hi, rfl⟩ := nI_of (fun q => h (Or.inl q))
  refine ⟨i, ?_, rfl⟩
  by_cases q : i < k
  · exact q
  · exact absurd (Or.inr (nI_le (by omega) hi)) h
theorem m_tw_of {y : Int32} (h : ¬ m_tw y) : y = 0 ∨ y = 1 ∨ y = 2 := by
  obtain ⟨k, hk, rfl⟩ := nI_of2 (M := 2) (n := 2) (by decide) (fun q => h (Or.inl q)) (Int32.not_lt.mp (fun q => h (Or.inr q)))
  rcases (by omega : k = 0 ∨ k = 1 ∨ k = 2) with rfl | rfl | rfl
  · exact Or.inl rfl
  · exact Or.inr (Or.inl rfl)
  · exact Or.inr (Or.inr rfl)
set_option maxRecDepth 10000 in
set_option maxHeartbeats 2000000 in
theorem law_feed (hG : q_GG g) {P : Outcome → List va_E → Prop} {j c s : Nat} {hp : List va_E} {z5 z6 : Option Value} (hj : j + 4 ≤ (q_x g).2.1) (hL : (q_x g).2.1 ≤ 2048) (hJ : J_L g P (nI j) c s) (hc : c + 1 ≤ 601024) (hs : s + 6 ≤ 7293034) (hI : I_L hp) : q_J g m_La_law true rmL P 128 (lsL (nI j) z5 z6) [] hp c s true := by
  obtain ⟨n, tb, w, S, cp, cv, gone, ⟨f, B, hT, ht, hz⟩, hP, ⟨m, A, hA, hR⟩, hO⟩ := hI
  have hmk := hP.1
  obtain ⟨x, hx1⟩ : ∃ x, (q_x g).2.2 (j + 1) = x := ⟨_, rfl⟩
  obtain ⟨y, hx2⟩ : ∃ y, (q_x g).2.2 (j + 2) = y := ⟨_, rfl⟩
  obtain ⟨y3, hx3⟩ : ∃ y, (q_x g).2.2 (j + 3) = y := ⟨_, rfl⟩
  obtain ⟨X, hX, hY⟩ := wb_of (y.toInt64 <<< ((32 : Int32).toInt64 &&& 63) ||| y3.toInt64 &&& 4294967295)
  by_cases hb : m_fb x
  · skip
    refine q_aload_n d_La_law_128 rfl rfl ?_
    refine q_aload_n d_La_law_129 rfl rfl ?_
    refine q_iload d_La_law_130 rfl ?_
    refine q_iconst (v := 1) d_La_law_132 (by decide) ?_
    refine q_iadd d_La_law_133 ?_
    rw [nI_1]
    refine q_sald d_La_law_134 (sc_in hj hL (by decide)) ?_
    rw [nI_clamp (by omega), hx1]
    refine q_aload_n d_La_law_135 rfl rfl ?_
    refine q_iload d_La_law_136 rfl ?_
    refine q_iconst (v := 2) d_La_law_138 (by decide) ?_
    refine q_iadd d_La_law_139 ?_
    rw [show (2 : Int32) = nI 2 from rfl, nI_add]
    refine q_sald d_La_law_140 (sc_in hj hL (by decide)) ?_
    rw [nI_clamp (by omega), hx2]
    refine q_i2l d_La_law_141 ?_
    refine q_bipush (v := 32) d_La_law_142 (by decide) ?_
    refine q_lshl d_La_law_144 ?_
    refine q_aload_n d_La_law_145 rfl rfl ?_
    refine q_iload d_La_law_146 rfl ?_
    refine q_iconst (v := 3) d_La_law_148 (by decide) ?_
    refine q_iadd d_La_law_149 ?_
    rw [show (3 : Int32) = nI 3 from rfl, nI_add]
    refine q_sald d_La_law_150 (sc_in hj hL (by decide)) ?_
    rw [nI_clamp (by omega), hx3]
    refine q_i2l d_La_law_151 ?_
    refine q_ldc2 d_La_law_152 c_La_50 ?_
    refine q_land d_La_law_155 ?_
    refine q_lor d_La_law_156 ?_
    rw [hY]
    refine q_aload_n d_La_law_157 rfl rfl ?_
    refine x_her d_La_law_158 l_La_52 s_La_feed (h_feed_e1 hG (q_C.trl (c_S_feedX hG hb)) ⟨_, hT.1⟩ (show _ + 1 ≤ 8 by decide) (by decide) (by decide) (by decide)) rfl rfl (Nat.le_of_ble_eq_true rfl) (Nat.le_of_ble_eq_true rfl) hc hs (fun z hpA hz1 eA => ?_)
    have hC1 : C_P n tb w S cp cv gone hp := ⟨f, B, hT, ht, hz⟩
    have hO1 := hO
    have hfr : ∀ i, 84 ≤ i → hp[i]? = hp[i]? := fun _ _ => rfl
    have hq := app_110 eA hO1
    have hA1 : M_A hpA m A hpA := hA.move (fun i a b => (hq i (by omega)).trans (hfr i (by omega)))
    have hOA : O_P hpA := hO1.keep (hq 110 (by omega))
    have hCA := hC1.keep (fun i hi => hq i (by omega))
    refine q_istore d_La_law_161 (by decide) rfl ?_
    refine q_aload_n d_La_law_163 rfl rfl ?_
    refine q_aload_n d_La_law_164 rfl rfl ?_
    refine q_iload d_La_law_165 rfl ?_
    refine q_iconst (v := 1) d_La_law_167 (by decide) ?_
    refine q_iadd d_La_law_168 ?_
    rw [nI_1]
    refine q_sald d_La_law_169 (sc_in hj hL (by decide)) ?_
    rw [nI_clamp (by omega), hx1]
    refine q_aload_n d_La_law_170 rfl rfl ?_
    refine q_iload d_La_law_171 rfl ?_
    refine q_iconst (v := 2) d_La_law_173 (by decide) ?_
    refine q_iadd d_La_law_174 ?_
    rw [show (2 : Int32) = nI 2 from rfl, nI_add]
    refine q_sald d_La_law_175 (sc_in hj hL (by decide)) ?_
    rw [nI_clamp (by omega), hx2]
    refine q_i2l d_La_law_176 ?_
    refine q_bipush (v := 32) d_La_law_177 (by decide) ?_
    refine q_lshl d_La_law_179 ?_
    refine q_aload_n d_La_law_180 rfl rfl ?_
    refine q_iload d_La_law_181 rfl ?_
    refine q_iconst (v := 3) d_La_law_183 (by decide) ?_
    refine q_iadd d_La_law_184 ?_
    rw [show (3 : Int32) = nI 3 from rfl, nI_add]
    refine q_sald d_La_law_185 (sc_in hj hL (by decide)) ?_
    rw [nI_clamp (by omega), hx3]
    refine q_i2l d_La_law_186 ?_
    refine q_ldc2 d_La_law_187 c_La_50 ?_
    refine q_land d_La_law_190 ?_
    refine q_lor d_La_law_191 ?_
    rw [hY]
    refine x_callVm d_La_law_192 l_La_57 i_Mo_feed v_Mo_feed rfl hA1.1 (c_Mo_feedX hG hA1 hR.1 hb) rfl rfl (Nat.le_of_ble_eq_true rfl) (Nat.le_of_ble_eq_true rfl) (show c + 1 + 0 ≤ 601024 by omega) (show s + 6 + 0 ≤ 7293034 by omega) (fun m2 A2 hp2 hA2 hz2 => ?_)
    obtain ⟨v0, km, kA⟩ := hz2
    refine q_istore d_La_law_195 (by decide) rfl ?_
    refine q_aload_n d_La_law_197 rfl rfl ?_
    refine x_callV d_La_law_198 l_La_58 i_Mo_thrown v_Mo_thrown rfl hA2.1 (c_Mo_thrown hG hA2 v0) rfl rfl (Nat.le_of_ble_eq_true rfl) (Nat.le_of_ble_eq_true rfl) (show c + 1 + 0 + 0 ≤ 601024 by omega) (show s + 6 + 0 + 0 ≤ 7293034 by omega) ?_
    refine q_iload d_La_law_201 rfl ?_
    refine q_icmp_eq (tgt := 208) d_La_law_203 (by decide) (fun b203 => ?_) (fun b203 => ?_)
    · skip
      refine q_iload d_La_law_208 rfl ?_
      refine q_if_ne (tgt := 225) d_La_law_210 (by decide) (fun b210 => ?_) (fun b210 => ?_)
      · skip
        refine q_goto (tgt := 849) d_La_law_225 (by decide) ?_
        refine q_more (show c + 1 + 0 + 0 ≤ c + 1 by omega) (show s + 6 + 0 + 0 ≤ s + 6 by omega) (hJ _ _ _ ?_)
        exact I_L.fin hCA hP hA2 (hR.keep km kA (by decide) (by decide)) hOA
      · skip
        exact absurd b210 (by decide)
    · skip
      exact absurd rfl b203
  · obtain ⟨k, hk1, hk8, rfl⟩ := m_fb_of hb
    by_cases hn : n + k ≤ 100
    · skip
      refine q_aload_n d_La_law_128 rfl rfl ?_
      refine q_aload_n d_La_law_129 rfl rfl ?_
      refine q_iload d_La_law_130 rfl ?_
      refine q_iconst (v := 1) d_La_law_132 (by decide) ?_
      refine q_iadd d_La_law_133 ?_
      rw [nI_1]
      refine q_sald d_La_law_134 (sc_in hj hL (by decide)) ?_
      rw [nI_clamp (by omega), hx1]
      refine q_aload_n d_La_law_135 rfl rfl ?_
      refine q_iload d_La_law_136 rfl ?_
      refine q_iconst (v := 2) d_La_law_138 (by decide) ?_
      refine q_iadd d_La_law_139 ?_
      rw [show (2 : Int32) = nI 2 from rfl, nI_add]
      refine q_sald d_La_law_140 (sc_in hj hL (by decide)) ?_
      rw [nI_clamp (by omega), hx2]
      refine q_i2l d_La_law_141 ?_
      refine q_bipush (v := 32) d_La_law_142 (by decide) ?_
      refine q_lshl d_La_law_144 ?_
      refine q_aload_n d_La_law_145 rfl rfl ?_
      refine q_iload d_La_law_146 rfl ?_
      refine q_iconst (v := 3) d_La_law_148 (by decide) ?_
      refine q_iadd d_La_law_149 ?_
      rw [show (3 : Int32) = nI 3 from rfl, nI_add]
      refine q_sald d_La_law_150 (sc_in hj hL (by decide)) ?_
      rw [nI_clamp (by omega), hx3]
      refine q_i2l d_La_law_151 ?_
      refine q_ldc2 d_La_law_152 c_La_50 ?_
      refine q_land d_La_law_155 ?_
      refine q_lor d_La_law_156 ?_
      rw [hY]
      refine q_aload_n d_La_law_157 rfl rfl ?_
      refine x_hok d_La_law_158 l_La_52 s_La_feed (h_feed_ok hG (v := fun _ => nI (n + k)) (d_S_feed hG hT hk1 hk8 hn) (fun z hz1 => hO.keep (hz1.2.2 110 (by omega))) ⟨_, hT.1⟩ (show _ + 1 ≤ 8 by decide) (by decide) (by decide) (by decide)) rfl rfl (Nat.le_of_ble_eq_true rfl) (Nat.le_of_ble_eq_true rfl) hc hs (fun z fo hpA hz1 hfo eA => ?_)
      have hC1 : C_P (n + k) (t_ap X n k tb) w S cp cv gone z := ⟨_, B, hz1.1, ht.ap hX hk8 hn, hz.keep (hz1.2.2 _ (by omega)) (hz1.2.2 _ (by omega))⟩
      have hO1 : O_P z := hO.keep (hz1.2.2 110 (by omega))
      have hfr : ∀ i, 84 ≤ i → z[i]? = hp[i]? := fun i hi => hz1.2.2 i (by omega)
      have hq := set_110 eA hO1
      have hA1 : M_A hpA m A hpA := hA.move (fun i a b => (hq.1 i (by omega)).trans (hfr i (by omega)))
      have hOA : O_P hpA := ⟨fo, hq.2⟩
      have hCA := hC1.keep (fun i hi => hq.1 i (by omega))
      refine q_istore d_La_law_161 (by decide) rfl ?_
      refine q_aload_n d_La_law_163 rfl rfl ?_
      refine q_aload_n d_La_law_164 rfl rfl ?_
      refine q_iload d_La_law_165 rfl ?_
      refine q_iconst (v := 1) d_La_law_167 (by decide) ?_
      refine q_iadd d_La_law_168 ?_
      rw [nI_1]
      refine q_sald d_La_law_169 (sc_in hj hL (by decide)) ?_
      rw [nI_clamp (by omega), hx1]
      refine q_aload_n d_La_law_170 rfl rfl ?_
      refine q_iload d_La_law_171 rfl ?_
      refine q_iconst (v := 2) d_La_law_173 (by decide) ?_
      refine q_iadd d_La_law_174 ?_
      rw [show (2 : Int32) = nI 2 from rfl, nI_add]
      refine q_sald d_La_law_175 (sc_in hj hL (by decide)) ?_
      rw [nI_clamp (by omega), hx2]
      refine q_i2l d_La_law_176 ?_
      refine q_bipush (v := 32) d_La_law_177 (by decide) ?_
      refine q_lshl d_La_law_179 ?_
      refine q_aload_n d_La_law_180 rfl rfl ?_
      refine q_iload d_La_law_181 rfl ?_
      refine q_iconst (v := 3) d_La_law_183 (by decide) ?_
      refine q_iadd d_La_law_184 ?_
      rw [show (3 : Int32) = nI 3 from rfl, nI_add]
      refine q_sald d_La_law_185 (sc_in hj hL (by decide)) ?_
      rw [nI_clamp (by omega), hx3]
      refine q_i2l d_La_law_186 ?_
      refine q_ldc2 d_La_law_187 c_La_50 ?_
      refine q_land d_La_law_190 ?_
      refine q_lor d_La_law_191 ?_
      rw [hY]
      refine x_callVm d_La_law_192 l_La_57 i_Mo_feed v_Mo_feed rfl hA1.1 (c_Mo_feed hG hA1 hR.1 hk1 hk8 hn) rfl rfl (Nat.le_of_ble_eq_true rfl) (Nat.le_of_ble_eq_true rfl) (show c + 1 + 0 ≤ 601024 by omega) (show s + 6 + 0 ≤ 7293034 by omega) (fun m2 A2 hp2 hA2 hz2 => ?_)
      obtain ⟨v0, v2, a0, km, kA⟩ := hz2
      have h_o : hp2[110]? = some (a_J 1 fo) := (hA2.2.2.2 110 (Or.inr (by omega))).trans hq.2
      refine q_istore d_La_law_195 (by decide) rfl ?_
      refine q_aload_n d_La_law_197 rfl rfl ?_
      refine x_callV d_La_law_198 l_La_58 i_Mo_thrown v_Mo_thrown rfl hA2.1 (c_Mo_thrown hG hA2 v0) rfl rfl (Nat.le_of_ble_eq_true rfl) (Nat.le_of_ble_eq_true rfl) (show c + 1 + 0 + 0 ≤ 601024 by omega) (show s + 6 + 0 + 0 ≤ 7293034 by omega) ?_
      refine q_iload d_La_law_201 rfl ?_
      refine q_icmp_eq (tgt := 208) d_La_law_203 (by decide) (fun b203 => ?_) (fun b203 => ?_)
      · skip
        refine q_iload d_La_law_208 rfl ?_
        refine q_if_ne (tgt := 225) d_La_law_210 (by decide) (fun b210 => ?_) (fun b210 => ?_)
        · skip
          exact absurd rfl b210
        · skip
          refine q_aload_n d_La_law_213 rfl rfl ?_
          refine q_iconst (v := 0) d_La_law_214 (by decide) ?_
          refine q_lald d_La_law_215 h_o rfl (vp_in_nI (n := 0) (by decide) (by decide)) ?_
          rw [show (0 : Int32).toNatClampNeg = 0 from rfl, hfo]
          refine q_iload d_La_law_216 rfl ?_
          refine q_i2l d_La_law_218 ?_
          refine q_lcmp d_La_law_219 ?_
          refine q_if_eq (tgt := 225) d_La_law_220 (by decide) (fun b220 => ?_) (fun b220 => ?_)
          · skip
            refine q_goto (tgt := 849) d_La_law_225 (by decide) ?_
            refine q_more (show c + 1 + 0 + 0 ≤ c + 1 by omega) (show s + 6 + 0 + 0 ≤ s + 6 by omega) (hJ _ _ _ ?_)
            refine I_L.fin hCA hP hA2 ?_ hOA
            obtain ⟨r1, r2, r3, r4, r5, r6, r7, r8⟩ := hR
            refine ⟨v2, fun q hq => ?_, (km 3 (by decide)).trans r3, (km 4 (by decide)).trans r4, r5.keep km kA (by decide) (by decide), by unfold N_M; rw [kA 19 (by decide)]; exact r6, (km 34 (by decide)).trans r7, k_St_keep r8 (km 37 (by decide)) (km 39 (by decide)) (km 40 (by decide)) (kA 24 (by decide))⟩
            rw [a0]
            show (if n ≤ q ∧ q < n + k then nI _ else A 0 q) = nI (if n ≤ q ∧ q < n + k then _ else tb q)
            by_cases e : n ≤ q ∧ q < n + k
            · rw [if_pos e, if_pos e]
            · rw [if_neg e, if_neg e]
              exact r2 q (by omega)
          · skip
            exact absurd (ss_lg.mpr (congrArg Int32.toInt64 (rfl))) b220
      · skip
        exact absurd rfl b203
    · skip
      refine q_aload_n d_La_law_128 rfl rfl ?_
      refine q_aload_n d_La_law_129 rfl rfl ?_
      refine q_iload d_La_law_130 rfl ?_
      refine q_iconst (v := 1) d_La_law_132 (by decide) ?_
      refine q_iadd d_La_law_133 ?_
      rw [nI_1]
      refine q_sald d_La_law_134 (sc_in hj hL (by decide)) ?_
      rw [nI_clamp (by omega), hx1]
      refine q_aload_n d_La_law_135 rfl rfl ?_
      refine q_iload d_La_law_136 rfl ?_
      refine q_iconst (v := 2) d_La_law_138 (by decide) ?_
      refine q_iadd d_La_law_139 ?_
      rw [show (2 : Int32) = nI 2 from rfl, nI_add]
      refine q_sald d_La_law_140 (sc_in hj hL (by decide)) ?_
      rw [nI_clamp (by omega), hx2]
      refine q_i2l d_La_law_141 ?_
      refine q_bipush (v := 32) d_La_law_142 (by decide) ?_
      refine q_lshl d_La_law_144 ?_
      refine q_aload_n d_La_law_145 rfl rfl ?_
      refine q_iload d_La_law_146 rfl ?_
      refine q_iconst (v := 3) d_La_law_148 (by decide) ?_
      refine q_iadd d_La_law_149 ?_
      rw [show (3 : Int32) = nI 3 from rfl, nI_add]
      refine q_sald d_La_law_150 (sc_in hj hL (by decide)) ?_
      rw [nI_clamp (by omega), hx3]
      refine q_i2l d_La_law_151 ?_
      refine q_ldc2 d_La_law_152 c_La_50 ?_
      refine q_land d_La_law_155 ?_
      refine q_lor d_La_law_156 ?_
      rw [hY]
      refine q_aload_n d_La_law_157 rfl rfl ?_
      refine x_hok d_La_law_158 l_La_52 s_La_feed (h_feed_ok hG (v := fun _ => -1) (d_S_feed0 hG hT hk1 hk8 ht.1 (by omega)) (fun z hz1 => hO.keep (hz1.2.2 110 (by omega))) ⟨_, hT.1⟩ (show _ + 1 ≤ 8 by decide) (by decide) (by decide) (by decide)) rfl rfl (Nat.le_of_ble_eq_true rfl) (Nat.le_of_ble_eq_true rfl) hc hs (fun z fo hpA hz1 hfo eA => ?_)
      have hC1 : C_P n tb w S cp cv gone z := ⟨_, B, hz1.1, ht, hz.keep (hz1.2.2 _ (by omega)) (hz1.2.2 _ (by omega))⟩
      have hO1 : O_P z := hO.keep (hz1.2.2 110 (by omega))
      have hfr : ∀ i, 84 ≤ i → z[i]? = hp[i]? := fun i hi => hz1.2.2 i (by omega)
      have hq := set_110 eA hO1
      have hA1 : M_A hpA m A hpA := hA.move (fun i a b => (hq.1 i (by omega)).trans (hfr i (by omega)))
      have hOA : O_P hpA := ⟨fo, hq.2⟩
      have hCA := hC1.keep (fun i hi => hq.1 i (by omega))
      refine q_istore d_La_law_161 (by decide) rfl ?_
      refine q_aload_n d_La_law_163 rfl rfl ?_
      refine q_aload_n d_La_law_164 rfl rfl ?_
      refine q_iload d_La_law_165 rfl ?_
      refine q_iconst (v := 1) d_La_law_167 (by decide) ?_
      refine q_iadd d_La_law_168 ?_
      rw [nI_1]
      refine q_sald d_La_law_169 (sc_in hj hL (by decide)) ?_
      rw [nI_clamp (by omega), hx1]
      refine q_aload_n d_La_law_170 rfl rfl ?_
      refine q_iload d_La_law_171 rfl ?_
      refine q_iconst (v := 2) d_La_law_173 (by decide) ?_
      refine q_iadd d_La_law_174 ?_
      rw [show (2 : Int32) = nI 2 from rfl, nI_add]
      refine q_sald d_La_law_175 (sc_in hj hL (by decide)) ?_
      rw [nI_clamp (by omega), hx2]
      refine q_i2l d_La_law_176 ?_
      refine q_bipush (v := 32) d_La_law_177 (by decide) ?_
      refine q_lshl d_La_law_179 ?_
      refine q_aload_n d_La_law_180 rfl rfl ?_
      refine q_iload d_La_law_181 rfl ?_
      refine q_iconst (v := 3) d_La_law_183 (by decide) ?_
      refine q_iadd d_La_law_184 ?_
      rw [show (3 : Int32) = nI 3 from rfl, nI_add]
      refine q_sald d_La_law_185 (sc_in hj hL (by decide)) ?_
      rw [nI_clamp (by omega), hx3]
      refine q_i2l d_La_law_186 ?_
      refine q_ldc2 d_La_law_187 c_La_50 ?_
      refine q_land d_La_law_190 ?_
      refine q_lor d_La_law_191 ?_
      rw [hY]
      refine x_callVm d_La_law_192 l_La_57 i_Mo_feed v_Mo_feed rfl hA1.1 (c_Mo_feed0 hG hA1 hR.1 hk1 hk8 ht.1 (by omega)) rfl rfl (Nat.le_of_ble_eq_true rfl) (Nat.le_of_ble_eq_true rfl) (show c + 1 + 0 ≤ 601024 by omega) (show s + 6 + 0 ≤ 7293034 by omega) (fun m2 A2 hp2 hA2 hz2 => ?_)
      obtain ⟨v0, km, kA⟩ := hz2
      have h_o : hp2[110]? = some (a_J 1 fo) := (hA2.2.2.2 110 (Or.inr (by omega))).trans hq.2
      refine q_istore d_La_law_195 (by decide) rfl ?_
      refine q_aload_n d_La_law_197 rfl rfl ?_
      refine x_callV d_La_law_198 l_La_58 i_Mo_thrown v_Mo_thrown rfl hA2.1 (c_Mo_thrown hG hA2 v0) rfl rfl (Nat.le_of_ble_eq_true rfl) (Nat.le_of_ble_eq_true rfl) (show c + 1 + 0 + 0 ≤ 601024 by omega) (show s + 6 + 0 + 0 ≤ 7293034 by omega) ?_
      refine q_iload d_La_law_201 rfl ?_
      refine q_icmp_eq (tgt := 208) d_La_law_203 (by decide) (fun b203 => ?_) (fun b203 => ?_)
      · skip
        refine q_iload d_La_law_208 rfl ?_
        refine q_if_ne (tgt := 225) d_La_law_210 (by decide) (fun b210 => ?_) (fun b210 => ?_)
        · skip
          exact absurd rfl b210
        · skip
          refine q_aload_n d_La_law_213 rfl rfl ?_
          refine q_iconst (v := 0) d_La_law_214 (by decide) ?_
          refine q_lald d_La_law_215 h_o rfl (vp_in_nI (n := 0) (by decide) (by decide)) ?_
          rw [show (0 : Int32).toNatClampNeg = 0 from rfl, hfo]
          refine q_iload d_La_law_216 rfl ?_
          refine q_i2l d_La_law_218 ?_
          refine q_lcmp d_La_law_219 ?_
          refine q_if_eq (tgt := 225) d_La_law_220 (by decide) (fun b220 => ?_) (fun b220 => ?_)
          · skip
            refine q_goto (tgt := 849) d_La_law_225 (by decide) ?_
            refine q_more (show c + 1 + 0 + 0 ≤ c + 1 by omega) (show s + 6 + 0 + 0 ≤ s + 6 by omega) (hJ _ _ _ ?_)
            exact I_L.fin hCA hP hA2 (hR.keep km kA (by decide) (by decide)) hOA
          · skip
            exact absurd (ss_lg.mpr (congrArg Int32.toInt64 (rfl))) b220
      · skip
        exact absurd rfl b203
set_option maxRecDepth 10000 in
set_option maxHeartbeats 2000000 in
theorem law_variable (hG : q_GG g) {P : Outcome → List va_E → Prop} {j c s : Nat} {hp : List va_E} {z5 z6 : Option Value} (hj : j + 4 ≤ (q_x g).2.1) (hL : (q_x g).2.1 ≤ 2048) (hJ : J_L g P (nI j) c s) (hc : c + 1 ≤ 601024) (hs : s + 6 ≤ 7293034) (hI : I_L hp) : q_J g m_La_law true rmL P 241 (lsL (nI j) z5 z6) [] hp c s true := by
  obtain ⟨n, tb, w, S, cp, cv, gone, ⟨f, B, hT, ht, hz⟩, hP, ⟨m, A, hA, hR⟩, hO⟩ := hI
  have hmk := hP.1
  obtain ⟨x, hx1⟩ : ∃ x, (q_x g).2.2 (j + 1) = x := ⟨_, rfl⟩
  obtain ⟨y, hx2⟩ : ∃ y, (q_x g).2.2 (j + 2) = y := ⟨_, rfl⟩
  by_cases hb : m_vb x y
  · skip
    refine q_aload_n d_La_law_241 rfl rfl ?_
    refine q_aload_n d_La_law_242 rfl rfl ?_
    refine q_iload d_La_law_243 rfl ?_
    refine q_iconst (v := 1) d_La_law_245 (by decide) ?_
    refine q_iadd d_La_law_246 ?_
    rw [nI_1]
    refine q_sald d_La_law_247 (sc_in hj hL (by decide)) ?_
    rw [nI_clamp (by omega), hx1]
    refine q_aload_n d_La_law_248 rfl rfl ?_
    refine q_iload d_La_law_249 rfl ?_
    refine q_iconst (v := 2) d_La_law_251 (by decide) ?_
    refine q_iadd d_La_law_252 ?_
    rw [show (2 : Int32) = nI 2 from rfl, nI_add]
    refine q_sald d_La_law_253 (sc_in hj hL (by decide)) ?_
    rw [nI_clamp (by omega), hx2]
    refine q_aload_n d_La_law_254 rfl rfl ?_
    refine x_her d_La_law_255 l_La_66 s_La_variable (h_variable_e1 hG (q_C.trl (c_S_variableX hG hb)) ⟨_, hT.1⟩ (show _ + 1 ≤ 8 by decide) (by decide) (by decide) (by decide)) rfl rfl (Nat.le_of_ble_eq_true rfl) (Nat.le_of_ble_eq_true rfl) hc hs (fun z hpA hz1 eA => ?_)
    have hC1 : C_P n tb w S cp cv gone hp := ⟨f, B, hT, ht, hz⟩
    have hO1 := hO
    have hfr : ∀ i, 84 ≤ i → hp[i]? = hp[i]? := fun _ _ => rfl
    have hq := app_110 eA hO1
    have hA1 : M_A hpA m A hpA := hA.move (fun i a b => (hq i (by omega)).trans (hfr i (by omega)))
    have hOA : O_P hpA := hO1.keep (hq 110 (by omega))
    have hCA := hC1.keep (fun i hi => hq i (by omega))
    refine q_istore d_La_law_258 (by decide) rfl ?_
    refine q_aload_n d_La_law_260 rfl rfl ?_
    refine q_aload_n d_La_law_261 rfl rfl ?_
    refine q_iload d_La_law_262 rfl ?_
    refine q_iconst (v := 1) d_La_law_264 (by decide) ?_
    refine q_iadd d_La_law_265 ?_
    rw [nI_1]
    refine q_sald d_La_law_266 (sc_in hj hL (by decide)) ?_
    rw [nI_clamp (by omega), hx1]
    refine q_aload_n d_La_law_267 rfl rfl ?_
    refine q_iload d_La_law_268 rfl ?_
    refine q_iconst (v := 2) d_La_law_270 (by decide) ?_
    refine q_iadd d_La_law_271 ?_
    rw [show (2 : Int32) = nI 2 from rfl, nI_add]
    refine q_sald d_La_law_272 (sc_in hj hL (by decide)) ?_
    rw [nI_clamp (by omega), hx2]
    refine x_callVm d_La_law_273 l_La_69 i_Mo_variable v_Mo_variable rfl hA1.1 (c_Mo_variableX hG hA1 hR.2.2.2.2.1.1 hb) rfl rfl (Nat.le_of_ble_eq_true rfl) (Nat.le_of_ble_eq_true rfl) (show c + 1 + 0 ≤ 601024 by omega) (show s + 6 + 0 ≤ 7293034 by omega) (fun m2 A2 hp2 hA2 hz2 => ?_)
    obtain ⟨v0, km, kA⟩ := hz2
    refine q_istore d_La_law_276 (by decide) rfl ?_
    refine q_aload_n d_La_law_278 rfl rfl ?_
    refine x_callV d_La_law_279 l_La_58 i_Mo_thrown v_Mo_thrown rfl hA2.1 (c_Mo_thrown hG hA2 v0) rfl rfl (Nat.le_of_ble_eq_true rfl) (Nat.le_of_ble_eq_true rfl) (show c + 1 + 0 + 0 ≤ 601024 by omega) (show s + 6 + 0 + 0 ≤ 7293034 by omega) ?_
    refine q_iload d_La_law_282 rfl ?_
    refine q_icmp_eq (tgt := 289) d_La_law_284 (by decide) (fun b284 => ?_) (fun b284 => ?_)
    · skip
      refine q_iload d_La_law_289 rfl ?_
      refine q_if_ne (tgt := 306) d_La_law_291 (by decide) (fun b291 => ?_) (fun b291 => ?_)
      · skip
        refine q_goto (tgt := 849) d_La_law_306 (by decide) ?_
        refine q_more (show c + 1 + 0 + 0 ≤ c + 1 by omega) (show s + 6 + 0 + 0 ≤ s + 6 by omega) (hJ _ _ _ ?_)
        exact I_L.fin hCA hP hA2 (hR.keep km kA (by decide) (by decide)) hOA
      · skip
        exact absurd b291 (by decide)
    · skip
      exact absurd rfl b284
  · obtain ⟨a, b, ha2, ha5, hba, rfl, rfl⟩ := m_vb_of hb
    by_cases h5 : w_n w = 5
    · skip
      refine q_aload_n d_La_law_241 rfl rfl ?_
      refine q_aload_n d_La_law_242 rfl rfl ?_
      refine q_iload d_La_law_243 rfl ?_
      refine q_iconst (v := 1) d_La_law_245 (by decide) ?_
      refine q_iadd d_La_law_246 ?_
      rw [nI_1]
      refine q_sald d_La_law_247 (sc_in hj hL (by decide)) ?_
      rw [nI_clamp (by omega), hx1]
      refine q_aload_n d_La_law_248 rfl rfl ?_
      refine q_iload d_La_law_249 rfl ?_
      refine q_iconst (v := 2) d_La_law_251 (by decide) ?_
      refine q_iadd d_La_law_252 ?_
      rw [show (2 : Int32) = nI 2 from rfl, nI_add]
      refine q_sald d_La_law_253 (sc_in hj hL (by decide)) ?_
      rw [nI_clamp (by omega), hx2]
      refine q_aload_n d_La_law_254 rfl rfl ?_
      refine x_hok d_La_law_255 l_La_66 s_La_variable (h_variable_ok hG (v := fun _ => -1) (q_C.rel (c_S_variable5 hG hT ha2 ha5 hba h5)) (fun _ _ => hO) ⟨_, hT.1⟩ (show _ + 1 ≤ 8 by decide) (by decide) (by decide) (by decide)) rfl rfl (Nat.le_of_ble_eq_true rfl) (Nat.le_of_ble_eq_true rfl) hc hs (fun z fo hpA hz1 hfo eA => ?_)
      have hC1 : C_P n tb w S cp cv gone hp := ⟨f, B, hT, ht, hz⟩
      have hO1 := hO
      have hfr : ∀ i, 84 ≤ i → hp[i]? = hp[i]? := fun _ _ => rfl
      have hq := set_110 eA hO1
      have hA1 : M_A hpA m A hpA := hA.move (fun i a b => (hq.1 i (by omega)).trans (hfr i (by omega)))
      have hOA : O_P hpA := ⟨fo, hq.2⟩
      have hCA := hC1.keep (fun i hi => hq.1 i (by omega))
      refine q_istore d_La_law_258 (by decide) rfl ?_
      refine q_aload_n d_La_law_260 rfl rfl ?_
      refine q_aload_n d_La_law_261 rfl rfl ?_
      refine q_iload d_La_law_262 rfl ?_
      refine q_iconst (v := 1) d_La_law_264 (by decide) ?_
      refine q_iadd d_La_law_265 ?_
      rw [nI_1]
      refine q_sald d_La_law_266 (sc_in hj hL (by decide)) ?_
      rw [nI_clamp (by omega), hx1]
      refine q_aload_n d_La_law_267 rfl rfl ?_
      refine q_iload d_La_law_268 rfl ?_
      refine q_iconst (v := 2) d_La_law_270 (by decide) ?_
      refine q_iadd d_La_law_271 ?_
      rw [show (2 : Int32) = nI 2 from rfl, nI_add]
      refine q_sald d_La_law_272 (sc_in hj hL (by decide)) ?_
      rw [nI_clamp (by omega), hx2]
      refine x_callVm d_La_law_273 l_La_69 i_Mo_variable v_Mo_variable rfl hA1.1 (c_Mo_variable5 hG hA1 (by rw [hR.2.2.2.2.1.1, h5]; rfl) hb) rfl rfl (Nat.le_of_ble_eq_true rfl) (Nat.le_of_ble_eq_true rfl) (show c + 1 + 0 ≤ 601024 by omega) (show s + 6 + 0 ≤ 7293034 by omega) (fun m2 A2 hp2 hA2 hz2 => ?_)
      obtain ⟨v0, km, kA⟩ := hz2
      have h_o : hp2[110]? = some (a_J 1 fo) := (hA2.2.2.2 110 (Or.inr (by omega))).trans hq.2
      refine q_istore d_La_law_276 (by decide) rfl ?_
      refine q_aload_n d_La_law_278 rfl rfl ?_
      refine x_callV d_La_law_279 l_La_58 i_Mo_thrown v_Mo_thrown rfl hA2.1 (c_Mo_thrown hG hA2 v0) rfl rfl (Nat.le_of_ble_eq_true rfl) (Nat.le_of_ble_eq_true rfl) (show c + 1 + 0 + 0 ≤ 601024 by omega) (show s + 6 + 0 + 0 ≤ 7293034 by omega) ?_
      refine q_iload d_La_law_282 rfl ?_
      refine q_icmp_eq (tgt := 289) d_La_law_284 (by decide) (fun b284 => ?_) (fun b284 => ?_)
      · skip
        refine q_iload d_La_law_289 rfl ?_
        refine q_if_ne (tgt := 306) d_La_law_291 (by decide) (fun b291 => ?_) (fun b291 => ?_)
        · skip
          exact absurd rfl b291
        · skip
          refine q_aload_n d_La_law_294 rfl rfl ?_
          refine q_iconst (v := 0) d_La_law_295 (by decide) ?_
          refine q_lald d_La_law_296 h_o rfl (vp_in_nI (n := 0) (by decide) (by decide)) ?_
          rw [show (0 : Int32).toNatClampNeg = 0 from rfl, hfo]
          refine q_iload d_La_law_297 rfl ?_
          refine q_i2l d_La_law_299 ?_
          refine q_lcmp d_La_law_300 ?_
          refine q_if_eq (tgt := 306) d_La_law_301 (by decide) (fun b301 => ?_) (fun b301 => ?_)
          · skip
            refine q_goto (tgt := 849) d_La_law_306 (by decide) ?_
            refine q_more (show c + 1 + 0 + 0 ≤ c + 1 by omega) (show s + 6 + 0 + 0 ≤ s + 6 by omega) (hJ _ _ _ ?_)
            exact I_L.fin hCA hP hA2 (hR.keep km kA (by decide) (by decide)) hOA
          · skip
            exact absurd (ss_lg.mpr (congrArg Int32.toInt64 (rfl))) b301
      · skip
        exact absurd rfl b284
    · have h5 : w_n w < 5 := by have := hmk.1.1; omega
      refine q_aload_n d_La_law_241 rfl rfl ?_
      refine q_aload_n d_La_law_242 rfl rfl ?_
      refine q_iload d_La_law_243 rfl ?_
      refine q_iconst (v := 1) d_La_law_245 (by decide) ?_
      refine q_iadd d_La_law_246 ?_
      rw [nI_1]
      refine q_sald d_La_law_247 (sc_in hj hL (by decide)) ?_
      rw [nI_clamp (by omega), hx1]
      refine q_aload_n d_La_law_248 rfl rfl ?_
      refine q_iload d_La_law_249 rfl ?_
      refine q_iconst (v := 2) d_La_law_251 (by decide) ?_
      refine q_iadd d_La_law_252 ?_
      rw [show (2 : Int32) = nI 2 from rfl, nI_add]
      refine q_sald d_La_law_253 (sc_in hj hL (by decide)) ?_
      rw [nI_clamp (by omega), hx2]
      refine q_aload_n d_La_law_254 rfl rfl ?_
      refine x_hok d_La_law_255 l_La_66 s_La_variable (h_variable_ok hG (v := fun _ => nI (w_n w)) (c_S_variable hG hT ha2 ha5 hba h5) (fun z hz1 => hO.keep (hz1.2.2 110 (by omega))) ⟨_, hT.1⟩ (show _ + 1 ≤ 8 by decide) (by decide) (by decide) (by decide)) rfl rfl (Nat.le_of_ble_eq_true rfl) (Nat.le_of_ble_eq_true rfl) hc hs (fun z fo hpA hz1 hfo eA => ?_)
      have hmk2 : w_mk (w_av w a b) := hmk.av h5 ha2 ha5 hba
      have hC1 : C_P n tb (w_av w a b) S (cp0 cp) (cv0 (w_f (w_av w a b)) cv) 0 z := ⟨f, B_0 B, hz1.1, ht, hz.fg⟩
      have hO1 : O_P z := hO.keep (hz1.2.2 110 (by omega))
      have hfr : ∀ i, 84 ≤ i → z[i]? = hp[i]? := fun i hi => hz1.2.2 i (by omega)
      have hq := set_110 eA hO1
      have hA1 : M_A hpA m A hpA := hA.move (fun i a b => (hq.1 i (by omega)).trans (hfr i (by omega)))
      have hOA : O_P hpA := ⟨fo, hq.2⟩
      have hCA := hC1.keep (fun i hi => hq.1 i (by omega))
      refine q_istore d_La_law_258 (by decide) rfl ?_
      refine q_aload_n d_La_law_260 rfl rfl ?_
      refine q_aload_n d_La_law_261 rfl rfl ?_
      refine q_iload d_La_law_262 rfl ?_
      refine q_iconst (v := 1) d_La_law_264 (by decide) ?_
      refine q_iadd d_La_law_265 ?_
      rw [nI_1]
      refine q_sald d_La_law_266 (sc_in hj hL (by decide)) ?_
      rw [nI_clamp (by omega), hx1]
      refine q_aload_n d_La_law_267 rfl rfl ?_
      refine q_iload d_La_law_268 rfl ?_
      refine q_iconst (v := 2) d_La_law_270 (by decide) ?_
      refine q_iadd d_La_law_271 ?_
      rw [show (2 : Int32) = nI 2 from rfl, nI_add]
      refine q_sald d_La_law_272 (sc_in hj hL (by decide)) ?_
      rw [nI_clamp (by omega), hx2]
      refine x_callVm d_La_law_273 l_La_69 i_Mo_variable v_Mo_variable rfl hA1.1 (c_Mo_variable hG hA1 hR.2.2.2.2.1.1 h5 hb) rfl rfl (Nat.le_of_ble_eq_true rfl) (Nat.le_of_ble_eq_true rfl) (show c + 1 + 0 ≤ 601024 by omega) (show s + 6 + 0 ≤ 7293034 by omega) (fun m2 A2 hp2 hA2 hz2 => ?_)
      obtain ⟨v0, v5, v37, v34, e1, e2, e19, km, kA⟩ := hz2
      have h_o : hp2[110]? = some (a_J 1 fo) := (hA2.2.2.2 110 (Or.inr (by omega))).trans hq.2
      refine q_istore d_La_law_276 (by decide) rfl ?_
      refine q_aload_n d_La_law_278 rfl rfl ?_
      refine x_callV d_La_law_279 l_La_58 i_Mo_thrown v_Mo_thrown rfl hA2.1 (c_Mo_thrown hG hA2 v0) rfl rfl (Nat.le_of_ble_eq_true rfl) (Nat.le_of_ble_eq_true rfl) (show c + 1 + 0 + 0 ≤ 601024 by omega) (show s + 6 + 0 + 0 ≤ 7293034 by omega) ?_
      refine q_iload d_La_law_282 rfl ?_
      refine q_icmp_eq (tgt := 289) d_La_law_284 (by decide) (fun b284 => ?_) (fun b284 => ?_)
      · skip
        refine q_iload d_La_law_289 rfl ?_
        refine q_if_ne (tgt := 306) d_La_law_291 (by decide) (fun b291 => ?_) (fun b291 => ?_)
        · skip
          exact absurd rfl b291
        · skip
          refine q_aload_n d_La_law_294 rfl rfl ?_
          refine q_iconst (v := 0) d_La_law_295 (by decide) ?_
          refine q_lald d_La_law_296 h_o rfl (vp_in_nI (n := 0) (by decide) (by decide)) ?_
          rw [show (0 : Int32).toNatClampNeg = 0 from rfl, hfo]
          refine q_iload d_La_law_297 rfl ?_
          refine q_i2l d_La_law_299 ?_
          refine q_lcmp d_La_law_300 ?_
          refine q_if_eq (tgt := 306) d_La_law_301 (by decide) (fun b301 => ?_) (fun b301 => ?_)
          · skip
            refine q_goto (tgt := 849) d_La_law_306 (by decide) ?_
            refine q_more (show c + 1 + 0 + 0 ≤ c + 1 by omega) (show s + 6 + 0 + 0 ≤ s + 6 by omega) (hJ _ _ _ ?_)
            refine I_L.fin hCA (P_P.first hmk2 hP.2.1) hA2 ?_ hOA
            obtain ⟨r1, r2, r3, r4, r5, r6, r7, r8⟩ := hR
            have hf : ∀ v, v < w_n (w_av w a b) → upd (A 2) (w_n w) (nI b) v = nI (w_f (w_av w a b) v) := fun v hv => by
              have hv : v < w_n w + 1 := hv
              show _ = nI (va_up (w_f w) (w_n w) b v)
              by_cases e : v = w_n w
              · subst e
                rw [m_upd, va_up_self]
              · rw [upd_ne e, va_up_ne _ _ e]
                exact (r5.2.2.1 v (by omega)).2
            refine ⟨(km 2 (by decide)).trans r1, by rw [kA 0 (by decide)]; exact r2, (km 3 (by decide)).trans r3, (km 4 (by decide)).trans r4, ⟨v5, (km 8 (by decide)).trans r5.2.1, fun v hv => ⟨?_, by rw [e2]; exact hf v hv⟩, fun q hq => ?_⟩, N_M.begin (w := w_av w a b) (A := fun k => if k = 2 then upd (A 2) (w_n w) (nI b) else A k) hmk2 (fun v hv => hf v hv) e19, v34, Or.inl v37⟩
            · have hv : v < w_n w + 1 := hv
              rw [e1]
              show _ = nI (va_up (w_z w) (w_n w) a v)
              by_cases e : v = w_n w
              · subst e
                rw [m_upd, va_up_self]
              · rw [upd_ne e, va_up_ne _ _ e]
                exact (r5.2.2.1 v (by omega)).1
            · have d := r5.2.2.2 q hq
              unfold D_M
              rw [kA 3 (by decide), kA 4 (by decide), kA 5 (by decide), kA 6 (by decide), kA 7 (by decide), kA 8 (by decide)]
              exact d
          · skip
            exact absurd (ss_lg.mpr (congrArg Int32.toInt64 (rfl))) b301
      · skip
        exact absurd rfl b284
set_option maxRecDepth 10000 in
set_option maxHeartbeats 2000000 in
theorem law_told (hG : q_GG g) {P : Outcome → List va_E → Prop} {j c s : Nat} {hp : List va_E} {z5 z6 : Option Value} (hno : (q_s g).vm.assignable ((q_D g).1 10) ((q_D g).1 11) = false) (hj : j + 4 ≤ (q_x g).2.1) (hL : (q_x g).2.1 ≤ 2048) (hJ : J_L g P (nI j) c s) (hc : c + 1 ≤ 601024) (hs : s + 6 ≤ 7293034) (hI : I_L hp) : q_J g m_La_law true rmL P 361 (lsL (nI j) z5 z6) [] hp c s true := by
  obtain ⟨n, tb, w, S, cp, cv, gone, ⟨f, B, hT, ht, hz⟩, hP, ⟨m, A, hA, hR⟩, hO⟩ := hI
  have hmk := hP.1
  obtain ⟨x, hx1⟩ : ∃ x, (q_x g).2.2 (j + 1) = x := ⟨_, rfl⟩
  obtain ⟨y, hx2⟩ : ∃ y, (q_x g).2.2 (j + 2) = y := ⟨_, rfl⟩
  by_cases hb : m_np x (w_p w)
  · skip
    refine q_aload_n d_La_law_361 rfl rfl ?_
    refine q_aload_n d_La_law_362 rfl rfl ?_
    refine q_iload d_La_law_363 rfl ?_
    refine q_iconst (v := 1) d_La_law_365 (by decide) ?_
    refine q_iadd d_La_law_366 ?_
    rw [nI_1]
    refine q_sald d_La_law_367 (sc_in hj hL (by decide)) ?_
    rw [nI_clamp (by omega), hx1]
    refine q_aload_n d_La_law_368 rfl rfl ?_
    refine q_iload d_La_law_369 rfl ?_
    refine q_iconst (v := 2) d_La_law_371 (by decide) ?_
    refine q_iadd d_La_law_372 ?_
    rw [show (2 : Int32) = nI 2 from rfl, nI_add]
    refine q_sald d_La_law_373 (sc_in hj hL (by decide)) ?_
    rw [nI_clamp (by omega), hx2]
    refine q_aload_n d_La_law_374 rfl rfl ?_
    refine x_her d_La_law_375 l_La_86 s_La_told (h_told_e1 hG (q_C.trl (c_S_told1x hG hT hb)) ⟨_, hT.1⟩ (show _ + 1 ≤ 8 by decide) (by decide) (by decide) (by decide)) rfl rfl (Nat.le_of_ble_eq_true rfl) (Nat.le_of_ble_eq_true rfl) hc hs (fun z hpA hz1 eA => ?_)
    have hC1 : C_P n tb w S cp cv gone hp := ⟨f, B, hT, ht, hz⟩
    have hO1 := hO
    have hfr : ∀ i, 84 ≤ i → hp[i]? = hp[i]? := fun _ _ => rfl
    have hq := app_110 eA hO1
    have hA1 : M_A hpA m A hpA := hA.move (fun i a b => (hq i (by omega)).trans (hfr i (by omega)))
    have hOA : O_P hpA := hO1.keep (hq 110 (by omega))
    have hCA := hC1.keep (fun i hi => hq i (by omega))
    refine q_istore d_La_law_378 (by decide) rfl ?_
    refine q_aload_n d_La_law_380 rfl rfl ?_
    refine q_aload_n d_La_law_381 rfl rfl ?_
    refine q_iload d_La_law_382 rfl ?_
    refine q_iconst (v := 1) d_La_law_384 (by decide) ?_
    refine q_iadd d_La_law_385 ?_
    rw [nI_1]
    refine q_sald d_La_law_386 (sc_in hj hL (by decide)) ?_
    rw [nI_clamp (by omega), hx1]
    refine q_aload_n d_La_law_387 rfl rfl ?_
    refine q_iload d_La_law_388 rfl ?_
    refine q_iconst (v := 2) d_La_law_390 (by decide) ?_
    refine q_iadd d_La_law_391 ?_
    rw [show (2 : Int32) = nI 2 from rfl, nI_add]
    refine q_sald d_La_law_392 (sc_in hj hL (by decide)) ?_
    rw [nI_clamp (by omega), hx2]
    refine x_callVm d_La_law_393 l_La_88 i_Mo_told v_Mo_told rfl hA1.1 (c_Mo_told1x hG hA1 hR.2.2.2.2.1.2.1 hb) rfl rfl (Nat.le_of_ble_eq_true rfl) (Nat.le_of_ble_eq_true rfl) (show c + 1 + 0 ≤ 601024 by omega) (show s + 6 + 0 ≤ 7293034 by omega) (fun m2 A2 hp2 hA2 hz2 => ?_)
    obtain ⟨v0, km, kA⟩ := hz2
    refine q_istore d_La_law_396 (by decide) rfl ?_
    refine q_aload_n d_La_law_398 rfl rfl ?_
    refine x_callV d_La_law_399 l_La_58 i_Mo_thrown v_Mo_thrown rfl hA2.1 (c_Mo_thrown hG hA2 v0) rfl rfl (Nat.le_of_ble_eq_true rfl) (Nat.le_of_ble_eq_true rfl) (show c + 1 + 0 + 0 ≤ 601024 by omega) (show s + 6 + 0 + 0 ≤ 7293034 by omega) ?_
    refine q_iload d_La_law_402 rfl ?_
    refine q_icmp_eq (tgt := 409) d_La_law_404 (by decide) (fun b404 => ?_) (fun b404 => ?_)
    · skip
      refine q_iload d_La_law_409 rfl ?_
      refine q_if_ne (tgt := 426) d_La_law_411 (by decide) (fun b411 => ?_) (fun b411 => ?_)
      · skip
        refine q_goto (tgt := 849) d_La_law_426 (by decide) ?_
        refine q_more (show c + 1 + 0 + 0 ≤ c + 1 by omega) (show s + 6 + 0 + 0 ≤ s + 6 by omega) (hJ _ _ _ ?_)
        exact I_L.fin hCA hP hA2 (hR.keep km kA (by decide) (by decide)) hOA
      · skip
        exact absurd b411 (by decide)
    · skip
      exact absurd rfl b404
  · obtain ⟨i, hi, rfl⟩ := m_np_of hb (by have := hmk.1.2.1; omega)
    by_cases hy : m_tw y
    · skip
      refine q_aload_n d_La_law_361 rfl rfl ?_
      refine q_aload_n d_La_law_362 rfl rfl ?_
      refine q_iload d_La_law_363 rfl ?_
      refine q_iconst (v := 1) d_La_law_365 (by decide) ?_
      refine q_iadd d_La_law_366 ?_
      rw [nI_1]
      refine q_sald d_La_law_367 (sc_in hj hL (by decide)) ?_
      rw [nI_clamp (by omega), hx1]
      refine q_aload_n d_La_law_368 rfl rfl ?_
      refine q_iload d_La_law_369 rfl ?_
      refine q_iconst (v := 2) d_La_law_371 (by decide) ?_
      refine q_iadd d_La_law_372 ?_
      rw [show (2 : Int32) = nI 2 from rfl, nI_add]
      refine q_sald d_La_law_373 (sc_in hj hL (by decide)) ?_
      rw [nI_clamp (by omega), hx2]
      refine q_aload_n d_La_law_374 rfl rfl ?_
      refine x_her d_La_law_375 l_La_86 s_La_told (h_told_e2 hG hno (q_C.trl (c_S_told2x hG hT hmk.1 hi hy)) ⟨_, hT.1⟩ (show _ + 1 ≤ 8 by decide) (by decide) (by decide) (by decide)) rfl rfl (Nat.le_of_ble_eq_true rfl) (Nat.le_of_ble_eq_true rfl) hc hs (fun z hpA hz1 eA => ?_)
      have hC1 : C_P n tb w S cp cv gone hp := ⟨f, B, hT, ht, hz⟩
      have hO1 := hO
      have hfr : ∀ i, 84 ≤ i → hp[i]? = hp[i]? := fun _ _ => rfl
      have hq := app_110 eA hO1
      have hA1 : M_A hpA m A hpA := hA.move (fun i a b => (hq i (by omega)).trans (hfr i (by omega)))
      have hOA : O_P hpA := hO1.keep (hq 110 (by omega))
      have hCA := hC1.keep (fun i hi => hq i (by omega))
      refine q_istore d_La_law_378 (by decide) rfl ?_
      refine q_aload_n d_La_law_380 rfl rfl ?_
      refine q_aload_n d_La_law_381 rfl rfl ?_
      refine q_iload d_La_law_382 rfl ?_
      refine q_iconst (v := 1) d_La_law_384 (by decide) ?_
      refine q_iadd d_La_law_385 ?_
      rw [nI_1]
      refine q_sald d_La_law_386 (sc_in hj hL (by decide)) ?_
      rw [nI_clamp (by omega), hx1]
      refine q_aload_n d_La_law_387 rfl rfl ?_
      refine q_iload d_La_law_388 rfl ?_
      refine q_iconst (v := 2) d_La_law_390 (by decide) ?_
      refine q_iadd d_La_law_391 ?_
      rw [show (2 : Int32) = nI 2 from rfl, nI_add]
      refine q_sald d_La_law_392 (sc_in hj hL (by decide)) ?_
      rw [nI_clamp (by omega), hx2]
      refine x_callVm d_La_law_393 l_La_88 i_Mo_told v_Mo_told rfl hA1.1 (c_Mo_told2x hG hA1 hR.2.2.2.2.1.2.1 hb hy) rfl rfl (Nat.le_of_ble_eq_true rfl) (Nat.le_of_ble_eq_true rfl) (show c + 1 + 0 ≤ 601024 by omega) (show s + 6 + 0 ≤ 7293034 by omega) (fun m2 A2 hp2 hA2 hz2 => ?_)
      obtain ⟨v0, km, kA⟩ := hz2
      refine q_istore d_La_law_396 (by decide) rfl ?_
      refine q_aload_n d_La_law_398 rfl rfl ?_
      refine x_callV d_La_law_399 l_La_58 i_Mo_thrown v_Mo_thrown rfl hA2.1 (c_Mo_thrown hG hA2 v0) rfl rfl (Nat.le_of_ble_eq_true rfl) (Nat.le_of_ble_eq_true rfl) (show c + 1 + 0 + 0 ≤ 601024 by omega) (show s + 6 + 0 + 0 ≤ 7293034 by omega) ?_
      refine q_iload d_La_law_402 rfl ?_
      refine q_icmp_eq (tgt := 409) d_La_law_404 (by decide) (fun b404 => ?_) (fun b404 => ?_)
      · skip
        refine q_iload d_La_law_409 rfl ?_
        refine q_if_ne (tgt := 426) d_La_law_411 (by decide) (fun b411 => ?_) (fun b411 => ?_)
        · skip
          refine q_goto (tgt := 849) d_La_law_426 (by decide) ?_
          refine q_more (show c + 1 + 0 + 0 ≤ c + 1 by omega) (show s + 6 + 0 + 0 ≤ s + 6 by omega) (hJ _ _ _ ?_)
          exact I_L.fin hCA hP hA2 (hR.keep km kA (by decide) (by decide)) hOA
        · skip
          exact absurd b411 (by decide)
      · skip
        exact absurd rfl b404
    · rcases m_tw_of hy with rfl | rfl | rfl
      · skip
        refine q_aload_n d_La_law_361 rfl rfl ?_
        refine q_aload_n d_La_law_362 rfl rfl ?_
        refine q_iload d_La_law_363 rfl ?_
        refine q_iconst (v := 1) d_La_law_365 (by decide) ?_
        refine q_iadd d_La_law_366 ?_
        rw [nI_1]
        refine q_sald d_La_law_367 (sc_in hj hL (by decide)) ?_
        rw [nI_clamp (by omega), hx1]
        refine q_aload_n d_La_law_368 rfl rfl ?_
        refine q_iload d_La_law_369 rfl ?_
        refine q_iconst (v := 2) d_La_law_371 (by decide) ?_
        refine q_iadd d_La_law_372 ?_
        rw [show (2 : Int32) = nI 2 from rfl, nI_add]
        refine q_sald d_La_law_373 (sc_in hj hL (by decide)) ?_
        rw [nI_clamp (by omega), hx2]
        refine q_aload_n d_La_law_374 rfl rfl ?_
        refine x_hok d_La_law_375 l_La_86 s_La_told (h_told_ok hG (v := fun _ => nI (c_n (w_c w i))) (q_C.rel (c_S_told0 hG hT hmk.1 hi)) (fun _ _ => hO) ⟨_, hT.1⟩ (show _ + 1 ≤ 8 by decide) (by decide) (by decide) (by decide)) rfl rfl (Nat.le_of_ble_eq_true rfl) (Nat.le_of_ble_eq_true rfl) hc hs (fun z fo hpA hz1 hfo eA => ?_)
        have hC1 : C_P n tb w S cp cv gone hp := ⟨f, B, hT, ht, hz⟩
        have hO1 := hO
        have hfr : ∀ i, 84 ≤ i → hp[i]? = hp[i]? := fun _ _ => rfl
        have hq := set_110 eA hO1
        have hA1 : M_A hpA m A hpA := hA.move (fun i a b => (hq.1 i (by omega)).trans (hfr i (by omega)))
        have hOA : O_P hpA := ⟨fo, hq.2⟩
        have hCA := hC1.keep (fun i hi => hq.1 i (by omega))
        refine q_istore d_La_law_378 (by decide) rfl ?_
        refine q_aload_n d_La_law_380 rfl rfl ?_
        refine q_aload_n d_La_law_381 rfl rfl ?_
        refine q_iload d_La_law_382 rfl ?_
        refine q_iconst (v := 1) d_La_law_384 (by decide) ?_
        refine q_iadd d_La_law_385 ?_
        rw [nI_1]
        refine q_sald d_La_law_386 (sc_in hj hL (by decide)) ?_
        rw [nI_clamp (by omega), hx1]
        refine q_aload_n d_La_law_387 rfl rfl ?_
        refine q_iload d_La_law_388 rfl ?_
        refine q_iconst (v := 2) d_La_law_390 (by decide) ?_
        refine q_iadd d_La_law_391 ?_
        rw [show (2 : Int32) = nI 2 from rfl, nI_add]
        refine q_sald d_La_law_392 (sc_in hj hL (by decide)) ?_
        rw [nI_clamp (by omega), hx2]
        refine x_callVm d_La_law_393 l_La_88 i_Mo_told v_Mo_told rfl hA1.1 (c_Mo_told0 hG hA1 hR.2.2.2.2.1.2.1 hmk.1.2.1 hi (hR.2.2.2.2.1.2.2.2 i hi) (hmk.1.2.2.2 i (by have := hmk.1.2.1; omega))) rfl rfl (Nat.le_of_ble_eq_true rfl) (Nat.le_of_ble_eq_true rfl) (show c + 1 + 0 ≤ 601024 by omega) (show s + 6 + 0 ≤ 7293034 by omega) (fun m2 A2 hp2 hA2 hz2 => ?_)
        obtain ⟨v0, km, kA⟩ := hz2
        have h_o : hp2[110]? = some (a_J 1 fo) := (hA2.2.2.2 110 (Or.inr (by omega))).trans hq.2
        refine q_istore d_La_law_396 (by decide) rfl ?_
        refine q_aload_n d_La_law_398 rfl rfl ?_
        refine x_callV d_La_law_399 l_La_58 i_Mo_thrown v_Mo_thrown rfl hA2.1 (c_Mo_thrown hG hA2 v0) rfl rfl (Nat.le_of_ble_eq_true rfl) (Nat.le_of_ble_eq_true rfl) (show c + 1 + 0 + 0 ≤ 601024 by omega) (show s + 6 + 0 + 0 ≤ 7293034 by omega) ?_
        refine q_iload d_La_law_402 rfl ?_
        refine q_icmp_eq (tgt := 409) d_La_law_404 (by decide) (fun b404 => ?_) (fun b404 => ?_)
        · skip
          refine q_iload d_La_law_409 rfl ?_
          refine q_if_ne (tgt := 426) d_La_law_411 (by decide) (fun b411 => ?_) (fun b411 => ?_)
          · skip
            exact absurd rfl b411
          · skip
            refine q_aload_n d_La_law_414 rfl rfl ?_
            refine q_iconst (v := 0) d_La_law_415 (by decide) ?_
            refine q_lald d_La_law_416 h_o rfl (vp_in_nI (n := 0) (by decide) (by decide)) ?_
            rw [show (0 : Int32).toNatClampNeg = 0 from rfl, hfo]
            refine q_iload d_La_law_417 rfl ?_
            refine q_i2l d_La_law_419 ?_
            refine q_lcmp d_La_law_420 ?_
            refine q_if_eq (tgt := 426) d_La_law_421 (by decide) (fun b421 => ?_) (fun b421 => ?_)
            · skip
              refine q_goto (tgt := 849) d_La_law_426 (by decide) ?_
              refine q_more (show c + 1 + 0 + 0 ≤ c + 1 by omega) (show s + 6 + 0 + 0 ≤ s + 6 by omega) (hJ _ _ _ ?_)
              exact I_L.fin hCA hP hA2 (hR.keep km kA (by decide) (by decide)) hOA
            · skip
              exact absurd (ss_lg.mpr (congrArg Int32.toInt64 (rfl))) b421
        · skip
          exact absurd rfl b404
      · skip
        refine q_aload_n d_La_law_361 rfl rfl ?_
        refine q_aload_n d_La_law_362 rfl rfl ?_
        refine q_iload d_La_law_363 rfl ?_
        refine q_iconst (v := 1) d_La_law_365 (by decide) ?_
        refine q_iadd d_La_law_366 ?_
        rw [nI_1]
        refine q_sald d_La_law_367 (sc_in hj hL (by decide)) ?_
        rw [nI_clamp (by omega), hx1]
        refine q_aload_n d_La_law_368 rfl rfl ?_
        refine q_iload d_La_law_369 rfl ?_
        refine q_iconst (v := 2) d_La_law_371 (by decide) ?_
        refine q_iadd d_La_law_372 ?_
        rw [show (2 : Int32) = nI 2 from rfl, nI_add]
        refine q_sald d_La_law_373 (sc_in hj hL (by decide)) ?_
        rw [nI_clamp (by omega), hx2]
        refine q_aload_n d_La_law_374 rfl rfl ?_
        refine x_hok d_La_law_375 l_La_86 s_La_told (h_told_ok hG (v := fun _ => co_cs (fun j => nI (c_s (w_c w i) j)) (c_n (w_c w i))) (q_C.rel (c_S_told1 hG hT hmk.1 hi)) (fun _ _ => hO) ⟨_, hT.1⟩ (show _ + 1 ≤ 8 by decide) (by decide) (by decide) (by decide)) rfl rfl (Nat.le_of_ble_eq_true rfl) (Nat.le_of_ble_eq_true rfl) hc hs (fun z fo hpA hz1 hfo eA => ?_)
        have hC1 : C_P n tb w S cp cv gone hp := ⟨f, B, hT, ht, hz⟩
        have hO1 := hO
        have hfr : ∀ i, 84 ≤ i → hp[i]? = hp[i]? := fun _ _ => rfl
        have hq := set_110 eA hO1
        have hA1 : M_A hpA m A hpA := hA.move (fun i a b => (hq.1 i (by omega)).trans (hfr i (by omega)))
        have hOA : O_P hpA := ⟨fo, hq.2⟩
        have hCA := hC1.keep (fun i hi => hq.1 i (by omega))
        refine q_istore d_La_law_378 (by decide) rfl ?_
        refine q_aload_n d_La_law_380 rfl rfl ?_
        refine q_aload_n d_La_law_381 rfl rfl ?_
        refine q_iload d_La_law_382 rfl ?_
        refine q_iconst (v := 1) d_La_law_384 (by decide) ?_
        refine q_iadd d_La_law_385 ?_
        rw [nI_1]
        refine q_sald d_La_law_386 (sc_in hj hL (by decide)) ?_
        rw [nI_clamp (by omega), hx1]
        refine q_aload_n d_La_law_387 rfl rfl ?_
        refine q_iload d_La_law_388 rfl ?_
        refine q_iconst (v := 2) d_La_law_390 (by decide) ?_
        refine q_iadd d_La_law_391 ?_
        rw [show (2 : Int32) = nI 2 from rfl, nI_add]
        refine q_sald d_La_law_392 (sc_in hj hL (by decide)) ?_
        rw [nI_clamp (by omega), hx2]
        refine x_callVm d_La_law_393 l_La_88 i_Mo_told v_Mo_told rfl hA1.1 (c_Mo_told1 hG hA1 hR.2.2.2.2.1.2.1 hmk.1.2.1 hi (hR.2.2.2.2.1.2.2.2 i hi) (hmk.1.2.2.2 i (by have := hmk.1.2.1; omega))) rfl rfl (Nat.le_of_ble_eq_true rfl) (Nat.le_of_ble_eq_true rfl) (show c + 1 + 0 ≤ 601024 by omega) (show s + 6 + 0 ≤ 7293034 by omega) (fun m2 A2 hp2 hA2 hz2 => ?_)
        obtain ⟨v0, km, kA⟩ := hz2
        have h_o : hp2[110]? = some (a_J 1 fo) := (hA2.2.2.2 110 (Or.inr (by omega))).trans hq.2
        refine q_istore d_La_law_396 (by decide) rfl ?_
        refine q_aload_n d_La_law_398 rfl rfl ?_
        refine x_callV d_La_law_399 l_La_58 i_Mo_thrown v_Mo_thrown rfl hA2.1 (c_Mo_thrown hG hA2 v0) rfl rfl (Nat.le_of_ble_eq_true rfl) (Nat.le_of_ble_eq_true rfl) (show c + 1 + 0 + 0 ≤ 601024 by omega) (show s + 6 + 0 + 0 ≤ 7293034 by omega) ?_
        refine q_iload d_La_law_402 rfl ?_
        refine q_icmp_eq (tgt := 409) d_La_law_404 (by decide) (fun b404 => ?_) (fun b404 => ?_)
        · skip
          refine q_iload d_La_law_409 rfl ?_
          refine q_if_ne (tgt := 426) d_La_law_411 (by decide) (fun b411 => ?_) (fun b411 => ?_)
          · skip
            exact absurd rfl b411
          · skip
            refine q_aload_n d_La_law_414 rfl rfl ?_
            refine q_iconst (v := 0) d_La_law_415 (by decide) ?_
            refine q_lald d_La_law_416 h_o rfl (vp_in_nI (n := 0) (by decide) (by decide)) ?_
            rw [show (0 : Int32).toNatClampNeg = 0 from rfl, hfo]
            refine q_iload d_La_law_417 rfl ?_
            refine q_i2l d_La_law_419 ?_
            refine q_lcmp d_La_law_420 ?_
            refine q_if_eq (tgt := 426) d_La_law_421 (by decide) (fun b421 => ?_) (fun b421 => ?_)
            · skip
              refine q_goto (tgt := 849) d_La_law_426 (by decide) ?_
              refine q_more (show c + 1 + 0 + 0 ≤ c + 1 by omega) (show s + 6 + 0 + 0 ≤ s + 6 by omega) (hJ _ _ _ ?_)
              exact I_L.fin hCA hP hA2 (hR.keep km kA (by decide) (by decide)) hOA
            · skip
              exact absurd (ss_lg.mpr (congrArg Int32.toInt64 (m_ct_is (hmk.1.2.2.2 i (by have := hmk.1.2.1; omega))))) b421
        · skip
          exact absurd rfl b404
      · skip
        refine q_aload_n d_La_law_361 rfl rfl ?_
        refine q_aload_n d_La_law_362 rfl rfl ?_
        refine q_iload d_La_law_363 rfl ?_
        refine q_iconst (v := 1) d_La_law_365 (by decide) ?_
        refine q_iadd d_La_law_366 ?_
        rw [nI_1]
        refine q_sald d_La_law_367 (sc_in hj hL (by decide)) ?_
        rw [nI_clamp (by omega), hx1]
        refine q_aload_n d_La_law_368 rfl rfl ?_
        refine q_iload d_La_law_369 rfl ?_
        refine q_iconst (v := 2) d_La_law_371 (by decide) ?_
        refine q_iadd d_La_law_372 ?_
        rw [show (2 : Int32) = nI 2 from rfl, nI_add]
        refine q_sald d_La_law_373 (sc_in hj hL (by decide)) ?_
        rw [nI_clamp (by omega), hx2]
        refine q_aload_n d_La_law_374 rfl rfl ?_
        refine x_hok d_La_law_375 l_La_86 s_La_told (h_told_ok hG (v := fun _ => nI (pb_cnt 13 (c_e (w_c w i)))) (q_C.rel (c_S_told2 hG hT hmk.1 hi)) (fun _ _ => hO) ⟨_, hT.1⟩ (show _ + 1 ≤ 8 by decide) (by decide) (by decide) (by decide)) rfl rfl (Nat.le_of_ble_eq_true rfl) (Nat.le_of_ble_eq_true rfl) hc hs (fun z fo hpA hz1 hfo eA => ?_)
        have hC1 : C_P n tb w S cp cv gone hp := ⟨f, B, hT, ht, hz⟩
        have hO1 := hO
        have hfr : ∀ i, 84 ≤ i → hp[i]? = hp[i]? := fun _ _ => rfl
        have hq := set_110 eA hO1
        have hA1 : M_A hpA m A hpA := hA.move (fun i a b => (hq.1 i (by omega)).trans (hfr i (by omega)))
        have hOA : O_P hpA := ⟨fo, hq.2⟩
        have hCA := hC1.keep (fun i hi => hq.1 i (by omega))
        refine q_istore d_La_law_378 (by decide) rfl ?_
        refine q_aload_n d_La_law_380 rfl rfl ?_
        refine q_aload_n d_La_law_381 rfl rfl ?_
        refine q_iload d_La_law_382 rfl ?_
        refine q_iconst (v := 1) d_La_law_384 (by decide) ?_
        refine q_iadd d_La_law_385 ?_
        rw [nI_1]
        refine q_sald d_La_law_386 (sc_in hj hL (by decide)) ?_
        rw [nI_clamp (by omega), hx1]
        refine q_aload_n d_La_law_387 rfl rfl ?_
        refine q_iload d_La_law_388 rfl ?_
        refine q_iconst (v := 2) d_La_law_390 (by decide) ?_
        refine q_iadd d_La_law_391 ?_
        rw [show (2 : Int32) = nI 2 from rfl, nI_add]
        refine q_sald d_La_law_392 (sc_in hj hL (by decide)) ?_
        rw [nI_clamp (by omega), hx2]
        refine x_callVm d_La_law_393 l_La_88 i_Mo_told v_Mo_told rfl hA1.1 (c_Mo_told2 hG hA1 hR.2.2.2.2.1.2.1 hmk.1.2.1 hi (hR.2.2.2.2.1.2.2.2 i hi) (hmk.1.2.2.2 i (by have := hmk.1.2.1; omega))) rfl rfl (Nat.le_of_ble_eq_true rfl) (Nat.le_of_ble_eq_true rfl) (show c + 1 + 0 ≤ 601024 by omega) (show s + 6 + 0 ≤ 7293034 by omega) (fun m2 A2 hp2 hA2 hz2 => ?_)
        obtain ⟨v0, km, kA⟩ := hz2
        have h_o : hp2[110]? = some (a_J 1 fo) := (hA2.2.2.2 110 (Or.inr (by omega))).trans hq.2
        refine q_istore d_La_law_396 (by decide) rfl ?_
        refine q_aload_n d_La_law_398 rfl rfl ?_
        refine x_callV d_La_law_399 l_La_58 i_Mo_thrown v_Mo_thrown rfl hA2.1 (c_Mo_thrown hG hA2 v0) rfl rfl (Nat.le_of_ble_eq_true rfl) (Nat.le_of_ble_eq_true rfl) (show c + 1 + 0 + 0 ≤ 601024 by omega) (show s + 6 + 0 + 0 ≤ 7293034 by omega) ?_
        refine q_iload d_La_law_402 rfl ?_
        refine q_icmp_eq (tgt := 409) d_La_law_404 (by decide) (fun b404 => ?_) (fun b404 => ?_)
        · skip
          refine q_iload d_La_law_409 rfl ?_
          refine q_if_ne (tgt := 426) d_La_law_411 (by decide) (fun b411 => ?_) (fun b411 => ?_)
          · skip
            exact absurd rfl b411
          · skip
            refine q_aload_n d_La_law_414 rfl rfl ?_
            refine q_iconst (v := 0) d_La_law_415 (by decide) ?_
            refine q_lald d_La_law_416 h_o rfl (vp_in_nI (n := 0) (by decide) (by decide)) ?_
            rw [show (0 : Int32).toNatClampNeg = 0 from rfl, hfo]
            refine q_iload d_La_law_417 rfl ?_
            refine q_i2l d_La_law_419 ?_
            refine q_lcmp d_La_law_420 ?_
            refine q_if_eq (tgt := 426) d_La_law_421 (by decide) (fun b421 => ?_) (fun b421 => ?_)
            · skip
              refine q_goto (tgt := 849) d_La_law_426 (by decide) ?_
              refine q_more (show c + 1 + 0 + 0 ≤ c + 1 by omega) (show s + 6 + 0 + 0 ≤ s + 6 by omega) (hJ _ _ _ ?_)
              exact I_L.fin hCA hP hA2 (hR.keep km kA (by decide) (by decide)) hOA
            · skip
              exact absurd (ss_lg.mpr (congrArg Int32.toInt64 (rfl))) b421
        · skip
          exact absurd rfl b404
set_option maxRecDepth 10000 in
set_option maxHeartbeats 2000000 in
theorem law_now (hG : q_GG g) {P : Outcome → List va_E → Prop} {j c s : Nat} {hp : List va_E} {z5 z6 : Option Value} (hj : j + 4 ≤ (q_x g).2.1) (hL : (q_x g).2.1 ≤ 2048) (hJ : J_L g P (nI j) c s) (hc : c + 1 ≤ 601024) (hs : s + 6 ≤ 7293034) (hI : I_L hp) : q_J g m_La_law true rmL P 686 (lsL (nI j) z5 z6) [] hp c s true := by
  obtain ⟨n, tb, w, S, cp, cv, gone, ⟨f, B, hT, ht, hz⟩, hP, ⟨m, A, hA, hR⟩, hO⟩ := hI
  have hmk := hP.1
  obtain ⟨x, hx1⟩ : ∃ x, (q_x g).2.2 (j + 1) = x := ⟨_, rfl⟩
  by_cases hb : m_np x (w_p w)
  · skip
    refine q_aload_n d_La_law_686 rfl rfl ?_
    refine q_aload_n d_La_law_687 rfl rfl ?_
    refine q_iload d_La_law_688 rfl ?_
    refine q_iconst (v := 1) d_La_law_690 (by decide) ?_
    refine q_iadd d_La_law_691 ?_
    rw [nI_1]
    refine q_sald d_La_law_692 (sc_in hj hL (by decide)) ?_
    rw [nI_clamp (by omega), hx1]
    refine q_aload_n d_La_law_693 rfl rfl ?_
    refine x_her d_La_law_694 l_La_119 s_La_now (h_now_e1 hG (q_C.trl (c_S_nowX hG hT hb)) ⟨_, hT.1⟩ (show _ + 1 ≤ 8 by decide) (by decide) (by decide) (by decide)) rfl rfl (Nat.le_of_ble_eq_true rfl) (Nat.le_of_ble_eq_true rfl) hc hs (fun z hpA hz1 eA => ?_)
    have hC1 : C_P n tb w S cp cv gone hp := ⟨f, B, hT, ht, hz⟩
    have hO1 := hO
    have hfr : ∀ i, 84 ≤ i → hp[i]? = hp[i]? := fun _ _ => rfl
    have hq := app_110 eA hO1
    have hA1 : M_A hpA m A hpA := hA.move (fun i a b => (hq i (by omega)).trans (hfr i (by omega)))
    have hOA : O_P hpA := hO1.keep (hq 110 (by omega))
    have hCA := hC1.keep (fun i hi => hq i (by omega))
    refine q_istore d_La_law_697 (by decide) rfl ?_
    refine q_aload_n d_La_law_699 rfl rfl ?_
    refine q_aload_n d_La_law_700 rfl rfl ?_
    refine q_iload d_La_law_701 rfl ?_
    refine q_iconst (v := 1) d_La_law_703 (by decide) ?_
    refine q_iadd d_La_law_704 ?_
    rw [nI_1]
    refine q_sald d_La_law_705 (sc_in hj hL (by decide)) ?_
    rw [nI_clamp (by omega), hx1]
    refine x_callVm d_La_law_706 l_La_121 i_Mo_now v_Mo_now rfl hA1.1 (c_Mo_nowB hG hA1 hR.2.2.2.2.1.2.1 hmk.1.2.1 hb) rfl rfl (Nat.le_of_ble_eq_true rfl) (Nat.le_of_ble_eq_true rfl) (show c + 1 + 0 ≤ 601024 by omega) (show s + 6 + 0 ≤ 7293034 by omega) (fun m2 A2 hp2 hA2 hz2 => ?_)
    obtain ⟨v0, km, kA⟩ := hz2
    refine q_istore d_La_law_709 (by decide) rfl ?_
    refine q_aload_n d_La_law_711 rfl rfl ?_
    refine x_callV d_La_law_712 l_La_58 i_Mo_thrown v_Mo_thrown rfl hA2.1 (c_Mo_thrown hG hA2 v0) rfl rfl (Nat.le_of_ble_eq_true rfl) (Nat.le_of_ble_eq_true rfl) (show c + 1 + 0 + 0 ≤ 601024 by omega) (show s + 6 + 0 + 0 ≤ 7293034 by omega) ?_
    refine q_iload d_La_law_715 rfl ?_
    refine q_icmp_eq (tgt := 722) d_La_law_717 (by decide) (fun b717 => ?_) (fun b717 => ?_)
    · skip
      refine q_iload d_La_law_722 rfl ?_
      refine q_if_ne (tgt := 739) d_La_law_724 (by decide) (fun b724 => ?_) (fun b724 => ?_)
      · skip
        refine q_goto (tgt := 849) d_La_law_739 (by decide) ?_
        refine q_more (show c + 1 + 0 + 0 ≤ c + 1 by omega) (show s + 6 + 0 + 0 ≤ s + 6 by omega) (hJ _ _ _ ?_)
        exact I_L.fin hCA hP hA2 (hR.keep km kA (by decide) (by decide)) hOA
      · skip
        exact absurd b724 (by decide)
    · skip
      exact absurd rfl b717
  · obtain ⟨i, hi, rfl⟩ := m_np_of hb (by have := hmk.1.2.1; omega)
    refine q_aload_n d_La_law_686 rfl rfl ?_
    refine q_aload_n d_La_law_687 rfl rfl ?_
    refine q_iload d_La_law_688 rfl ?_
    refine q_iconst (v := 1) d_La_law_690 (by decide) ?_
    refine q_iadd d_La_law_691 ?_
    rw [nI_1]
    refine q_sald d_La_law_692 (sc_in hj hL (by decide)) ?_
    rw [nI_clamp (by omega), hx1]
    refine q_aload_n d_La_law_693 rfl rfl ?_
    refine x_hok d_La_law_694 l_La_119 s_La_now (h_now_ok hG (v := fun _ => nI (cp i)) (q_C.rel (c_S_now hG hT hmk.1 hi)) (fun _ _ => hO) ⟨_, hT.1⟩ (show _ + 1 ≤ 8 by decide) (by decide) (by decide) (by decide)) rfl rfl (Nat.le_of_ble_eq_true rfl) (Nat.le_of_ble_eq_true rfl) hc hs (fun z fo hpA hz1 hfo eA => ?_)
    have hC1 : C_P n tb w S cp cv gone hp := ⟨f, B, hT, ht, hz⟩
    have hO1 := hO
    have hfr : ∀ i, 84 ≤ i → hp[i]? = hp[i]? := fun _ _ => rfl
    have hq := set_110 eA hO1
    have hA1 : M_A hpA m A hpA := hA.move (fun i a b => (hq.1 i (by omega)).trans (hfr i (by omega)))
    have hOA : O_P hpA := ⟨fo, hq.2⟩
    have hCA := hC1.keep (fun i hi => hq.1 i (by omega))
    refine q_istore d_La_law_697 (by decide) rfl ?_
    refine q_aload_n d_La_law_699 rfl rfl ?_
    refine q_aload_n d_La_law_700 rfl rfl ?_
    refine q_iload d_La_law_701 rfl ?_
    refine q_iconst (v := 1) d_La_law_703 (by decide) ?_
    refine q_iadd d_La_law_704 ?_
    rw [nI_1]
    refine q_sald d_La_law_705 (sc_in hj hL (by decide)) ?_
    rw [nI_clamp (by omega), hx1]
    refine x_callVm d_La_law_706 l_La_121 i_Mo_now v_Mo_now rfl hA1.1 (c_Mo_now hG hA1 hR.2.2.2.2.1.2.1 hmk.1.2.1 hi) rfl rfl (Nat.le_of_ble_eq_true rfl) (Nat.le_of_ble_eq_true rfl) (show c + 1 + 0 ≤ 601024 by omega) (show s + 6 + 0 ≤ 7293034 by omega) (fun m2 A2 hp2 hA2 hz2 => ?_)
    obtain ⟨v0, km, kA⟩ := hz2
    have h_o : hp2[110]? = some (a_J 1 fo) := (hA2.2.2.2 110 (Or.inr (by omega))).trans hq.2
    refine q_istore d_La_law_709 (by decide) rfl ?_
    refine q_aload_n d_La_law_711 rfl rfl ?_
    refine x_callV d_La_law_712 l_La_58 i_Mo_thrown v_Mo_thrown rfl hA2.1 (c_Mo_thrown hG hA2 v0) rfl rfl (Nat.le_of_ble_eq_true rfl) (Nat.le_of_ble_eq_true rfl) (show c + 1 + 0 + 0 ≤ 601024 by omega) (show s + 6 + 0 + 0 ≤ 7293034 by omega) ?_
    refine q_iload d_La_law_715 rfl ?_
    refine q_icmp_eq (tgt := 722) d_La_law_717 (by decide) (fun b717 => ?_) (fun b717 => ?_)
    · skip
      refine q_iload d_La_law_722 rfl ?_
      refine q_if_ne (tgt := 739) d_La_law_724 (by decide) (fun b724 => ?_) (fun b724 => ?_)
      · skip
        exact absurd rfl b724
      · skip
        refine q_aload_n d_La_law_727 rfl rfl ?_
        refine q_iconst (v := 0) d_La_law_728 (by decide) ?_
        refine q_lald d_La_law_729 h_o rfl (vp_in_nI (n := 0) (by decide) (by decide)) ?_
        rw [show (0 : Int32).toNatClampNeg = 0 from rfl, hfo]
        refine q_iload d_La_law_730 rfl ?_
        refine q_i2l d_La_law_732 ?_
        refine q_lcmp d_La_law_733 ?_
        refine q_if_eq (tgt := 739) d_La_law_734 (by decide) (fun b734 => ?_) (fun b734 => ?_)
        · skip
          refine q_goto (tgt := 849) d_La_law_739 (by decide) ?_
          refine q_more (show c + 1 + 0 + 0 ≤ c + 1 by omega) (show s + 6 + 0 + 0 ≤ s + 6 by omega) (hJ _ _ _ ?_)
          exact I_L.fin hCA hP hA2 (hR.keep km kA (by decide) (by decide)) hOA
        · skip
          exact absurd (ss_lg.mpr (congrArg Int32.toInt64 ((hR.2.2.2.2.2.1.1 i (by have := hmk.1.2.1; omega)).symm))) b734
    · skip
      exact absurd rfl b717
set_option maxRecDepth 10000 in
set_option maxHeartbeats 2000000 in
theorem law_has (hG : q_GG g) {P : Outcome → List va_E → Prop} {j c s : Nat} {hp : List va_E} {z5 z6 : Option Value} (hj : j + 4 ≤ (q_x g).2.1) (hL : (q_x g).2.1 ≤ 2048) (hJ : J_L g P (nI j) c s) (hc : c + 1 ≤ 601024) (hs : s + 6 ≤ 7293034) (hI : I_L hp) : q_J g m_La_law true rmL P 742 (lsL (nI j) z5 z6) [] hp c s true := by
  obtain ⟨n, tb, w, S, cp, cv, gone, ⟨f, B, hT, ht, hz⟩, hP, ⟨m, A, hA, hR⟩, hO⟩ := hI
  have hmk := hP.1
  obtain ⟨x, hx1⟩ : ∃ x, (q_x g).2.2 (j + 1) = x := ⟨_, rfl⟩
  by_cases hb : m_np x (w_n w)
  · skip
    refine q_aload_n d_La_law_742 rfl rfl ?_
    refine q_aload_n d_La_law_743 rfl rfl ?_
    refine q_iload d_La_law_744 rfl ?_
    refine q_iconst (v := 1) d_La_law_746 (by decide) ?_
    refine q_iadd d_La_law_747 ?_
    rw [nI_1]
    refine q_sald d_La_law_748 (sc_in hj hL (by decide)) ?_
    rw [nI_clamp (by omega), hx1]
    refine q_aload_n d_La_law_749 rfl rfl ?_
    refine x_her d_La_law_750 l_La_122 s_La_has (h_has_e1 hG (q_C.trl (c_S_hasX hG hT hb)) ⟨_, hT.1⟩ (show _ + 1 ≤ 8 by decide) (by decide) (by decide) (by decide)) rfl rfl (Nat.le_of_ble_eq_true rfl) (Nat.le_of_ble_eq_true rfl) hc hs (fun z hpA hz1 eA => ?_)
    have hC1 : C_P n tb w S cp cv gone hp := ⟨f, B, hT, ht, hz⟩
    have hO1 := hO
    have hfr : ∀ i, 84 ≤ i → hp[i]? = hp[i]? := fun _ _ => rfl
    have hq := app_110 eA hO1
    have hA1 : M_A hpA m A hpA := hA.move (fun i a b => (hq i (by omega)).trans (hfr i (by omega)))
    have hOA : O_P hpA := hO1.keep (hq 110 (by omega))
    have hCA := hC1.keep (fun i hi => hq i (by omega))
    refine q_istore d_La_law_753 (by decide) rfl ?_
    refine q_aload_n d_La_law_755 rfl rfl ?_
    refine q_aload_n d_La_law_756 rfl rfl ?_
    refine q_iload d_La_law_757 rfl ?_
    refine q_iconst (v := 1) d_La_law_759 (by decide) ?_
    refine q_iadd d_La_law_760 ?_
    rw [nI_1]
    refine q_sald d_La_law_761 (sc_in hj hL (by decide)) ?_
    rw [nI_clamp (by omega), hx1]
    refine x_callVm d_La_law_762 l_La_124 i_Mo_has v_Mo_has rfl hA1.1 (c_Mo_hasB hG hA1 hR.2.2.2.2.1.1 hmk.1.1 hb) rfl rfl (Nat.le_of_ble_eq_true rfl) (Nat.le_of_ble_eq_true rfl) (show c + 1 + 0 ≤ 601024 by omega) (show s + 6 + 0 ≤ 7293034 by omega) (fun m2 A2 hp2 hA2 hz2 => ?_)
    obtain ⟨v0, km, kA⟩ := hz2
    refine q_istore d_La_law_765 (by decide) rfl ?_
    refine q_aload_n d_La_law_767 rfl rfl ?_
    refine x_callV d_La_law_768 l_La_58 i_Mo_thrown v_Mo_thrown rfl hA2.1 (c_Mo_thrown hG hA2 v0) rfl rfl (Nat.le_of_ble_eq_true rfl) (Nat.le_of_ble_eq_true rfl) (show c + 1 + 0 + 0 ≤ 601024 by omega) (show s + 6 + 0 + 0 ≤ 7293034 by omega) ?_
    refine q_iload d_La_law_771 rfl ?_
    refine q_icmp_eq (tgt := 778) d_La_law_773 (by decide) (fun b773 => ?_) (fun b773 => ?_)
    · skip
      refine q_iload d_La_law_778 rfl ?_
      refine q_if_ne (tgt := 795) d_La_law_780 (by decide) (fun b780 => ?_) (fun b780 => ?_)
      · skip
        refine q_goto (tgt := 849) d_La_law_795 (by decide) ?_
        refine q_more (show c + 1 + 0 + 0 ≤ c + 1 by omega) (show s + 6 + 0 + 0 ≤ s + 6 by omega) (hJ _ _ _ ?_)
        exact I_L.fin hCA hP hA2 (hR.keep km kA (by decide) (by decide)) hOA
      · skip
        exact absurd b780 (by decide)
    · skip
      exact absurd rfl b773
  · obtain ⟨i, hi, rfl⟩ := m_np_of hb (by have := hmk.1.1; omega)
    refine q_aload_n d_La_law_742 rfl rfl ?_
    refine q_aload_n d_La_law_743 rfl rfl ?_
    refine q_iload d_La_law_744 rfl ?_
    refine q_iconst (v := 1) d_La_law_746 (by decide) ?_
    refine q_iadd d_La_law_747 ?_
    rw [nI_1]
    refine q_sald d_La_law_748 (sc_in hj hL (by decide)) ?_
    rw [nI_clamp (by omega), hx1]
    refine q_aload_n d_La_law_749 rfl rfl ?_
    refine x_hok d_La_law_750 l_La_122 s_La_has (h_has_ok hG (v := fun _ => nI (cv i)) (q_C.rel (c_S_has hG hT hmk.1 hi)) (fun _ _ => hO) ⟨_, hT.1⟩ (show _ + 1 ≤ 8 by decide) (by decide) (by decide) (by decide)) rfl rfl (Nat.le_of_ble_eq_true rfl) (Nat.le_of_ble_eq_true rfl) hc hs (fun z fo hpA hz1 hfo eA => ?_)
    have hC1 : C_P n tb w S cp cv gone hp := ⟨f, B, hT, ht, hz⟩
    have hO1 := hO
    have hfr : ∀ i, 84 ≤ i → hp[i]? = hp[i]? := fun _ _ => rfl
    have hq := set_110 eA hO1
    have hA1 : M_A hpA m A hpA := hA.move (fun i a b => (hq.1 i (by omega)).trans (hfr i (by omega)))
    have hOA : O_P hpA := ⟨fo, hq.2⟩
    have hCA := hC1.keep (fun i hi => hq.1 i (by omega))
    refine q_istore d_La_law_753 (by decide) rfl ?_
    refine q_aload_n d_La_law_755 rfl rfl ?_
    refine q_aload_n d_La_law_756 rfl rfl ?_
    refine q_iload d_La_law_757 rfl ?_
    refine q_iconst (v := 1) d_La_law_759 (by decide) ?_
    refine q_iadd d_La_law_760 ?_
    rw [nI_1]
    refine q_sald d_La_law_761 (sc_in hj hL (by decide)) ?_
    rw [nI_clamp (by omega), hx1]
    refine x_callVm d_La_law_762 l_La_124 i_Mo_has v_Mo_has rfl hA1.1 (c_Mo_has hG hA1 hR.2.2.2.2.1.1 hmk.1.1 hi) rfl rfl (Nat.le_of_ble_eq_true rfl) (Nat.le_of_ble_eq_true rfl) (show c + 1 + 0 ≤ 601024 by omega) (show s + 6 + 0 ≤ 7293034 by omega) (fun m2 A2 hp2 hA2 hz2 => ?_)
    obtain ⟨v0, km, kA⟩ := hz2
    have h_o : hp2[110]? = some (a_J 1 fo) := (hA2.2.2.2 110 (Or.inr (by omega))).trans hq.2
    refine q_istore d_La_law_765 (by decide) rfl ?_
    refine q_aload_n d_La_law_767 rfl rfl ?_
    refine x_callV d_La_law_768 l_La_58 i_Mo_thrown v_Mo_thrown rfl hA2.1 (c_Mo_thrown hG hA2 v0) rfl rfl (Nat.le_of_ble_eq_true rfl) (Nat.le_of_ble_eq_true rfl) (show c + 1 + 0 + 0 ≤ 601024 by omega) (show s + 6 + 0 + 0 ≤ 7293034 by omega) ?_
    refine q_iload d_La_law_771 rfl ?_
    refine q_icmp_eq (tgt := 778) d_La_law_773 (by decide) (fun b773 => ?_) (fun b773 => ?_)
    · skip
      refine q_iload d_La_law_778 rfl ?_
      refine q_if_ne (tgt := 795) d_La_law_780 (by decide) (fun b780 => ?_) (fun b780 => ?_)
      · skip
        exact absurd rfl b780
      · skip
        refine q_aload_n d_La_law_783 rfl rfl ?_
        refine q_iconst (v := 0) d_La_law_784 (by decide) ?_
        refine q_lald d_La_law_785 h_o rfl (vp_in_nI (n := 0) (by decide) (by decide)) ?_
        rw [show (0 : Int32).toNatClampNeg = 0 from rfl, hfo]
        refine q_iload d_La_law_786 rfl ?_
        refine q_i2l d_La_law_788 ?_
        refine q_lcmp d_La_law_789 ?_
        refine q_if_eq (tgt := 795) d_La_law_790 (by decide) (fun b790 => ?_) (fun b790 => ?_)
        · skip
          refine q_goto (tgt := 849) d_La_law_795 (by decide) ?_
          refine q_more (show c + 1 + 0 + 0 ≤ c + 1 by omega) (show s + 6 + 0 + 0 ≤ s + 6 by omega) (hJ _ _ _ ?_)
          exact I_L.fin hCA hP hA2 (hR.keep km kA (by decide) (by decide)) hOA
        · skip
          exact absurd (ss_lg.mpr (congrArg Int32.toInt64 ((hR.2.2.2.2.2.1.2 i (by have := hmk.1.1; omega)).symm))) b790
    · skip
      exact absurd rfl b773
end W5
