/-! the whole class: calls about states, where they do not fail -/
section C30
variable {g : q_G}
set_option maxRecDepth 10000 in
set_option maxHeartbeats 2000000 in
theorem c_S_falls (hG : q_GG g) {n : Nat} {f : Nat → Int32} {w : w_T} {S : x_S} {B : z_S} {cp cv : Nat → Nat} {gone : Nat} {hp : List va_E} (h : T_A n f w S B cp cv gone hp) (hok : w_ok w) (hfz : w_fz w) (hN : w_q w ≤ 30000) (hK : z_K w B hp) (hs : s_ok w cp cv) : q_C g m_S_falls true (q_R 6 150 0 0) [.ref 0] hp (q_rel (Z := z_S × List va_E) (fun z => some (.int (if z.1.2.2.1 (w_u w cp cv) then 1 else 0))) (fun z => z.2) (fun z => T_A n f w S z.1 cp cv gone z.2 ∧ sf_P w hp z)) := by
  refine q_C.of hG (by decide) (Nat.le_of_ble_eq_true rfl) ?_
  have h_s := h.1
  have h_w := h.2.2.2.1.1
  have h_e := h.2.2.2.2.2.1.1
  have h_c := h.2.2.2.2.2.2.1
  refine q_aload_n d_S_falls_0 rfl rfl ?_
  refine x_callV d_S_falls_1 l_S_135 i_S_checkSearchable v_S_checkSearchable rfl h_s (c_S_checkSearchable hG h hok hN) rfl rfl (Nat.le_of_ble_eq_true rfl) (Nat.le_of_ble_eq_true rfl) (Nat.le_of_ble_eq_true rfl) (Nat.le_of_ble_eq_true rfl) ?_
  refine q_aload_n d_S_falls_4 rfl rfl ?_
  refine q_get d_S_falls_5 f_S_37 h_s rfl ?_
  refine x_callVr d_S_falls_8 l_S_172 i_Se_findFalling v_Se_findFalling rfl h_e (k_findFalling hG hok hfz hN h.2.2.2.1 h.2.2.2.2.2.1 hK) rfl rfl (Nat.le_of_ble_eq_true rfl) (Nat.le_of_ble_eq_true rfl) (Nat.le_of_ble_eq_true rfl) (Nat.le_of_ble_eq_true rfl) (fun z hz => ?_)
  have g1 := h.srch hz.2.2.2.2 hz.1
  have h_s := g1.1
  have h_e := hz.1.1
  have h_w := g1.2.2.2.1.1
  have h_c := g1.2.2.2.2.2.2.1
  obtain ⟨lf, h_fa⟩ := hz.1.2.2.2.1.ob
  refine q_aload_n d_S_falls_11 rfl rfl ?_
  refine q_get d_S_falls_12 f_S_37 h_s rfl ?_
  refine q_get d_S_falls_15 f_S_175 h_e rfl ?_
  refine q_aload_n d_S_falls_18 rfl rfl ?_
  refine q_get d_S_falls_19 f_S_19 h_s rfl ?_
  refine q_aload_n d_S_falls_22 rfl rfl ?_
  refine q_get d_S_falls_23 f_S_44 h_s rfl ?_
  refine x_callV d_S_falls_26 l_S_179 i_Wo_numberOf v_Wo_numberOf rfl h_w (c_Wo_numberOf hG hok.2.1 g1.2.2.2.1 g1.2.2.2.2.2.2) rfl rfl (Nat.le_of_ble_eq_true rfl) (Nat.le_of_ble_eq_true rfl) (Nat.le_of_ble_eq_true rfl) (Nat.le_of_ble_eq_true rfl) ?_
  refine x_callV d_S_falls_29 l_S_183 i_Ss_contains v_Ss_contains rfl h_fa (k_contains hG hz.1.2.2.2.1 (by have := s_lt hs; omega)) rfl rfl (Nat.le_of_ble_eq_true rfl) (Nat.le_of_ble_eq_true rfl) (Nat.le_of_ble_eq_true rfl) (Nat.le_of_ble_eq_true rfl) ?_
  refine q_zret d_S_falls_32 rfl (by split <;> decide) ?_ (Nat.le_of_ble_eq_true rfl) (Nat.le_of_ble_eq_true rfl) (by decide)
  exact ⟨z, rfl, rfl, g1, hz⟩
set_option maxRecDepth 10000 in
set_option maxHeartbeats 2000000 in
theorem c_S_place (hG : q_GG g) {n : Nat} {f : Nat → Int32} {w : w_T} {S : x_S} {B : z_S} {cp cv : Nat → Nat} {gone : Nat} {hp : List va_E} {k i : Nat} (h : T_A n f w S B cp cv gone hp) (hok : w_ok w) (hfz : w_fz w) (hN : w_q w ≤ 30000) (hK : z_K w B hp) (hk : ∀ R St o, S_K w R St o → k < o.1) (hi : i < w_p w) : q_C g m_S_place true (q_R 6 150 0 0) [.ref 0, .int (nI k), .int (nI i)] hp (q_rel (Z := Nat × z_S × List va_E) (fun z => some (.int (nI (w_dp w z.1 i)))) (fun z => z.2.2) (fun z => T_A n f w S z.2.1 cp cv gone z.2.2 ∧ z_K w z.2.1 z.2.2 ∧ S_K w z.2.1.1 z.2.1.2.1 (b_o z.2.1) ∧ (z.1 < 30016 ∧ z.2.1.2.1 z.1 = true ∧ cn z.2.1.2.1 z.1 = k) ∧ F_S hp z.2.2)) := by
  refine q_C.of hG (by decide) (Nat.le_of_ble_eq_true rfl) ?_
  have h_s := h.1
  have h_w := h.2.2.2.1.1
  have h_e := h.2.2.2.2.2.1.1
  have h_c := h.2.2.2.2.2.2.1
  have hn5 := hok.1
  have hp6 := hok.2.1
  refine q_aload_n d_S_place_0 rfl rfl ?_
  refine x_callV d_S_place_1 l_S_135 i_S_checkSearchable v_S_checkSearchable rfl h_s (c_S_checkSearchable hG h hok hN) rfl rfl (Nat.le_of_ble_eq_true rfl) (Nat.le_of_ble_eq_true rfl) (Nat.le_of_ble_eq_true rfl) (Nat.le_of_ble_eq_true rfl) ?_
  refine q_aload_n d_S_place_4 rfl rfl ?_
  refine q_get d_S_place_5 f_S_37 h_s rfl ?_
  refine x_callVr d_S_place_8 l_S_126 i_Se_findStanding v_Se_findStanding rfl h_e (k_findStanding hG hok hfz hN h.2.2.2.1 h.2.2.2.2.2.1 hK) rfl rfl (Nat.le_of_ble_eq_true rfl) (Nat.le_of_ble_eq_true rfl) (Nat.le_of_ble_eq_true rfl) (Nat.le_of_ble_eq_true rfl) (fun z hz => ?_)
  obtain ⟨⟨R, St, Fa, Wa, pl, vl, o⟩, hp1⟩ := z
  have hz : z_A (R, St, Fa, Wa, pl, vl, o) hp1 ∧ z_K w (R, St, Fa, Wa, pl, vl, o) hp1 ∧ S_A w R St Fa Wa pl vl o hp1 ∧ S_K w R St o ∧ F_S hp hp1 := hz
  have g1 := h.srch hz.2.2.2.2 hz.1
  have h_s := g1.1
  have h_e := hz.2.2.1.2.1
  have h_w := g1.2.2.2.1.1
  have hko := hk R St o hz.2.2.2.1
  have hoc := hz.2.2.2.1.2.2.1
  have hcl := cn_le St 30016
  show q_J _ _ _ _ _ _ _ _ hp1 _ _ _
  refine q_iload_n d_S_place_11 rfl ?_
  refine q_aload_n d_S_place_12 rfl rfl ?_
  refine q_get d_S_place_13 f_S_37 h_s rfl ?_
  refine q_get d_S_place_16 f_S_129 h_e rfl ?_
  refine x_callS d_S_place_19 l_S_95 s_S_checkIndex (c_S_checkIndex hG hko (by omega)) rfl rfl (Nat.le_of_ble_eq_true rfl) (Nat.le_of_ble_eq_true rfl) (Nat.le_of_ble_eq_true rfl) (Nat.le_of_ble_eq_true rfl) ?_
  refine q_iload_n d_S_place_22 rfl ?_
  refine q_aload_n d_S_place_23 rfl rfl ?_
  refine q_get d_S_place_24 f_S_19 h_s rfl ?_
  refine q_get d_S_place_27 f_S_75 h_w rfl ?_
  refine x_callS d_S_place_30 l_S_95 s_S_checkIndex (c_S_checkIndex hG hi (by omega)) rfl rfl (Nat.le_of_ble_eq_true rfl) (Nat.le_of_ble_eq_true rfl) (Nat.le_of_ble_eq_true rfl) (Nat.le_of_ble_eq_true rfl) ?_
  refine q_aload_n d_S_place_33 rfl rfl ?_
  refine q_get d_S_place_34 f_S_37 h_s rfl ?_
  refine q_iload_n d_S_place_37 rfl ?_
  refine x_callVr (stk := [.int (nI k), .ref 67]) d_S_place_38 l_S_138 i_Se_standingState v_Se_standingState rfl h_e (c_Se_standingState hG hok (by omega) hz.2.2.1) rfl rfl (Nat.le_of_ble_eq_true rfl) (Nat.le_of_ble_eq_true rfl) (Nat.le_of_ble_eq_true rfl) (Nat.le_of_ble_eq_true rfl) (fun y hy => ?_)
  obtain ⟨m, hp2⟩ := y
  have hy : (m < 30016 ∧ St m = true ∧ cn St m = k) ∧ S_A w R St Fa Wa (w_pl w m pl) (w_vv w m vl) o hp2 ∧ F_S hp1 hp2 := hy
  have h_n := hy.2.1.2.2.2.2.2.2.1.1
  have h_np := hy.2.1.2.2.2.2.2.2.1.2.1
  have h_nv := hy.2.1.2.2.2.2.2.2.1.2.2
  have hin : vp_in (nI i) 6 := vp_in_nI (by omega) (by decide)
  have hcl : (nI i).toNatClampNeg = i := nI_clamp (by omega)
  show q_J _ _ _ _ _ _ _ _ hp2 _ _ _
  refine q_get d_S_place_41 f_S_142 h_n rfl ?_
  refine q_iload_n d_S_place_44 rfl ?_
  refine q_iald d_S_place_45 h_np rfl hin ?_
  rw [hcl]
  refine q_iret d_S_place_46 rfl ?_ (Nat.le_of_ble_eq_true rfl) (Nat.le_of_ble_eq_true rfl) (by decide)
  refine ⟨(m, (R, St, Fa, Wa, w_pl w m pl, w_vv w m vl, o), hp2), ?_, rfl, h.srch (hz.2.2.2.2.trans hy.2.2) hy.2.1.b.2, ⟨(w_pl_ok (vl := vl) hok hz.2.1.1).2.1, ?_⟩, hz.2.2.2.1, hy.1, hz.2.2.2.2.trans hy.2.2⟩
  · show _ = Outcome.returned (some (.int (nI (w_dp w m i))))
    rw [show w_dp w m i = (w_pl w m pl) i from (if_pos (by omega)).symm]
  · rcases hz.2.1.2 with q | ⟨q1, q2, q3⟩
    · exact Or.inl q
    · exact Or.inr ⟨q1, hy.2.1.2.2.2.2.2.2.2, q3⟩
set_option maxRecDepth 10000 in
set_option maxHeartbeats 2000000 in
theorem c_S_value (hG : q_GG g) {n : Nat} {f : Nat → Int32} {w : w_T} {S : x_S} {B : z_S} {cp cv : Nat → Nat} {gone : Nat} {hp : List va_E} {k i : Nat} (h : T_A n f w S B cp cv gone hp) (hok : w_ok w) (hfz : w_fz w) (hN : w_q w ≤ 30000) (hK : z_K w B hp) (hk : ∀ R St o, S_K w R St o → k < o.1) (hi : i < w_n w) : q_C g m_S_value true (q_R 6 150 0 0) [.ref 0, .int (nI k), .int (nI i)] hp (q_rel (Z := Nat × z_S × List va_E) (fun z => some (.int (nI (w_dv w z.1 i)))) (fun z => z.2.2) (fun z => T_A n f w S z.2.1 cp cv gone z.2.2 ∧ z_K w z.2.1 z.2.2 ∧ S_K w z.2.1.1 z.2.1.2.1 (b_o z.2.1) ∧ (z.1 < 30016 ∧ z.2.1.2.1 z.1 = true ∧ cn z.2.1.2.1 z.1 = k) ∧ F_S hp z.2.2)) := by
  refine q_C.of hG (by decide) (Nat.le_of_ble_eq_true rfl) ?_
  have h_s := h.1
  have h_w := h.2.2.2.1.1
  have h_e := h.2.2.2.2.2.1.1
  have h_c := h.2.2.2.2.2.2.1
  have hn5 := hok.1
  have hp6 := hok.2.1
  refine q_aload_n d_S_value_0 rfl rfl ?_
  refine x_callV d_S_value_1 l_S_135 i_S_checkSearchable v_S_checkSearchable rfl h_s (c_S_checkSearchable hG h hok hN) rfl rfl (Nat.le_of_ble_eq_true rfl) (Nat.le_of_ble_eq_true rfl) (Nat.le_of_ble_eq_true rfl) (Nat.le_of_ble_eq_true rfl) ?_
  refine q_aload_n d_S_value_4 rfl rfl ?_
  refine q_get d_S_value_5 f_S_37 h_s rfl ?_
  refine x_callVr d_S_value_8 l_S_126 i_Se_findStanding v_Se_findStanding rfl h_e (k_findStanding hG hok hfz hN h.2.2.2.1 h.2.2.2.2.2.1 hK) rfl rfl (Nat.le_of_ble_eq_true rfl) (Nat.le_of_ble_eq_true rfl) (Nat.le_of_ble_eq_true rfl) (Nat.le_of_ble_eq_true rfl) (fun z hz => ?_)
  obtain ⟨⟨R, St, Fa, Wa, pl, vl, o⟩, hp1⟩ := z
  have hz : z_A (R, St, Fa, Wa, pl, vl, o) hp1 ∧ z_K w (R, St, Fa, Wa, pl, vl, o) hp1 ∧ S_A w R St Fa Wa pl vl o hp1 ∧ S_K w R St o ∧ F_S hp hp1 := hz
  have g1 := h.srch hz.2.2.2.2 hz.1
  have h_s := g1.1
  have h_e := hz.2.2.1.2.1
  have h_w := g1.2.2.2.1.1
  have hko := hk R St o hz.2.2.2.1
  have hoc := hz.2.2.2.1.2.2.1
  have hcl := cn_le St 30016
  show q_J _ _ _ _ _ _ _ _ hp1 _ _ _
  refine q_iload_n d_S_value_11 rfl ?_
  refine q_aload_n d_S_value_12 rfl rfl ?_
  refine q_get d_S_value_13 f_S_37 h_s rfl ?_
  refine q_get d_S_value_16 f_S_129 h_e rfl ?_
  refine x_callS d_S_value_19 l_S_95 s_S_checkIndex (c_S_checkIndex hG hko (by omega)) rfl rfl (Nat.le_of_ble_eq_true rfl) (Nat.le_of_ble_eq_true rfl) (Nat.le_of_ble_eq_true rfl) (Nat.le_of_ble_eq_true rfl) ?_
  refine q_iload_n d_S_value_22 rfl ?_
  refine q_aload_n d_S_value_23 rfl rfl ?_
  refine q_get d_S_value_24 f_S_19 h_s rfl ?_
  refine q_get d_S_value_27 f_S_65 h_w rfl ?_
  refine x_callS d_S_value_30 l_S_95 s_S_checkIndex (c_S_checkIndex hG hi (by omega)) rfl rfl (Nat.le_of_ble_eq_true rfl) (Nat.le_of_ble_eq_true rfl) (Nat.le_of_ble_eq_true rfl) (Nat.le_of_ble_eq_true rfl) ?_
  refine q_aload_n d_S_value_33 rfl rfl ?_
  refine q_get d_S_value_34 f_S_37 h_s rfl ?_
  refine q_iload_n d_S_value_37 rfl ?_
  refine x_callVr (stk := [.int (nI k), .ref 67]) d_S_value_38 l_S_138 i_Se_standingState v_Se_standingState rfl h_e (c_Se_standingState hG hok (by omega) hz.2.2.1) rfl rfl (Nat.le_of_ble_eq_true rfl) (Nat.le_of_ble_eq_true rfl) (Nat.le_of_ble_eq_true rfl) (Nat.le_of_ble_eq_true rfl) (fun y hy => ?_)
  obtain ⟨m, hp2⟩ := y
  have hy : (m < 30016 ∧ St m = true ∧ cn St m = k) ∧ S_A w R St Fa Wa (w_pl w m pl) (w_vv w m vl) o hp2 ∧ F_S hp1 hp2 := hy
  have h_n := hy.2.1.2.2.2.2.2.2.1.1
  have h_np := hy.2.1.2.2.2.2.2.2.1.2.1
  have h_nv := hy.2.1.2.2.2.2.2.2.1.2.2
  have hin : vp_in (nI i) 5 := vp_in_nI (by omega) (by decide)
  have hcl : (nI i).toNatClampNeg = i := nI_clamp (by omega)
  show q_J _ _ _ _ _ _ _ _ hp2 _ _ _
  refine q_get d_S_value_41 f_S_146 h_n rfl ?_
  refine q_iload_n d_S_value_44 rfl ?_
  refine q_iald d_S_value_45 h_nv rfl hin ?_
  rw [hcl]
  refine q_iret d_S_value_46 rfl ?_ (Nat.le_of_ble_eq_true rfl) (Nat.le_of_ble_eq_true rfl) (by decide)
  refine ⟨(m, (R, St, Fa, Wa, w_pl w m pl, w_vv w m vl, o), hp2), ?_, rfl, h.srch (hz.2.2.2.2.trans hy.2.2) hy.2.1.b.2, ⟨(w_pl_ok (vl := vl) hok hz.2.1.1).2.1, ?_⟩, hz.2.2.2.1, hy.1, hz.2.2.2.2.trans hy.2.2⟩
  · show _ = Outcome.returned (some (.int (nI (w_dv w m i))))
    rw [show w_dv w m i = (w_vv w m vl) i from (if_pos (by omega)).symm]
  · rcases hz.2.1.2 with q | ⟨q1, q2, q3⟩
    · exact Or.inl q
    · exact Or.inr ⟨q1, hy.2.1.2.2.2.2.2.2.2, q3⟩
end C30
