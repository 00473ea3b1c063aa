/-! Search: all steps of a process -/
section C20
variable {g : q_G}
/-- figures are below the sizes -/
def w_fz (w : w_T) : Prop := ∀ q, q < w_p w → ∀ j, 1 ≤ j → j < c_n (w_c w q) → c_f (w_c w q) j < w_z w (c_v (w_c w q) j)
abbrev w_oc (w : w_T) (vl : Nat → Nat) (q j : Nat) : Option Nat := wo_o (c_k (w_c w q) j) (c_f (w_c w q) j) (vl (c_v (w_c w q) j)) (w_z w (c_v (w_c w q) j))
def w_nx (w : w_T) (pl vl : Nat → Nat) (q j : Nat) : Nat := w_u w (va_up pl q j) (va_up vl (c_v (w_c w q) j) ((w_oc w vl q j).getD 0))
/-- what the steps of a process to the places 1 to k come to -/
def sp (w : w_T) (pl vl : Nat → Nat) (q : Nat) : Nat → Nat → Bool
  | 0 => fun _ => false
  | k + 1 => fun m => sp w pl vl q k m || (w_can w pl vl q (k + 1) && decide (m = w_nx w pl vl q (k + 1)))
theorem w_op_bit (w : w_T) (pl vl : Nat → Nat) (q : Nat) : ∀ k j, (w_op w pl vl q k).testBit j = (decide (1 ≤ j ∧ j ≤ k) && w_can w pl vl q j) := by
  intro k
  induction k with
  | zero =>
    intro j
    show (0 : Nat).testBit j = _
    rw [Nat.zero_testBit, decide_eq_false (by omega)]
    rfl
  | succ k ih =>
    intro j
    unfold w_op
    by_cases h : w_can w pl vl q (k + 1) = true
    · rw [if_pos h, Nat.testBit_or, ih, Nat.testBit_two_pow]
      by_cases e : j = k + 1
      · subst e
        simp [h]
      · have e1 : decide (1 ≤ j ∧ j ≤ k + 1) = decide (1 ≤ j ∧ j ≤ k) := by
          rw [decide_eq_decide]; omega
        have e2 : decide (k + 1 = j) = false := decide_eq_false (fun q => e q.symm)
        rw [e1, e2, Bool.or_false]
    · rw [if_neg h, ih]
      by_cases e : j = k + 1
      · subst e
        simp [h]
      · have e1 : decide (1 ≤ j ∧ j ≤ k + 1) = decide (1 ≤ j ∧ j ≤ k) := by
          rw [decide_eq_decide]; omega
        rw [e1]
theorem w_op_lt (w : w_T) (pl vl : Nat → Nat) (q : Nat) : ∀ k, w_op w pl vl q k < 2 ^ (k + 1) := by
  intro k
  induction k with
  | zero => exact (by decide : 0 < 2)
  | succ k ih =>
    unfold w_op
    have h2 : w_op w pl vl q k < 2 ^ (k + 1 + 1) := Nat.lt_trans ih (Nat.pow_lt_pow_right (by decide) (by omega))
    split
    · exact Nat.or_lt_two_pow h2 (Nat.pow_lt_pow_right (by decide) (by omega))
    · exact h2
theorem w_op_0 {w : w_T} {pl vl : Nat → Nat} {q k : Nat} : w_op w pl vl q k = 0 ↔ ∀ j, 1 ≤ j → j ≤ k → w_can w pl vl q j = false := by
  refine ⟨fun h j h1 h2 => ?_, fun h => ?_⟩
  · have := w_op_bit w pl vl q k j
    rw [h, Nat.zero_testBit, decide_eq_true ⟨h1, h2⟩] at this
    exact this.symm
  · apply Nat.eq_of_testBit_eq
    intro j
    rw [w_op_bit, Nat.zero_testBit]
    by_cases e : 1 ≤ j ∧ j ≤ k
    · rw [decide_eq_true e, h j e.1 e.2]; rfl
    · rw [decide_eq_false e]; rfl
theorem oc_lt {w : w_T} {pl vl : Nat → Nat} {q j y : Nat} (hok : w_ok w) (hfz : w_fz w) (hs : s_ok w pl vl) (hq : q < w_p w) (h1 : 1 ≤ j) (h2 : j < c_n (w_c w q)) (hy : w_oc w vl q j = some y) : y < w_z w (c_v (w_c w q) j) := by
  have hv : c_v (w_c w q) j < 5 := by
    have a := hok.2.2.2 q (by have := hok.2.1; omega)
    have b : j < 13 := by have := a.2.1; omega
    exact (a.2.2.2 j b).2.2.1
  exact wo_o_lt (hfz q hq j h1 h2) (hs.2.2 _ hv) hy
theorem nx_ok {w : w_T} {pl vl : Nat → Nat} {q j y : Nat} (hok : w_ok w) (hfz : w_fz w) (hs : s_ok w pl vl) (hq : q < w_p w) (h1 : 1 ≤ j) (h2 : j < c_n (w_c w q)) (hy : w_oc w vl q j = some y) : s_ok w (va_up pl q j) (va_up vl (c_v (w_c w q) j) y) := by
  have a := hok.2.2.2 q (by have := hok.2.1; omega)
  have b : j < 13 := by have := a.2.1; omega
  refine ⟨fun q' hq' => ?_, fun q' hq' => ?_, fun v hv => ?_⟩
  · unfold va_up
    split
    · next e => rw [e]; exact h2
    · exact hs.1 q' hq'
  · unfold va_up
    split
    · exact b
    · exact hs.2.1 q' hq'
  · unfold va_up
    split
    · next e => rw [e]; exact oc_lt hok hfz hs hq h1 h2 hy
    · exact hs.2.2 v hv
set_option maxRecDepth 10000 in
set_option maxHeartbeats 2000000 in
theorem l_Se_ra (hG : q_GG g) {w : w_T} {St Fa : Nat → Bool} {pl vl : Nat → Nat} {o : Nat × Nat × Nat × Nat} {R Wa : Nat → Bool} {q : Nat} {hpb : List va_E} (hok : w_ok w) (hfz : w_fz w) (hN : w_q w ≤ 30000) (hs : s_ok w pl vl) (hq : q < w_p w) : ∀ (k j : Nat), j + 1 + k = c_n (w_c w q) → ∀ (z6 z7 : Option Value) (hp : List va_E), S_A w (fun m => R m || sp w pl vl q j m) St Fa (fun m => Wa m || (sp w pl vl q j m && !R m)) pl vl o hp → F_S hpb hp → q_J g m_Se_reachAll true (q_R 2 40 0 0) (q_ho none (fun hp2 => S_A w (fun m => R m || sp w pl vl q (c_n (w_c w q) - 1) m) St Fa (fun m => Wa m || (sp w pl vl q (c_n (w_c w q) - 1) m && !R m)) pl vl o hp2 ∧ F_S hpb hp2)) 14 [some (.ref 67), some (.int (nI (w_u w pl vl))), some (.int (nI q)), some (.int (nI (w_op w pl vl q (c_n (w_c w q) - 1)))), some (.ref (7 + 5 * q)), some (.int (nI (j + 1))), z6, z7] [] hp 0 0 true := by
  have hp6 := hok.2.1
  obtain ⟨c1, c2, c3, c4⟩ := hok.2.2.2 q (by omega)
  intro k
  induction k with
  | zero =>
    intro j hj z6 z7 hp h hF
    have h_c := (h.1.2.2.2.2 q (by omega)).1
    refine q_iload d_Se_reachAll_14 rfl ?_
    refine q_aload d_Se_reachAll_16 rfl rfl ?_
    refine q_get d_Se_reachAll_18 f_Se_114 h_c rfl ?_
    refine q_icmp_ge (tgt := 113) d_Se_reachAll_21 (by decide) (fun b21 => ?_) (fun b21 => ?_)
    · skip
      refine q_vret d_Se_reachAll_113 rfl ?_ (Nat.le_of_ble_eq_true rfl) (Nat.le_of_ble_eq_true rfl) (by decide)
      refine ⟨hp, rfl, rfl, ?_, hF⟩
      rw [show c_n (w_c w q) - 1 = j by omega]
      exact h
    · skip
      exact absurd (nI_le (by omega) (by omega)) b21
  | succ k ih =>
    intro j hj z6 z7 hp h hF
    have ih := fun j (e : j + 1 + k = c_n (w_c w q)) => ih j e
    have h_s := h.2.1
    have h_w := h.1.1
    have hC := h.1.2.2.2.2 q (by omega)
    have h_c := hC.1
    have h_cv := hC.2.2.2.1
    have h_n := h.2.2.2.2.2.2.1.1
    have h_pl := h.2.2.2.2.2.2.1.2.1
    have h_vl := h.2.2.2.2.2.2.1.2.2
    obtain ⟨⟨fp, h_pw, hfp⟩, ⟨fv, h_vw, hfv⟩⟩ := h.2.2.2.2.2.2.2
    have hv5 := (c4 (j + 1) (by omega)).2.2.1
    have hclj : (nI (j + 1)).toNatClampNeg = j + 1 := nI_clamp (by omega)
    have hinj : vp_in (nI (j + 1)) 13 := vp_in_nI (by omega) (by decide)
    have hclv : (nI (c_v (w_c w q) (j + 1))).toNatClampNeg = c_v (w_c w q) (j + 1) := nI_clamp (by omega)
    have hinv : vp_in (nI (c_v (w_c w q) (j + 1))) 5 := vp_in_nI hv5 (by decide)
    have hclq : (nI q).toNatClampNeg = q := nI_clamp (by omega)
    have hinq : vp_in (nI q) 6 := vp_in_nI (by omega) (by decide)
    have hvw := hfv _ hv5
    have hpw := hfp _ hq
    refine q_iload d_Se_reachAll_14 rfl ?_
    refine q_aload d_Se_reachAll_16 rfl rfl ?_
    refine q_get d_Se_reachAll_18 f_Se_114 h_c rfl ?_
    refine q_icmp_ge (tgt := 113) d_Se_reachAll_21 (by decide) (fun b21 => ?_) (fun b21 => ?_)
    · skip
      exact absurd b21 (nI_ge (by omega) (by omega))
    · skip
      refine q_iload_n d_Se_reachAll_24 rfl ?_
      refine q_iload d_Se_reachAll_25 rfl ?_
      refine q_ishr d_Se_reachAll_27 ?_
      refine q_iconst (v := 1) d_Se_reachAll_28 (by decide) ?_
      refine q_iand d_Se_reachAll_29 ?_
      refine q_if_eq (tgt := 107) d_Se_reachAll_30 (by decide) (fun b30 => ?_) (fun b30 => ?_)
      · skip
        rw [tb_1 (by have := w_op_lt w pl vl q (c_n (w_c w q) - 1); have : 2 ^ (c_n (w_c w q) - 1 + 1) ≤ 2 ^ 13 := Nat.pow_le_pow_right (by decide) (by omega); omega) (by omega)] at b30
        refine q_iinc d_Se_reachAll_107 rfl (show _ + Int32.ofInt 1 = _ + 1 from rfl) (by decide) rfl ?_
        rw [nI_1]
        refine q_goto (tgt := 14) d_Se_reachAll_110 (by decide) ?_
        have hcan0 : w_can w pl vl q (j + 1) = false := by
          have := w_op_bit w pl vl q (c_n (w_c w q) - 1) (j + 1)
          rw [decide_eq_true ⟨by omega, by omega⟩, b30] at this
          exact this.symm
        refine ih (j + 1) (by omega) _ _ hp (h.eq (fun m _ => ?_) (fun _ _ => rfl) (fun _ _ => rfl) (fun m _ => ?_)) hF
        · show (R m || sp w pl vl q j m) = (R m || (sp w pl vl q j m || (w_can w pl vl q (j + 1) && _)))
          rw [hcan0, Bool.false_and, Bool.or_false]
        · show (Wa m || (sp w pl vl q j m && !R m)) = (Wa m || ((sp w pl vl q j m || (w_can w pl vl q (j + 1) && _)) && !R m))
          rw [hcan0, Bool.false_and, Bool.or_false]
      · skip
        rw [tb_1 (by have := w_op_lt w pl vl q (c_n (w_c w q) - 1); have : 2 ^ (c_n (w_c w q) - 1 + 1) ≤ 2 ^ 13 := Nat.pow_le_pow_right (by decide) (by omega); omega) (by omega), Bool.not_eq_false] at b30
        refine q_aload d_Se_reachAll_33 rfl rfl ?_
        refine q_get d_Se_reachAll_35 f_Se_138 h_c rfl ?_
        refine q_iload d_Se_reachAll_38 rfl ?_
        refine q_iald d_Se_reachAll_40 h_cv rfl hinj ?_
        rw [hclj]
        refine q_istore d_Se_reachAll_41 (by decide) rfl ?_
        refine q_aload_n d_Se_reachAll_43 rfl rfl ?_
        refine q_get d_Se_reachAll_44 f_Se_41 h_s rfl ?_
        refine q_aload_n d_Se_reachAll_47 rfl rfl ?_
        refine q_get d_Se_reachAll_48 f_Se_30 h_s rfl ?_
        refine q_aload d_Se_reachAll_51 rfl rfl ?_
        refine q_iload d_Se_reachAll_53 rfl ?_
        refine x_callV d_Se_reachAll_55 l_Se_141 i_Wo_outcome v_Wo_outcome rfl h_w (c_Wo_outcome hG hok h.1 h.2.2.2.2.2.2.1 hs.2.2 (by omega) (by omega)) rfl rfl (Nat.le_of_ble_eq_true rfl) (Nat.le_of_ble_eq_true rfl) (Nat.le_of_ble_eq_true rfl) (Nat.le_of_ble_eq_true rfl) ?_
        have hcan : w_can w pl vl q (j + 1) = true := by
          have := w_op_bit w pl vl q (c_n (w_c w q) - 1) (j + 1)
          rw [decide_eq_true ⟨by omega, by omega⟩, b30] at this
          exact this.symm
        have hsome : (w_oc w vl q (j + 1)).isSome = true := by
          unfold w_can at hcan
          exact (Bool.and_eq_true_iff.mp hcan).2
        obtain ⟨y, hy⟩ := Option.isSome_iff_exists.mp hsome
        rw [show wo_o (c_k (w_c w q) (j + 1)) (c_f (w_c w q) (j + 1)) (vl (c_v (w_c w q) (j + 1))) (w_z w (c_v (w_c w q) (j + 1))) = some y from hy]
        show q_J _ _ _ _ _ _ _ (.int (nI y) :: _) _ _ _ _
        have hnx := s_lt (nx_ok hok hfz hs hq (show 1 ≤ j + 1 by omega) (by omega) hy)
        refine q_aload_n d_Se_reachAll_58 rfl rfl ?_
        refine q_get d_Se_reachAll_59 f_Se_30 h_s rfl ?_
        refine q_get d_Se_reachAll_62 f_Se_145 h_n rfl ?_
        refine q_iload d_Se_reachAll_65 rfl ?_
        refine q_iald d_Se_reachAll_67 h_vl rfl hinv ?_
        rw [hclv]
        refine q_isub d_Se_reachAll_68 ?_
        refine q_istore d_Se_reachAll_69 (by decide) rfl ?_
        refine q_aload_n d_Se_reachAll_71 rfl rfl ?_
        refine q_iload_n d_Se_reachAll_72 rfl ?_
        refine q_iload d_Se_reachAll_73 rfl ?_
        refine q_aload_n d_Se_reachAll_75 rfl rfl ?_
        refine q_get d_Se_reachAll_76 f_Se_38 h_s rfl ?_
        refine q_iload d_Se_reachAll_79 rfl ?_
        refine q_iald d_Se_reachAll_81 h_vw rfl hinv ?_
        rw [hclv, hvw]
        refine q_imul d_Se_reachAll_82 ?_
        refine q_iadd d_Se_reachAll_83 ?_
        refine q_iload d_Se_reachAll_84 rfl ?_
        refine q_aload_n d_Se_reachAll_86 rfl rfl ?_
        refine q_get d_Se_reachAll_87 f_Se_30 h_s rfl ?_
        refine q_get d_Se_reachAll_90 f_Se_148 h_n rfl ?_
        refine q_iload_n d_Se_reachAll_93 rfl ?_
        refine q_iald d_Se_reachAll_94 h_pl rfl hinq ?_
        rw [hclq]
        refine q_isub d_Se_reachAll_95 ?_
        refine q_aload_n d_Se_reachAll_96 rfl rfl ?_
        refine q_get d_Se_reachAll_97 f_Se_34 h_s rfl ?_
        refine q_iload_n d_Se_reachAll_100 rfl ?_
        refine q_iald d_Se_reachAll_101 h_pw rfl hinq ?_
        rw [hclq, hpw]
        refine q_imul d_Se_reachAll_102 ?_
        refine q_iadd d_Se_reachAll_103 ?_
        rw [s_int (s_step (w := w) (pl := pl) (vl := vl) (q := q) (j := j + 1) (v := c_v (w_c w q) (j + 1)) (y := y) hq hv5)]
        refine x_callVr d_Se_reachAll_104 l_Se_75 i_Se_reach v_Se_reach rfl h_s (c_Se_reach hG h (by omega)) rfl rfl (Nat.le_of_ble_eq_true rfl) (Nat.le_of_ble_eq_true rfl) (Nat.le_of_ble_eq_true rfl) (Nat.le_of_ble_eq_true rfl) (fun hp1 h1 => ?_)
        refine q_iinc d_Se_reachAll_107 rfl (show _ + Int32.ofInt 1 = _ + 1 from rfl) (by decide) rfl ?_
        rw [nI_1]
        refine q_goto (tgt := 14) d_Se_reachAll_110 (by decide) ?_
        have hnx2 : w_nx w pl vl q (j + 1) = w_u w (va_up pl q (j + 1)) (va_up vl (c_v (w_c w q) (j + 1)) y) := by
          unfold w_nx
          rw [hy]
          rfl
        refine ih (j + 1) (by omega) _ _ hp1 (h1.1.eq (fun m _ => ?_) (fun _ _ => rfl) (fun _ _ => rfl) (fun m _ => ?_)) (hF.trans h1.2)
        · show ((R m || sp w pl vl q j m) || decide (m = _)) = (R m || (sp w pl vl q j m || (w_can w pl vl q (j + 1) && decide (m = w_nx w pl vl q (j + 1)))))
          rw [hcan, Bool.true_and, hnx2, Bool.or_assoc]
        · show ((Wa m || (sp w pl vl q j m && !R m)) || (decide (m = _) && !(R m || sp w pl vl q j m))) = (Wa m || ((sp w pl vl q j m || (w_can w pl vl q (j + 1) && decide (m = w_nx w pl vl q (j + 1)))) && !R m))
          rw [hcan, Bool.true_and, hnx2]
          cases Wa m <;> cases R m <;> cases sp w pl vl q j m <;> cases decide (m = w_u w (va_up pl q (j + 1)) (va_up vl (c_v (w_c w q) (j + 1)) y)) <;> rfl
set_option maxRecDepth 10000 in
set_option maxHeartbeats 2000000 in
theorem c_Se_reachAll (hG : q_GG g) {w : w_T} {St Fa : Nat → Bool} {pl vl : Nat → Nat} {o : Nat × Nat × Nat × Nat} {R Wa : Nat → Bool} {q : Nat} {hp : List va_E} (hok : w_ok w) (hfz : w_fz w) (hN : w_q w ≤ 30000) (hs : s_ok w pl vl) (hq : q < w_p w) (h : S_A w R St Fa Wa pl vl o hp) : q_C g m_Se_reachAll true (q_R 2 40 0 0) [.ref 67, .int (nI (w_u w pl vl)), .int (nI q), .int (nI (w_op w pl vl q (c_n (w_c w q) - 1)))] hp (q_ho none (fun hp2 => S_A w (fun m => R m || sp w pl vl q (c_n (w_c w q) - 1) m) St Fa (fun m => Wa m || (sp w pl vl q (c_n (w_c w q) - 1) m && !R m)) pl vl o hp2 ∧ F_S hp hp2)) := by
  refine q_C.of hG (by decide) (Nat.le_of_ble_eq_true rfl) ?_
  have hp6 := hok.2.1
  obtain ⟨c1, c2, c3, c4⟩ := hok.2.2.2 q (by omega)
  have h_s := h.2.1
  have h_w := h.1.1
  have h_r := h.1.2.2.2.1
  have hinq : vp_in (nI q) 6 := vp_in_nI (by omega) (by decide)
  refine q_aload_n d_Se_reachAll_0 rfl rfl ?_
  refine q_get d_Se_reachAll_1 f_Se_41 h_s rfl ?_
  refine q_get d_Se_reachAll_4 f_Se_110 h_w rfl ?_
  refine q_iload_n d_Se_reachAll_7 rfl ?_
  refine q_aald d_Se_reachAll_8 h_r rfl hinq (cr_at (by omega)) ?_
  refine q_astore d_Se_reachAll_9 rfl (by decide) rfl ?_
  refine q_iconst (v := 1) d_Se_reachAll_11 (by decide) ?_
  refine q_istore d_Se_reachAll_12 (by decide) rfl ?_
  refine q_wrote ?_
  refine l_Se_ra (R := R) (Wa := Wa) hG hok hfz hN hs hq (c_n (w_c w q) - 1) 0 (by omega) none none hp (h.eq (fun m _ => ?_) (fun _ _ => rfl) (fun _ _ => rfl) (fun m _ => ?_)) (F_S.refl hp)
  · show R m = (R m || false)
    rw [Bool.or_false]
  · show Wa m = (Wa m || (false && _))
    rw [Bool.false_and, Bool.or_false]
end C20
