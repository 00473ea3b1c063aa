/-! the reference: possible, moves, move -/
section M11
variable {g : q_G}
theorem W_M.keep {w : w_T} {m0 m : Nat → Int32} {A0 A : Nat → Nat → Int32} {L L' : List Nat} (h : W_M w m0 A0) (km : mo_K L m0 m) (kA : mo_K L' A0 A) (h1 : 5 ∉ L ∧ 8 ∉ L) (h2 : ∀ k ∈ [1, 2, 3, 4, 5, 6, 7, 8], k ∉ L') : W_M w m A := by
  have e : ∀ k, k ∈ [1, 2, 3, 4, 5, 6, 7, 8] → A k = A0 k := fun k hk => kA k (h2 k hk)
  refine ⟨(km 5 h1.1).trans h.1, (km 8 h1.2).trans h.2.1, fun v hv => ?_, fun q hq => ?_⟩
  · rw [e 1 (by decide), e 2 (by decide)]
    exact h.2.2.1 v hv
  · have d := h.2.2.2 q hq
    unfold D_M
    rw [e 3 (by decide), e 4 (by decide), e 5 (by decide), e 6 (by decide), e 7 (by decide), e 8 (by decide)]
    exact d
/-- how many of the places before j it can step to -/
def m_c (w : w_T) (pl vl : Nat → Nat) (q : Nat) : Nat → Nat
  | 0 => 0
  | j + 1 => m_c w pl vl q j + (if 1 ≤ j ∧ w_can w pl vl q j = true then 1 else 0)
theorem can_lt {w : w_T} {pl vl : Nat → Nat} {q j : Nat} (hb : c_bz (w_c w q)) (hp13 : pl q < 13) (h : w_can w pl vl q j = true) : j < c_n (w_c w q) := by
  by_cases h0 : j < c_n (w_c w q)
  · exact h0
  · unfold w_can at h
    rw [Nat.testBit_lt_two_pow (Nat.lt_of_lt_of_le (hb (pl q) hp13) (Nat.pow_le_pow_right (by decide) (by omega)))] at h
    cases h
theorem m_c_op {w : w_T} {pl vl : Nat → Nat} {q : Nat} (hb : c_bz (w_c w q)) (hp13 : pl q < 13) : ∀ j, m_c w pl vl q j = pb_cnt j (w_op w pl vl q (c_n (w_c w q) - 1)) := by
  intro j
  induction j with
  | zero => rfl
  | succ j ih =>
    rw [pb_cnt_s, w_op_bit, ← ih]
    show m_c w pl vl q j + _ = _
    by_cases h : 1 ≤ j ∧ w_can w pl vl q j = true
    · have := can_lt hb hp13 h.2
      rw [if_pos h, if_pos (by rw [h.2]; simp; omega)]
    · rw [if_neg h, if_neg (fun k => h ?_)]
      simp only [Bool.and_eq_true, decide_eq_true_eq] at k
      exact ⟨k.1.1, k.2⟩
theorem m_c_13 {w : w_T} {pl vl : Nat → Nat} {q : Nat} (hb : c_bz (w_c w q)) (hp13 : pl q < 13) : w_mv w pl vl q + m_c w pl vl q 13 = w_mv w pl vl (q + 1) := by
  rw [m_c_op hb hp13]
  rfl
set_option maxRecDepth 10000 in
set_option maxHeartbeats 2000000 in
theorem l_Mo_posI (hG : q_GG g) {b : List va_E} {m0 : Nat → Int32} {A0 : Nat → Nat → Int32} {w : w_T} {pl vl : Nat → Nat} {q : Nat} {P : Outcome → List va_E → Prop} (hmk : w_mk w) (hW0 : W_M w m0 A0) (hst : st_M w pl vl (A0 20)) (hpl : ∀ q, q < w_p w → pl q < c_n (w_c w q)) (hvl : ∀ v, v < 5 → vl v < w_z w v) (hq : q < w_p w) (hout : ∀ m A hp, M_A b m A hp → mo_K [] m0 m → mo_K [21] A0 A → q_J g m_Mo_possible true (q_R 1 20 0 0) P 4 [some (.ref 84), some (.int (nI (w_mv w pl vl (q + 1)))), some (.int (nI (q + 1))), some (.int (nI 13))] [] hp 0 0 true) : ∀ (k j : Nat), 1 ≤ j → j + k = 13 → ∀ (m : Nat → Int32) (A : Nat → Nat → Int32) (hp : List va_E), M_A b m A hp → mo_K [] m0 m → mo_K [21] A0 A → q_J g m_Mo_possible true (q_R 1 20 0 0) P 14 [some (.ref 84), some (.int (nI (w_mv w pl vl q + m_c w pl vl q j))), some (.int (nI q)), some (.int (nI j))] [] hp 0 0 true := by
  have hp13 : pl q < 13 := Nat.lt_of_lt_of_le (hpl q hq) (hmk.1.2.2.2 q (Nat.lt_of_lt_of_le hq hmk.1.2.1)).2.1
  intro k
  induction k with
  | zero =>
    intro j hj1 hjk m A hp hA km kA
    obtain rfl : j = 13 := by omega
    have v8 : m 8 = nI (w_p w) := (km 8 (by decide)).trans hW0.2.1
    refine q_iload_n d_Mo_possible_14 rfl ?_
    refine q_bipush (v := 13) d_Mo_possible_15 (by decide) ?_
    refine q_icmp_ge (tgt := 43) d_Mo_possible_17 (by decide) (fun b17 => ?_) (fun b17 => ?_)
    · skip
      refine q_iinc d_Mo_possible_43 rfl (show _ + Int32.ofInt 1 = _ + 1 from rfl) (by decide) rfl ?_
      refine q_goto (tgt := 4) d_Mo_possible_46 (by decide) ?_
      rw [nI_1, m_c_13 (hmk.2.2.1 q hq) hp13]
      exact hout m A _ hA km kA
    · skip
      exact absurd (show (13 : Int32) ≤ nI 13 by decide) b17
  | succ k ih =>
    intro j hj1 hjk m A hp hA km kA
    have hj : j < 13 := by omega
    have v8 : m 8 = nI (w_p w) := (km 8 (by decide)).trans hW0.2.1
    refine q_iload_n d_Mo_possible_14 rfl ?_
    refine q_bipush (v := 13) d_Mo_possible_15 (by decide) ?_
    refine q_icmp_ge (tgt := 43) d_Mo_possible_17 (by decide) (fun b17 => ?_) (fun b17 => ?_)
    · skip
      exact absurd b17 (nI_ge (show j < 13 by omega) (by decide))
    · skip
      refine q_aload_n d_Mo_possible_20 rfl rfl ?_
      refine q_iload_n d_Mo_possible_21 rfl ?_
      refine q_iload_n d_Mo_possible_22 rfl ?_
      refine x_callVm d_Mo_possible_23 l_Mo_175 i_Mo_goes v_Mo_goes rfl hA.1 (c_Mo_goes hG hA hmk (hW0.keep km kA (by decide) (by decide)) (by rw [kA 20 (by decide)]; exact hst) hpl hvl hq hj1 hj) rfl rfl (Nat.le_of_ble_eq_true rfl) (Nat.le_of_ble_eq_true rfl) (Nat.le_of_ble_eq_true rfl) (Nat.le_of_ble_eq_true rfl) (fun m A hp1 hA hz => ?_)
      obtain ⟨-, nm, nA⟩ := hz
      have v8 := (nm 8 (by decide)).trans v8
      have km := km.sub nm (by decide)
      have kA := kA.sub nA (by decide)
      refine q_join (pc' := 36) (st' := []) (nI (w_mv w pl vl q + m_c w pl vl q (j + 1))) (fun x36 hx36 => ?_) (fun J36 => ?_)
      · subst hx36
        refine q_istore_n d_Mo_possible_36 rfl (by decide) rfl ?_
        refine q_iinc d_Mo_possible_37 rfl (show _ + Int32.ofInt 1 = _ + 1 from rfl) (by decide) rfl ?_
        refine q_goto (tgt := 14) d_Mo_possible_40 (by decide) ?_
        rw [nI_1]
        exact ih (j + 1) (by omega) (by omega) m A _ hA km kA
      · skip
        refine q_if_eq (tgt := 35) d_Mo_possible_26 (by decide) (fun b26 => ?_) (fun b26 => ?_)
        · skip
          have hc : ¬ w_can w pl vl q j = true := m_if0.mp b26
          have hm : m_c w pl vl q (j + 1) = m_c w pl vl q j := by
            show m_c w pl vl q j + (if 1 ≤ j ∧ w_can w pl vl q j = true then 1 else 0) = _
            rw [if_neg (fun h => hc h.2)]
            rfl
          refine q_iload_n d_Mo_possible_35 rfl ?_
          exact J36 _ (by first | (rw [nI_1, hm, Nat.add_assoc]; done) | (rw [hm]; done))
        · skip
          have hc : w_can w pl vl q j = true := Classical.byContradiction (fun h => b26 (m_if0.mpr h))
          have hm : m_c w pl vl q (j + 1) = m_c w pl vl q j + 1 := by
            show m_c w pl vl q j + (if 1 ≤ j ∧ w_can w pl vl q j = true then 1 else 0) = _
            rw [if_pos ⟨hj1, hc⟩]
          refine q_iload_n d_Mo_possible_29 rfl ?_
          refine q_iconst (v := 1) d_Mo_possible_30 (by decide) ?_
          refine q_iadd d_Mo_possible_31 ?_
          refine q_goto (tgt := 36) d_Mo_possible_32 (by decide) ?_
          exact J36 _ (by first | (rw [nI_1, hm, Nat.add_assoc]; done) | (rw [hm]; done))
set_option maxRecDepth 10000 in
set_option maxHeartbeats 2000000 in
theorem l_Mo_posO (hG : q_GG g) {b : List va_E} {m0 : Nat → Int32} {A0 : Nat → Nat → Int32} {w : w_T} {pl vl : Nat → Nat} (hmk : w_mk w) (hW0 : W_M w m0 A0) (hst : st_M w pl vl (A0 20)) (hpl : ∀ q, q < w_p w → pl q < c_n (w_c w q)) (hvl : ∀ v, v < 5 → vl v < w_z w v) : ∀ (k q : Nat), q + k = w_p w → ∀ (m : Nat → Int32) (A : Nat → Nat → Int32) (hp : List va_E) (z3 : Option Value), M_A b m A hp → mo_K [] m0 m → mo_K [21] A0 A → q_J g m_Mo_possible true (q_R 1 20 0 0) (q_mo (some (.int (nI (w_mv w pl vl (w_p w))))) b (fun m' A' => mo_K [] m0 m' ∧ mo_K [21] A0 A')) 4 [some (.ref 84), some (.int (nI (w_mv w pl vl q))), some (.int (nI q)), z3] [] hp 0 0 true := by
  have hp6 := hmk.1.2.1
  intro k
  induction k with
  | zero =>
    intro q hq m A hp z3 hA km kA
    have v8 : m 8 = nI (w_p w) := (km 8 (by decide)).trans hW0.2.1
    refine q_iload_n d_Mo_possible_4 rfl ?_
    refine q_aload_n d_Mo_possible_5 rfl rfl ?_
    refine q_get d_Mo_possible_6 f_Mo_111 hA.1 rfl ?_
    rw [v8]
    refine q_icmp_ge (tgt := 49) d_Mo_possible_9 (by decide) (fun b9 => ?_) (fun b9 => ?_)
    · skip
      refine q_iload_n d_Mo_possible_49 rfl ?_
      refine q_iret d_Mo_possible_50 rfl ?_ (Nat.le_of_ble_eq_true rfl) (Nat.le_of_ble_eq_true rfl) (by decide)
      rw [show q = w_p w by omega]
      exact ⟨(_, _, _), rfl, rfl, hA, km, kA⟩
    · skip
      exact absurd (nI_le (by omega) (by omega)) b9
  | succ k ih =>
    intro q hq m A hp z3 hA km kA
    have v8 : m 8 = nI (w_p w) := (km 8 (by decide)).trans hW0.2.1
    refine q_iload_n d_Mo_possible_4 rfl ?_
    refine q_aload_n d_Mo_possible_5 rfl rfl ?_
    refine q_get d_Mo_possible_6 f_Mo_111 hA.1 rfl ?_
    rw [v8]
    refine q_icmp_ge (tgt := 49) d_Mo_possible_9 (by decide) (fun b9 => ?_) (fun b9 => ?_)
    · skip
      exact absurd b9 (nI_ge (by omega) (by omega))
    · skip
      refine q_iconst (v := 1) d_Mo_possible_12 (by decide) ?_
      refine q_istore_n d_Mo_possible_13 rfl (by decide) rfl ?_
      rw [show w_mv w pl vl q = w_mv w pl vl q + m_c w pl vl q 1 from rfl]
      exact l_Mo_posI hG hmk hW0 hst hpl hvl (by omega) (fun m A hp hA km kA => ih (q + 1) (by omega) m A hp _ hA km kA) 12 1 (by omega) (by omega) m A hp hA km kA
set_option maxRecDepth 10000 in
set_option maxHeartbeats 2000000 in
theorem c_Mo_possible (hG : q_GG g) {b hp : List va_E} {m : Nat → Int32} {A : Nat → Nat → Int32} {w : w_T} {pl vl : Nat → Nat} (hA : M_A b m A hp) (hmk : w_mk w) (hW0 : W_M w m A) (hst : st_M w pl vl (A 20)) (hpl : ∀ q, q < w_p w → pl q < c_n (w_c w q)) (hvl : ∀ v, v < 5 → vl v < w_z w v) : q_C g m_Mo_possible true (q_R 1 20 0 0) [.ref 84] hp (q_mo (some (.int (nI (w_mv w pl vl (w_p w))))) b (fun m' A' => mo_K [] m m' ∧ mo_K [21] A A')) := by
  refine q_C.of hG (by decide) (Nat.le_of_ble_eq_true rfl) ?_
  refine q_wrote ?_
  refine q_iconst (v := 0) d_Mo_possible_0 (by decide) ?_
  refine q_istore_n d_Mo_possible_1 rfl (by decide) rfl ?_
  refine q_iconst (v := 0) d_Mo_possible_2 (by decide) ?_
  refine q_istore_n d_Mo_possible_3 rfl (by decide) rfl ?_
  exact l_Mo_posO hG hmk hW0 hst hpl hvl (w_p w) 0 (by omega) m A hp _ hA mo_K.rfl mo_K.rfl
theorem st_M.cpy {w : w_T} {pl vl : Nat → Nat} {s f : Nat → Int32} (hok : w_ok w) (h : st_M w pl vl s) : st_M w pl vl (cpy 11 s f) := by
  have h5 := hok.1
  have h6 := hok.2.1
  exact ⟨fun q hq => by rw [cpy_lt (by omega)]; exact h.1 q hq, fun v hv => by rw [cpy_lt (by omega)]; exact h.2 v hv⟩
set_option maxRecDepth 10000 in
set_option maxHeartbeats 2000000 in
theorem c_Mo_moves (hG : q_GG g) {b hp : List va_E} {m : Nat → Int32} {A : Nat → Nat → Int32} {w : w_T} {pl vl : Nat → Nat} (hA : M_A b m A hp) (hmk : w_mk w) (hW : W_M w m A) (hst : st_M w pl vl (A 19)) (hpl : ∀ q, q < w_p w → pl q < c_n (w_c w q)) (hvl : ∀ v, v < 5 → vl v < w_z w v) : q_C g m_Mo_moves true (q_R 2 40 0 0) [.ref 84] hp (q_mo (some (.int (nI (w_mv w pl vl (w_p w))))) b (fun m' A' => m' 0 = 0 ∧ mo_K [0] m m' ∧ mo_K [20, 21] A A')) := by
  refine q_C.of hG (by decide) (Nat.le_of_ble_eq_true rfl) ?_
  have km : mo_K [0] m m := mo_K.rfl
  have kA : mo_K [20, 21] A A := mo_K.rfl
  refine q_aload_n d_Mo_moves_0 rfl rfl ?_
  refine q_iconst (v := 0) d_Mo_moves_1 (by decide) ?_
  refine x_put d_Mo_moves_2 f_Mo_90 hA.1 (Nat.le_of_ble_eq_true rfl) rfl rfl (fun hp1 e1 _ => ?_)
  obtain ⟨m, hA, v0, nn⟩ := hA.put (k := 0) (by decide) e1
  have km := km.put nn (by decide)
  refine q_aload_n d_Mo_moves_5 rfl rfl ?_
  refine x_callVm d_Mo_moves_6 l_Mo_179 i_Mo_fromNow v_Mo_fromNow rfl hA.1 (c_Mo_fromNow hG hA) rfl rfl (Nat.le_of_ble_eq_true rfl) (Nat.le_of_ble_eq_true rfl) (Nat.le_of_ble_eq_true rfl) (Nat.le_of_ble_eq_true rfl) (fun m A hp2 hA hz => ?_)
  obtain ⟨w20, nm, nA⟩ := hz
  have v0 := (nm 0 (by decide)).trans v0
  have km := km.sub nm (by decide)
  have kA := kA.sub nA (by decide)
  refine q_aload_n d_Mo_moves_9 rfl rfl ?_
  refine x_callVm d_Mo_moves_10 l_Mo_182 i_Mo_possible v_Mo_possible rfl hA.1 (c_Mo_possible hG hA hmk (hW.keep km kA (by decide) (by decide)) (by rw [w20]; exact hst.cpy hmk.1) hpl hvl) rfl rfl (Nat.le_of_ble_eq_true rfl) (Nat.le_of_ble_eq_true rfl) (Nat.le_of_ble_eq_true rfl) (Nat.le_of_ble_eq_true rfl) (fun m A hp3 hA hz => ?_)
  obtain ⟨nm, nA⟩ := hz
  have v0 := (nm 0 (by decide)).trans v0
  have km := km.sub nm (by decide)
  have kA := kA.sub nA (by decide)
  refine q_iret d_Mo_moves_13 rfl ?_ (Nat.le_of_ble_eq_true rfl) (Nat.le_of_ble_eq_true rfl) (by decide)
  exact ⟨(_, _, _), rfl, rfl, hA, v0, km, kA⟩
end M11
