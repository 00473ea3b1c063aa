/-! the reference: the rest of its calls -/
section M16
variable {g : q_G}
set_option maxRecDepth 10000 in
set_option maxHeartbeats 2000000 in
theorem c_Mo_fault (hG : q_GG g) {b hp : List va_E} {m : Nat → Int32} {A : Nat → Nat → Int32} (hA : M_A b m A hp) : q_C g m_Mo_fault true (q_R 0 0 0 0) [.ref 84] hp (q_mo (some (.int (m 3))) b (fun m' A' => m' 0 = 0 ∧ mo_K [0] m m' ∧ mo_K [] A A')) := by
  refine q_C.of hG (by decide) (Nat.le_of_ble_eq_true rfl) ?_
  have km : mo_K [0] m m := mo_K.rfl
  have v3 : m 3 = m 3 := rfl
  refine q_aload_n d_Mo_fault_0 rfl rfl ?_
  refine q_iconst (v := 0) d_Mo_fault_1 (by decide) ?_
  refine x_put d_Mo_fault_2 f_Mo_90 hA.1 (Nat.le_of_ble_eq_true rfl) rfl rfl (fun hp1 e1 _ => ?_)
  obtain ⟨m, hA, v0, nn⟩ := hA.put (k := 0) (by decide) e1
  have v3 := (nn 3 (by decide)).trans v3
  have km := km.put nn (by decide)
  refine q_aload_n d_Mo_fault_5 rfl rfl ?_
  refine q_get d_Mo_fault_6 f_Mo_114 hA.1 rfl ?_
  rw [v3]
  refine q_iret d_Mo_fault_9 rfl ?_ (Nat.le_of_ble_eq_true rfl) (Nat.le_of_ble_eq_true rfl) (by decide)
  exact ⟨(_, _, _), rfl, rfl, hA, v0, km, mo_K.rfl⟩
set_option maxRecDepth 10000 in
set_option maxHeartbeats 2000000 in
theorem c_Mo_faultAt (hG : q_GG g) {b hp : List va_E} {m : Nat → Int32} {A : Nat → Nat → Int32} (hA : M_A b m A hp) : q_C g m_Mo_faultAt true (q_R 0 0 0 0) [.ref 84] hp (q_mo (some (.int (m 4))) b (fun m' A' => m' 0 = 0 ∧ mo_K [0] m m' ∧ mo_K [] A A')) := by
  refine q_C.of hG (by decide) (Nat.le_of_ble_eq_true rfl) ?_
  have km : mo_K [0] m m := mo_K.rfl
  have v4 : m 4 = m 4 := rfl
  refine q_aload_n d_Mo_faultAt_0 rfl rfl ?_
  refine q_iconst (v := 0) d_Mo_faultAt_1 (by decide) ?_
  refine x_put d_Mo_faultAt_2 f_Mo_90 hA.1 (Nat.le_of_ble_eq_true rfl) rfl rfl (fun hp1 e1 _ => ?_)
  obtain ⟨m, hA, v0, nn⟩ := hA.put (k := 0) (by decide) e1
  have v4 := (nn 4 (by decide)).trans v4
  have km := km.put nn (by decide)
  refine q_aload_n d_Mo_faultAt_5 rfl rfl ?_
  refine q_get d_Mo_faultAt_6 f_Mo_13 hA.1 rfl ?_
  rw [v4]
  refine q_iret d_Mo_faultAt_9 rfl ?_ (Nat.le_of_ble_eq_true rfl) (Nat.le_of_ble_eq_true rfl) (by decide)
  exact ⟨(_, _, _), rfl, rfl, hA, v0, km, mo_K.rfl⟩
set_option maxRecDepth 10000 in
set_option maxHeartbeats 2000000 in
theorem c_Mo_thrown (hG : q_GG g) {b hp : List va_E} {m : Nat → Int32} {A : Nat → Nat → Int32} {t : Int32} (hA : M_A b m A hp) (v0 : m 0 = t) : q_C g m_Mo_thrown false (q_R 0 0 0 0) [.ref 84] hp (q_ret (some (.int t)) hp) := by
  refine q_C.of hG (by decide) (Nat.le_of_ble_eq_true rfl) ?_
  refine q_aload_n d_Mo_thrown_0 rfl rfl ?_
  refine q_get d_Mo_thrown_1 f_Mo_90 hA.1 rfl ?_
  rw [v0]
  refine q_iret d_Mo_thrown_4 rfl ?_ (Nat.le_of_ble_eq_true rfl) (Nat.le_of_ble_eq_true rfl) (by decide)
  exact ⟨rfl, rfl⟩
set_option maxRecDepth 10000 in
set_option maxHeartbeats 2000000 in
theorem c_Mo_now (hG : q_GG g) {b hp : List va_E} {m : Nat → Int32} {A : Nat → Nat → Int32} {i : Nat} {np : Nat} (hA : M_A b m A hp) (v8 : m 8 = nI np) (hnp : np ≤ 6) (hi : i < np) : q_C g m_Mo_now true (q_R 1 20 0 0) [.ref 84, .int (nI i)] hp (q_mo (some (.int (A 19 i))) b (fun m' A' => m' 0 = 0 ∧ mo_K [0] m m' ∧ mo_K [] A A')) := by
  refine q_C.of hG (by decide) (Nat.le_of_ble_eq_true rfl) ?_
  have km : mo_K [0] m m := mo_K.rfl
  have hx : ¬ m_np (nI i) np := fun h => h.elim (nI_pos (by omega)) (nI_ge hi (by omega))
  refine q_aload_n d_Mo_now_0 rfl rfl ?_
  refine q_join (pc' := 14) (st' := [.ref 84]) (if m_np (nI i) np then 1 else 0) (fun x14 hx14 => ?_) (fun J14 => ?_)
  · subst hx14
    refine x_put d_Mo_now_14 f_Mo_90 hA.1 (Nat.le_of_ble_eq_true rfl) rfl rfl (fun hp1 e1 _ => ?_)
    obtain ⟨m, hA, v0, nn⟩ := hA.put (k := 0) (by decide) e1
    rw [if_neg hx] at v0
    have v8 := (nn 8 (by decide)).trans v8
    have km := km.put nn (by decide)
    refine q_aload_n d_Mo_now_17 rfl rfl ?_
    refine q_get d_Mo_now_18 f_Mo_90 hA.1 rfl ?_
    rw [v0]
    refine q_if_le (tgt := 28) d_Mo_now_21 (by decide) (fun b21 => ?_) (fun b21 => ?_)
    · skip
      refine q_aload_n d_Mo_now_28 rfl rfl ?_
      refine q_get d_Mo_now_29 f_Mo_72 hA.1 rfl ?_
      refine q_iload_n d_Mo_now_32 rfl ?_
      refine q_iald d_Mo_now_33 hA.a19 rfl (vp_in_nI (by omega) (by decide)) ?_
      try rw [nI_clamp (by omega)]
      refine q_iret d_Mo_now_34 rfl ?_ (Nat.le_of_ble_eq_true rfl) (Nat.le_of_ble_eq_true rfl) (by decide)
      exact ⟨(_, _, _), rfl, rfl, hA, v0, km, mo_K.rfl⟩
    · skip
      exact absurd (by decide) b21
  · skip
    refine q_aload_n d_Mo_now_1 rfl rfl ?_
    refine q_iload_n d_Mo_now_2 rfl ?_
    refine x_callV d_Mo_now_3 l_Mo_168 i_Mo_noProcess v_Mo_noProcess rfl hA.1 (c_Mo_noProcess hG hA v8) rfl rfl (Nat.le_of_ble_eq_true rfl) (Nat.le_of_ble_eq_true rfl) (Nat.le_of_ble_eq_true rfl) (Nat.le_of_ble_eq_true rfl) ?_
    refine q_if_eq (tgt := 13) d_Mo_now_6 (by decide) (fun b6 => ?_) (fun b6 => ?_)
    · skip
      have h1 : ¬ m_np (nI i) np := m_if0.mp b6
      refine q_iconst (v := 0) d_Mo_now_13 (by decide) ?_
      exact J14 _ (by first | rw [if_pos h1] | rw [if_neg h1])
    · skip
      have h1 : m_np (nI i) np := Classical.byContradiction (fun h => b6 (m_if0.mpr h))
      refine q_iconst (v := 1) d_Mo_now_9 (by decide) ?_
      refine q_goto (tgt := 14) d_Mo_now_10 (by decide) ?_
      exact J14 _ (by first | rw [if_pos h1] | rw [if_neg h1])
set_option maxRecDepth 10000 in
set_option maxHeartbeats 2000000 in
theorem c_Mo_has (hG : q_GG g) {b hp : List va_E} {m : Nat → Int32} {A : Nat → Nat → Int32} {i : Nat} {np : Nat} (hA : M_A b m A hp) (v5 : m 5 = nI np) (hnp : np ≤ 5) (hi : i < np) : q_C g m_Mo_has true (q_R 1 20 0 0) [.ref 84, .int (nI i)] hp (q_mo (some (.int (A 19 (6 + i)))) b (fun m' A' => m' 0 = 0 ∧ mo_K [0] m m' ∧ mo_K [] A A')) := by
  refine q_C.of hG (by decide) (Nat.le_of_ble_eq_true rfl) ?_
  have km : mo_K [0] m m := mo_K.rfl
  have hx : ¬ m_np (nI i) np := fun h => h.elim (nI_pos (by omega)) (nI_ge hi (by omega))
  refine q_aload_n d_Mo_has_0 rfl rfl ?_
  refine q_join (pc' := 18) (st' := [.ref 84]) (if m_np (nI i) np then 1 else 0) (fun x18 hx18 => ?_) (fun J18 => ?_)
  · subst hx18
    refine x_put d_Mo_has_18 f_Mo_90 hA.1 (Nat.le_of_ble_eq_true rfl) rfl rfl (fun hp1 e1 _ => ?_)
    obtain ⟨m, hA, v0, nn⟩ := hA.put (k := 0) (by decide) e1
    rw [if_neg hx] at v0
    have v5 := (nn 5 (by decide)).trans v5
    have km := km.put nn (by decide)
    refine q_aload_n d_Mo_has_21 rfl rfl ?_
    refine q_get d_Mo_has_22 f_Mo_90 hA.1 rfl ?_
    rw [v0]
    refine q_if_le (tgt := 32) d_Mo_has_25 (by decide) (fun b25 => ?_) (fun b25 => ?_)
    · skip
      refine q_aload_n d_Mo_has_32 rfl rfl ?_
      refine q_get d_Mo_has_33 f_Mo_72 hA.1 rfl ?_
      refine q_bipush (v := 6) d_Mo_has_36 (by decide) ?_
      refine q_iload_n d_Mo_has_38 rfl ?_
      refine q_iadd d_Mo_has_39 ?_
      rw [show (6 : Int32) = nI 6 from rfl, nI_add]
      refine q_iald d_Mo_has_40 hA.a19 rfl (vp_in_nI (by omega) (by decide)) ?_
      try rw [nI_clamp (by omega)]
      refine q_iret d_Mo_has_41 rfl ?_ (Nat.le_of_ble_eq_true rfl) (Nat.le_of_ble_eq_true rfl) (by decide)
      exact ⟨(_, _, _), rfl, rfl, hA, v0, km, mo_K.rfl⟩
    · skip
      exact absurd (by decide) b25
  · skip
    refine q_iload_n d_Mo_has_1 rfl ?_
    refine q_if_lt (tgt := 13) d_Mo_has_2 (by decide) (fun b2 => ?_) (fun b2 => ?_)
    · skip
      refine q_iconst (v := 1) d_Mo_has_13 (by decide) ?_
      refine q_goto (tgt := 18) d_Mo_has_14 (by decide) ?_
      exact J18 _ (by first | (rw [if_pos (Or.inl b2)]) | (rw [if_pos (Or.inr (Int32.not_lt.mp b10))]) | (rw [if_neg (fun q => q.elim b2 (fun h => absurd h (Int32.not_le.mpr b10)))]))
    · skip
      refine q_iload_n d_Mo_has_5 rfl ?_
      refine q_aload_n d_Mo_has_6 rfl rfl ?_
      refine q_get d_Mo_has_7 f_Mo_105 hA.1 rfl ?_
      rw [v5]
      refine q_icmp_lt (tgt := 17) d_Mo_has_10 (by decide) (fun b10 => ?_) (fun b10 => ?_)
      · skip
        refine q_iconst (v := 0) d_Mo_has_17 (by decide) ?_
        exact J18 _ (by first | (rw [if_pos (Or.inl b2)]) | (rw [if_pos (Or.inr (Int32.not_lt.mp b10))]) | (rw [if_neg (fun q => q.elim b2 (fun h => absurd h (Int32.not_le.mpr b10)))]))
      · skip
        refine q_iconst (v := 1) d_Mo_has_13 (by decide) ?_
        refine q_goto (tgt := 18) d_Mo_has_14 (by decide) ?_
        exact J18 _ (by first | (rw [if_pos (Or.inl b2)]) | (rw [if_pos (Or.inr (Int32.not_lt.mp b10))]) | (rw [if_neg (fun q => q.elim b2 (fun h => absurd h (Int32.not_le.mpr b10)))]))
set_option maxRecDepth 10000 in
set_option maxHeartbeats 2000000 in
theorem c_Mo_nowB (hG : q_GG g) {b hp : List va_E} {m : Nat → Int32} {A : Nat → Nat → Int32} {x : Int32} {np : Nat} (hA : M_A b m A hp) (v8 : m 8 = nI np) (hnp : np ≤ 6) (hx : m_np x np) : q_C g m_Mo_now true (q_R 1 20 0 0) [.ref 84, .int (x)] hp (q_mo (some (.int (0))) b (fun m' A' => m' 0 = 1 ∧ mo_K [0] m m' ∧ mo_K [] A A')) := by
  refine q_C.of hG (by decide) (Nat.le_of_ble_eq_true rfl) ?_
  have km : mo_K [0] m m := mo_K.rfl
  refine q_aload_n d_Mo_now_0 rfl rfl ?_
  refine q_join (pc' := 14) (st' := [.ref 84]) (if m_np x np then 1 else 0) (fun x14 hx14 => ?_) (fun J14 => ?_)
  · subst hx14
    refine x_put d_Mo_now_14 f_Mo_90 hA.1 (Nat.le_of_ble_eq_true rfl) rfl rfl (fun hp1 e1 _ => ?_)
    obtain ⟨m, hA, v0, nn⟩ := hA.put (k := 0) (by decide) e1
    rw [if_pos hx] at v0
    have v8 := (nn 8 (by decide)).trans v8
    have km := km.put nn (by decide)
    refine q_aload_n d_Mo_now_17 rfl rfl ?_
    refine q_get d_Mo_now_18 f_Mo_90 hA.1 rfl ?_
    rw [v0]
    refine q_if_le (tgt := 28) d_Mo_now_21 (by decide) (fun b21 => ?_) (fun b21 => ?_)
    · skip
      exact absurd b21 (by decide)
    · skip
      refine q_iconst (v := 0) d_Mo_now_24 (by decide) ?_
      refine q_goto (tgt := 34) d_Mo_now_25 (by decide) ?_
      try rw [nI_clamp (by omega)]
      refine q_iret d_Mo_now_34 rfl ?_ (Nat.le_of_ble_eq_true rfl) (Nat.le_of_ble_eq_true rfl) (by decide)
      exact ⟨(_, _, _), rfl, rfl, hA, v0, km, mo_K.rfl⟩
  · skip
    refine q_aload_n d_Mo_now_1 rfl rfl ?_
    refine q_iload_n d_Mo_now_2 rfl ?_
    refine x_callV d_Mo_now_3 l_Mo_168 i_Mo_noProcess v_Mo_noProcess rfl hA.1 (c_Mo_noProcess hG hA v8) rfl rfl (Nat.le_of_ble_eq_true rfl) (Nat.le_of_ble_eq_true rfl) (Nat.le_of_ble_eq_true rfl) (Nat.le_of_ble_eq_true rfl) ?_
    refine q_if_eq (tgt := 13) d_Mo_now_6 (by decide) (fun b6 => ?_) (fun b6 => ?_)
    · skip
      have h1 : ¬ m_np x np := m_if0.mp b6
      refine q_iconst (v := 0) d_Mo_now_13 (by decide) ?_
      exact J14 _ (by first | rw [if_pos h1] | rw [if_neg h1])
    · skip
      have h1 : m_np x np := Classical.byContradiction (fun h => b6 (m_if0.mpr h))
      refine q_iconst (v := 1) d_Mo_now_9 (by decide) ?_
      refine q_goto (tgt := 14) d_Mo_now_10 (by decide) ?_
      exact J14 _ (by first | rw [if_pos h1] | rw [if_neg h1])
set_option maxRecDepth 10000 in
set_option maxHeartbeats 2000000 in
theorem c_Mo_hasB (hG : q_GG g) {b hp : List va_E} {m : Nat → Int32} {A : Nat → Nat → Int32} {x : Int32} {np : Nat} (hA : M_A b m A hp) (v5 : m 5 = nI np) (hnp : np ≤ 5) (hx : m_np x np) : q_C g m_Mo_has true (q_R 1 20 0 0) [.ref 84, .int (x)] hp (q_mo (some (.int (0))) b (fun m' A' => m' 0 = 1 ∧ mo_K [0] m m' ∧ mo_K [] A A')) := by
  refine q_C.of hG (by decide) (Nat.le_of_ble_eq_true rfl) ?_
  have km : mo_K [0] m m := mo_K.rfl
  refine q_aload_n d_Mo_has_0 rfl rfl ?_
  refine q_join (pc' := 18) (st' := [.ref 84]) (if m_np x np then 1 else 0) (fun x18 hx18 => ?_) (fun J18 => ?_)
  · subst hx18
    refine x_put d_Mo_has_18 f_Mo_90 hA.1 (Nat.le_of_ble_eq_true rfl) rfl rfl (fun hp1 e1 _ => ?_)
    obtain ⟨m, hA, v0, nn⟩ := hA.put (k := 0) (by decide) e1
    rw [if_pos hx] at v0
    have v5 := (nn 5 (by decide)).trans v5
    have km := km.put nn (by decide)
    refine q_aload_n d_Mo_has_21 rfl rfl ?_
    refine q_get d_Mo_has_22 f_Mo_90 hA.1 rfl ?_
    rw [v0]
    refine q_if_le (tgt := 32) d_Mo_has_25 (by decide) (fun b25 => ?_) (fun b25 => ?_)
    · skip
      exact absurd b25 (by decide)
    · skip
      refine q_iconst (v := 0) d_Mo_has_28 (by decide) ?_
      refine q_goto (tgt := 41) d_Mo_has_29 (by decide) ?_
      try rw [nI_clamp (by omega)]
      refine q_iret d_Mo_has_41 rfl ?_ (Nat.le_of_ble_eq_true rfl) (Nat.le_of_ble_eq_true rfl) (by decide)
      exact ⟨(_, _, _), rfl, rfl, hA, v0, km, mo_K.rfl⟩
  · skip
    refine q_iload_n d_Mo_has_1 rfl ?_
    refine q_if_lt (tgt := 13) d_Mo_has_2 (by decide) (fun b2 => ?_) (fun b2 => ?_)
    · skip
      refine q_iconst (v := 1) d_Mo_has_13 (by decide) ?_
      refine q_goto (tgt := 18) d_Mo_has_14 (by decide) ?_
      exact J18 _ (by first | (rw [if_pos (Or.inl b2)]) | (rw [if_pos (Or.inr (Int32.not_lt.mp b10))]) | (rw [if_neg (fun q => q.elim b2 (fun h => absurd h (Int32.not_le.mpr b10)))]))
    · skip
      refine q_iload_n d_Mo_has_5 rfl ?_
      refine q_aload_n d_Mo_has_6 rfl rfl ?_
      refine q_get d_Mo_has_7 f_Mo_105 hA.1 rfl ?_
      rw [v5]
      refine q_icmp_lt (tgt := 17) d_Mo_has_10 (by decide) (fun b10 => ?_) (fun b10 => ?_)
      · skip
        refine q_iconst (v := 0) d_Mo_has_17 (by decide) ?_
        exact J18 _ (by first | (rw [if_pos (Or.inl b2)]) | (rw [if_pos (Or.inr (Int32.not_lt.mp b10))]) | (rw [if_neg (fun q => q.elim b2 (fun h => absurd h (Int32.not_le.mpr b10)))]))
      · skip
        refine q_iconst (v := 1) d_Mo_has_13 (by decide) ?_
        refine q_goto (tgt := 18) d_Mo_has_14 (by decide) ?_
        exact J18 _ (by first | (rw [if_pos (Or.inl b2)]) | (rw [if_pos (Or.inr (Int32.not_lt.mp b10))]) | (rw [if_neg (fun q => q.elim b2 (fun h => absurd h (Int32.not_le.mpr b10)))]))
set_option maxRecDepth 10000 in
set_option maxHeartbeats 2000000 in
theorem c_Mo_restart (hG : q_GG g) {b hp : List va_E} {m : Nat → Int32} {A : Nat → Nat → Int32} {nv : Nat} {gn kn : Int32} (hA : M_A b m A hp) (hnv : nv ≤ 5) (v5 : m 5 = nI nv) (v34 : m 34 = gn) (v37 : m 37 = kn) (hk : q_B kn) : q_C g m_Mo_restart true (q_R 1 20 0 0) [.ref 84] hp (q_mo (some (.int gn)) b (fun m' A' => m' 0 = 0 ∧ m' 37 = kn ∧ m' 34 = 0 ∧ A' 19 = bg2 nv 5 (A 2) (bg1 6 (A 19)) ∧ mo_K [0, 34, 37] m m' ∧ mo_K [19] A A')) := by
  refine q_C.of hG (by decide) (Nat.le_of_ble_eq_true rfl) ?_
  have km : mo_K [0, 34, 37] m m := mo_K.rfl
  refine q_aload_n d_Mo_restart_0 rfl rfl ?_
  refine q_iconst (v := 0) d_Mo_restart_1 (by decide) ?_
  refine x_put d_Mo_restart_2 f_Mo_90 hA.1 (Nat.le_of_ble_eq_true rfl) rfl rfl (fun hp1 e1 _ => ?_)
  obtain ⟨m, hA, v0, nn⟩ := hA.put (k := 0) (by decide) e1
  have v5 := (nn 5 (by decide)).trans v5
  have v34 := (nn 34 (by decide)).trans v34
  have v37 := (nn 37 (by decide)).trans v37
  have km := km.put nn (by decide)
  refine q_aload_n d_Mo_restart_5 rfl rfl ?_
  refine q_get d_Mo_restart_6 f_Mo_102 hA.1 rfl ?_
  rw [v34]
  refine q_istore_n d_Mo_restart_9 rfl (by decide) rfl ?_
  refine q_aload_n d_Mo_restart_10 rfl rfl ?_
  refine q_get d_Mo_restart_11 f_Mo_98 hA.1 rfl ?_
  rw [v37]
  refine q_istore_n d_Mo_restart_14 rfl (by decide) rfl ?_
  refine q_aload_n d_Mo_restart_15 rfl rfl ?_
  refine x_callVm d_Mo_restart_16 l_Mo_108 i_Mo_begin v_Mo_begin rfl hA.1 (c_Mo_begin hG hA hnv v5) rfl rfl (Nat.le_of_ble_eq_true rfl) (Nat.le_of_ble_eq_true rfl) (Nat.le_of_ble_eq_true rfl) (Nat.le_of_ble_eq_true rfl) (fun m A hp2 hA hz => ?_)
  obtain ⟨w37, w34, w19, nm, nA⟩ := hz
  have v0 := (nm 0 (by decide)).trans v0
  have v5 := (nm 5 (by decide)).trans v5
  have km := km.sub nm (by decide)
  refine q_aload_n d_Mo_restart_19 rfl rfl ?_
  refine q_iload_n d_Mo_restart_20 rfl ?_
  refine x_put d_Mo_restart_21 f_Mo_98 hA.1 (Nat.le_of_ble_eq_true rfl) (q_Bn hk) (q_Bf hk) (fun hp3 e3 _ => ?_)
  obtain ⟨m, hA, v37, nn⟩ := hA.put (k := 37) (by decide) e3
  have w34 := (nn 34 (by decide)).trans w34
  have v0 := (nn 0 (by decide)).trans v0
  have v5 := (nn 5 (by decide)).trans v5
  have km := km.put nn (by decide)
  refine q_iload_n d_Mo_restart_24 rfl ?_
  refine q_iret d_Mo_restart_25 rfl ?_ (Nat.le_of_ble_eq_true rfl) (Nat.le_of_ble_eq_true rfl) (by decide)
  exact ⟨(_, _, _), rfl, rfl, hA, v0, v37, w34, w19, km, nA⟩
abbrev m_tw (y : Int32) : Prop := y < 0 ∨ 2 < y
set_option maxRecDepth 10000 in
set_option maxHeartbeats 2000000 in
theorem c_Mo_told1x (hG : q_GG g) {b hp : List va_E} {m : Nat → Int32} {A : Nat → Nat → Int32} {x y : Int32} {np : Nat} (hA : M_A b m A hp) (v8 : m 8 = nI np) (hx : m_np x np) : q_C g m_Mo_told true (q_R 1 20 0 0) [.ref 84, .int x, .int y] hp (q_mo (some (.int 0)) b (fun m' A' => m' 0 = 1 ∧ mo_K [0] m m' ∧ mo_K [] A A')) := by
  refine q_C.of hG (by decide) (Nat.le_of_ble_eq_true rfl) ?_
  have km : mo_K [0] m m := mo_K.rfl
  refine q_aload_n d_Mo_told_0 rfl rfl ?_
  refine q_join (pc' := 27) (st' := [.ref 84]) (if m_np x np then 1 else if m_tw y then 2 else 0) (fun x27 hx27 => ?_) (fun J27 => ?_)
  · subst hx27
    refine x_put d_Mo_told_27 f_Mo_90 hA.1 (Nat.le_of_ble_eq_true rfl) rfl rfl (fun hp1 e1 _ => ?_)
    obtain ⟨m, hA, v0, nn⟩ := hA.put (k := 0) (by decide) e1
    rw [if_pos hx] at v0
    have v8 := (nn 8 (by decide)).trans v8
    have km := km.put nn (by decide)
    refine q_aload_n d_Mo_told_30 rfl rfl ?_
    refine q_get d_Mo_told_31 f_Mo_90 hA.1 rfl ?_
    rw [v0]
    refine q_if_le (tgt := 39) d_Mo_told_34 (by decide) (fun b34 => ?_) (fun b34 => ?_)
    · skip
      exact absurd b34 (by decide)
    · skip
      refine q_iconst (v := 0) d_Mo_told_37 (by decide) ?_
      refine q_iret d_Mo_told_38 rfl ?_ (Nat.le_of_ble_eq_true rfl) (Nat.le_of_ble_eq_true rfl) (by decide)
      exact ⟨(_, _, _), rfl, rfl, hA, v0, km, mo_K.rfl⟩
  · skip
    refine q_aload_n d_Mo_told_1 rfl rfl ?_
    refine q_iload_n d_Mo_told_2 rfl ?_
    refine x_callV d_Mo_told_3 l_Mo_168 i_Mo_noProcess v_Mo_noProcess rfl hA.1 (c_Mo_noProcess hG hA v8) rfl rfl (Nat.le_of_ble_eq_true rfl) (Nat.le_of_ble_eq_true rfl) (Nat.le_of_ble_eq_true rfl) (Nat.le_of_ble_eq_true rfl) ?_
    refine q_if_eq (tgt := 13) d_Mo_told_6 (by decide) (fun b6 => ?_) (fun b6 => ?_)
    · skip
      have h1 : ¬ m_np x np := m_if0.mp b6
      refine q_iload_n d_Mo_told_13 rfl ?_
      refine q_if_lt (tgt := 22) d_Mo_told_14 (by decide) (fun b14 => ?_) (fun b14 => ?_)
      · skip
        refine q_iconst (v := 2) d_Mo_told_22 (by decide) ?_
        refine q_goto (tgt := 27) d_Mo_told_23 (by decide) ?_
        exact J27 _ (by first | (rw [if_pos h1]) | (rw [if_neg h1, if_pos (Or.inl b14)]) | (rw [if_neg h1, if_pos (Or.inr (Int32.not_le.mp b19))]) | (rw [if_neg h1, if_neg (fun q => q.elim b14 (fun h => absurd h (Int32.not_lt.mpr b19)))]))
      · skip
        refine q_iload_n d_Mo_told_17 rfl ?_
        refine q_iconst (v := 2) d_Mo_told_18 (by decide) ?_
        refine q_icmp_le (tgt := 26) d_Mo_told_19 (by decide) (fun b19 => ?_) (fun b19 => ?_)
        · skip
          refine q_iconst (v := 0) d_Mo_told_26 (by decide) ?_
          exact J27 _ (by first | (rw [if_pos h1]) | (rw [if_neg h1, if_pos (Or.inl b14)]) | (rw [if_neg h1, if_pos (Or.inr (Int32.not_le.mp b19))]) | (rw [if_neg h1, if_neg (fun q => q.elim b14 (fun h => absurd h (Int32.not_lt.mpr b19)))]))
        · skip
          refine q_iconst (v := 2) d_Mo_told_22 (by decide) ?_
          refine q_goto (tgt := 27) d_Mo_told_23 (by decide) ?_
          exact J27 _ (by first | (rw [if_pos h1]) | (rw [if_neg h1, if_pos (Or.inl b14)]) | (rw [if_neg h1, if_pos (Or.inr (Int32.not_le.mp b19))]) | (rw [if_neg h1, if_neg (fun q => q.elim b14 (fun h => absurd h (Int32.not_lt.mpr b19)))]))
    · skip
      have h1 : m_np x np := Classical.byContradiction (fun h => b6 (m_if0.mpr h))
      refine q_iconst (v := 1) d_Mo_told_9 (by decide) ?_
      refine q_goto (tgt := 27) d_Mo_told_10 (by decide) ?_
      exact J27 _ (by first | (rw [if_pos h1]) | (rw [if_neg h1, if_pos (Or.inl b14)]) | (rw [if_neg h1, if_pos (Or.inr (Int32.not_le.mp b19))]) | (rw [if_neg h1, if_neg (fun q => q.elim b14 (fun h => absurd h (Int32.not_lt.mpr b19)))]))
set_option maxRecDepth 10000 in
set_option maxHeartbeats 2000000 in
theorem c_Mo_told2x (hG : q_GG g) {b hp : List va_E} {m : Nat → Int32} {A : Nat → Nat → Int32} {x y : Int32} {np : Nat} (hA : M_A b m A hp) (v8 : m 8 = nI np) (hx : ¬ m_np x np) (hy : m_tw y) : q_C g m_Mo_told true (q_R 1 20 0 0) [.ref 84, .int x, .int y] hp (q_mo (some (.int 0)) b (fun m' A' => m' 0 = 2 ∧ mo_K [0] m m' ∧ mo_K [] A A')) := by
  refine q_C.of hG (by decide) (Nat.le_of_ble_eq_true rfl) ?_
  have km : mo_K [0] m m := mo_K.rfl
  refine q_aload_n d_Mo_told_0 rfl rfl ?_
  refine q_join (pc' := 27) (st' := [.ref 84]) (if m_np x np then 1 else if m_tw y then 2 else 0) (fun x27 hx27 => ?_) (fun J27 => ?_)
  · subst hx27
    refine x_put d_Mo_told_27 f_Mo_90 hA.1 (Nat.le_of_ble_eq_true rfl) rfl rfl (fun hp1 e1 _ => ?_)
    obtain ⟨m, hA, v0, nn⟩ := hA.put (k := 0) (by decide) e1
    rw [if_neg hx, if_pos hy] at v0
    have v8 := (nn 8 (by decide)).trans v8
    have km := km.put nn (by decide)
    refine q_aload_n d_Mo_told_30 rfl rfl ?_
    refine q_get d_Mo_told_31 f_Mo_90 hA.1 rfl ?_
    rw [v0]
    refine q_if_le (tgt := 39) d_Mo_told_34 (by decide) (fun b34 => ?_) (fun b34 => ?_)
    · skip
      exact absurd b34 (by decide)
    · skip
      refine q_iconst (v := 0) d_Mo_told_37 (by decide) ?_
      refine q_iret d_Mo_told_38 rfl ?_ (Nat.le_of_ble_eq_true rfl) (Nat.le_of_ble_eq_true rfl) (by decide)
      exact ⟨(_, _, _), rfl, rfl, hA, v0, km, mo_K.rfl⟩
  · skip
    refine q_aload_n d_Mo_told_1 rfl rfl ?_
    refine q_iload_n d_Mo_told_2 rfl ?_
    refine x_callV d_Mo_told_3 l_Mo_168 i_Mo_noProcess v_Mo_noProcess rfl hA.1 (c_Mo_noProcess hG hA v8) rfl rfl (Nat.le_of_ble_eq_true rfl) (Nat.le_of_ble_eq_true rfl) (Nat.le_of_ble_eq_true rfl) (Nat.le_of_ble_eq_true rfl) ?_
    refine q_if_eq (tgt := 13) d_Mo_told_6 (by decide) (fun b6 => ?_) (fun b6 => ?_)
    · skip
      have h1 : ¬ m_np x np := m_if0.mp b6
      refine q_iload_n d_Mo_told_13 rfl ?_
      refine q_if_lt (tgt := 22) d_Mo_told_14 (by decide) (fun b14 => ?_) (fun b14 => ?_)
      · skip
        refine q_iconst (v := 2) d_Mo_told_22 (by decide) ?_
        refine q_goto (tgt := 27) d_Mo_told_23 (by decide) ?_
        exact J27 _ (by first | (rw [if_pos h1]) | (rw [if_neg h1, if_pos (Or.inl b14)]) | (rw [if_neg h1, if_pos (Or.inr (Int32.not_le.mp b19))]) | (rw [if_neg h1, if_neg (fun q => q.elim b14 (fun h => absurd h (Int32.not_lt.mpr b19)))]))
      · skip
        refine q_iload_n d_Mo_told_17 rfl ?_
        refine q_iconst (v := 2) d_Mo_told_18 (by decide) ?_
        refine q_icmp_le (tgt := 26) d_Mo_told_19 (by decide) (fun b19 => ?_) (fun b19 => ?_)
        · skip
          refine q_iconst (v := 0) d_Mo_told_26 (by decide) ?_
          exact J27 _ (by first | (rw [if_pos h1]) | (rw [if_neg h1, if_pos (Or.inl b14)]) | (rw [if_neg h1, if_pos (Or.inr (Int32.not_le.mp b19))]) | (rw [if_neg h1, if_neg (fun q => q.elim b14 (fun h => absurd h (Int32.not_lt.mpr b19)))]))
        · skip
          refine q_iconst (v := 2) d_Mo_told_22 (by decide) ?_
          refine q_goto (tgt := 27) d_Mo_told_23 (by decide) ?_
          exact J27 _ (by first | (rw [if_pos h1]) | (rw [if_neg h1, if_pos (Or.inl b14)]) | (rw [if_neg h1, if_pos (Or.inr (Int32.not_le.mp b19))]) | (rw [if_neg h1, if_neg (fun q => q.elim b14 (fun h => absurd h (Int32.not_lt.mpr b19)))]))
    · skip
      have h1 : m_np x np := Classical.byContradiction (fun h => b6 (m_if0.mpr h))
      refine q_iconst (v := 1) d_Mo_told_9 (by decide) ?_
      refine q_goto (tgt := 27) d_Mo_told_10 (by decide) ?_
      exact J27 _ (by first | (rw [if_pos h1]) | (rw [if_neg h1, if_pos (Or.inl b14)]) | (rw [if_neg h1, if_pos (Or.inr (Int32.not_le.mp b19))]) | (rw [if_neg h1, if_neg (fun q => q.elim b14 (fun h => absurd h (Int32.not_lt.mpr b19)))]))
def m_ct (C : c_T) : Nat → Nat
  | 0 => 0
  | k + 1 => m_ct C k + pb_cnt 13 (if k < c_n C then c_s C k else 0)
set_option maxRecDepth 10000 in
set_option maxHeartbeats 2000000 in
theorem l_Mo_told0 (hG : q_GG g) {b hp : List va_E} {m0 m : Nat → Int32} {A : Nat → Nat → Int32} {C : c_T} {q : Nat} (hA : M_A b m A hp) (hD : D_M q C A) (hq : q < 6) (hC : c_ok C) (v0 : m 0 = 0) (km : mo_K [0] m0 m) : ∀ (c i : Nat), i + c = 13 → q_J g m_Mo_told true (q_R 1 20 0 0) (q_mo (some (.int (nI (c_n C)))) b (fun m' A' => m' 0 = 0 ∧ mo_K [0] m0 m' ∧ mo_K [] A A')) 44 [some (.ref 84), some (.int (nI q)), some (.int 0), some (.int (nI (m_ct C i))), some (.int (nI i))] [] hp 0 0 true := by
  have hin6 : vp_in (nI q) 6 := vp_in_nI hq (by decide)
  have hcl6 : (nI q).toNatClampNeg = q := nI_clamp (by omega)
  have he := hC.2.2.1
  intro c
  induction c with
  | zero =>
    intro i hi
    obtain rfl : i = 13 := by omega
    refine q_iload d_Mo_told_44 rfl ?_
    refine q_bipush (v := 13) d_Mo_told_46 (by decide) ?_
    refine q_icmp_ge (tgt := 75) d_Mo_told_48 (by decide) (fun b48 => ?_) (fun b48 => ?_)
    · skip
      refine q_iload_n d_Mo_told_75 rfl ?_
      refine q_if_ne (tgt := 88) d_Mo_told_76 (by decide) (fun b76 => ?_) (fun b76 => ?_)
      · skip
        exact absurd rfl b76
      · skip
        refine q_aload_n d_Mo_told_79 rfl rfl ?_
        refine q_get d_Mo_told_80 f_Mo_23 hA.1 rfl ?_
        refine q_iload_n d_Mo_told_83 rfl ?_
        refine q_iald d_Mo_told_84 hA.a3 rfl hin6 ?_
        rw [hcl6, hD.1]
        refine q_goto (tgt := 106) d_Mo_told_85 (by decide) ?_
        refine q_iret d_Mo_told_106 rfl ?_ (Nat.le_of_ble_eq_true rfl) (Nat.le_of_ble_eq_true rfl) (by decide)
        exact ⟨(_, _, _), rfl, rfl, hA, v0, km, mo_K.rfl⟩
    · skip
      exact absurd (show (13 : Int32) ≤ nI 13 by decide) b48
  | succ c ih =>
    intro i hi
    have hin78 : vp_in (nI (13 * q + i)) 78 := vp_in_nI (by omega) (by decide)
    have hcl78 : (nI (13 * q + i)).toNatClampNeg = 13 * q + i := nI_clamp (by omega)
    have hci : (if i < c_n C then c_s C i else 0) < 8192 := by
      split
      · exact (hC.2.2.2 i (by omega)).1
      · decide
    refine q_iload d_Mo_told_44 rfl ?_
    refine q_bipush (v := 13) d_Mo_told_46 (by decide) ?_
    refine q_icmp_ge (tgt := 75) d_Mo_told_48 (by decide) (fun b48 => ?_) (fun b48 => ?_)
    · skip
      exact absurd b48 (nI_ge (show i < 13 by omega) (by decide))
    · skip
      refine q_iload_n d_Mo_told_51 rfl ?_
      refine q_aload_n d_Mo_told_52 rfl rfl ?_
      refine q_get d_Mo_told_53 f_Mo_29 hA.1 rfl ?_
      refine q_bipush (v := 13) d_Mo_told_56 (by decide) ?_
      refine q_iload_n d_Mo_told_58 rfl ?_
      refine q_imul d_Mo_told_59 ?_
      rw [show (13 : Int32) = nI 13 from rfl, pk_mul]
      refine q_iload d_Mo_told_60 rfl ?_
      refine q_iadd d_Mo_told_62 ?_
      rw [nI_add]
      refine q_iald d_Mo_told_63 hA.a5 rfl hin78 ?_
      rw [hcl78, hD.2.2.1 i (by omega)]
      refine x_callS d_Mo_told_64 l_Mo_172 s_Mo_ones (c_Mo_ones hG hci) rfl rfl (Nat.le_of_ble_eq_true rfl) (Nat.le_of_ble_eq_true rfl) (Nat.le_of_ble_eq_true rfl) (Nat.le_of_ble_eq_true rfl) ?_
      refine q_iadd d_Mo_told_67 ?_
      rw [nI_add]
      refine q_istore_n d_Mo_told_68 rfl (by decide) rfl ?_
      refine q_iinc d_Mo_told_69 rfl (show _ + Int32.ofInt 1 = _ + 1 from rfl) (by decide) rfl ?_
      refine q_goto (tgt := 44) d_Mo_told_72 (by decide) ?_
      rw [nI_1]
      exact ih (i + 1) (by omega)
set_option maxRecDepth 10000 in
set_option maxHeartbeats 2000000 in
theorem c_Mo_told0 (hG : q_GG g) {b hp : List va_E} {m : Nat → Int32} {A : Nat → Nat → Int32} {C : c_T} {q np : Nat} (hA : M_A b m A hp) (v8 : m 8 = nI np) (hnp : np ≤ 6) (hq : q < np) (hD : D_M q C A) (hC : c_ok C) : q_C g m_Mo_told true (q_R 1 20 0 0) [.ref 84, .int (nI q), .int 0] hp (q_mo (some (.int (nI (c_n C)))) b (fun m' A' => m' 0 = 0 ∧ mo_K [0] m m' ∧ mo_K [] A A')) := by
  refine q_C.of hG (by decide) (Nat.le_of_ble_eq_true rfl) ?_
  have km : mo_K [0] m m := mo_K.rfl
  have hx : ¬ m_np (nI q) np := fun h => h.elim (nI_pos (by omega)) (nI_ge hq (by omega))
  have hy : ¬ m_tw 0 := by decide
  refine q_aload_n d_Mo_told_0 rfl rfl ?_
  refine q_join (pc' := 27) (st' := [.ref 84]) (if m_np (nI q) np then 1 else if m_tw 0 then 2 else 0) (fun x27 hx27 => ?_) (fun J27 => ?_)
  · subst hx27
    refine x_put d_Mo_told_27 f_Mo_90 hA.1 (Nat.le_of_ble_eq_true rfl) rfl rfl (fun hp1 e1 _ => ?_)
    obtain ⟨m, hA, v0, nn⟩ := hA.put (k := 0) (by decide) e1
    rw [if_neg hx, if_neg hy] at v0
    have v8 := (nn 8 (by decide)).trans v8
    have km := km.put nn (by decide)
    refine q_aload_n d_Mo_told_30 rfl rfl ?_
    refine q_get d_Mo_told_31 f_Mo_90 hA.1 rfl ?_
    rw [v0]
    refine q_if_le (tgt := 39) d_Mo_told_34 (by decide) (fun b34 => ?_) (fun b34 => ?_)
    · skip
      refine q_iconst (v := 0) d_Mo_told_39 (by decide) ?_
      refine q_istore_n d_Mo_told_40 rfl (by decide) rfl ?_
      refine q_iconst (v := 0) d_Mo_told_41 (by decide) ?_
      refine q_istore d_Mo_told_42 (by decide) rfl ?_
      exact l_Mo_told0 hG hA hD (by omega) hC v0 km 13 0 (by omega)
    · skip
      exact absurd (by decide) b34
  · skip
    refine q_aload_n d_Mo_told_1 rfl rfl ?_
    refine q_iload_n d_Mo_told_2 rfl ?_
    refine x_callV d_Mo_told_3 l_Mo_168 i_Mo_noProcess v_Mo_noProcess rfl hA.1 (c_Mo_noProcess hG hA v8) rfl rfl (Nat.le_of_ble_eq_true rfl) (Nat.le_of_ble_eq_true rfl) (Nat.le_of_ble_eq_true rfl) (Nat.le_of_ble_eq_true rfl) ?_
    refine q_if_eq (tgt := 13) d_Mo_told_6 (by decide) (fun b6 => ?_) (fun b6 => ?_)
    · skip
      have h1 : ¬ m_np (nI q) np := m_if0.mp b6
      refine q_iload_n d_Mo_told_13 rfl ?_
      refine q_if_lt (tgt := 22) d_Mo_told_14 (by decide) (fun b14 => ?_) (fun b14 => ?_)
      · skip
        refine q_iconst (v := 2) d_Mo_told_22 (by decide) ?_
        refine q_goto (tgt := 27) d_Mo_told_23 (by decide) ?_
        exact J27 _ (by first | (rw [if_pos h1]) | (rw [if_neg h1, if_pos (Or.inl b14)]) | (rw [if_neg h1, if_pos (Or.inr (Int32.not_le.mp b19))]) | (rw [if_neg h1, if_neg (fun q => q.elim b14 (fun h => absurd h (Int32.not_lt.mpr b19)))]))
      · skip
        refine q_iload_n d_Mo_told_17 rfl ?_
        refine q_iconst (v := 2) d_Mo_told_18 (by decide) ?_
        refine q_icmp_le (tgt := 26) d_Mo_told_19 (by decide) (fun b19 => ?_) (fun b19 => ?_)
        · skip
          refine q_iconst (v := 0) d_Mo_told_26 (by decide) ?_
          exact J27 _ (by first | (rw [if_pos h1]) | (rw [if_neg h1, if_pos (Or.inl b14)]) | (rw [if_neg h1, if_pos (Or.inr (Int32.not_le.mp b19))]) | (rw [if_neg h1, if_neg (fun q => q.elim b14 (fun h => absurd h (Int32.not_lt.mpr b19)))]))
        · skip
          refine q_iconst (v := 2) d_Mo_told_22 (by decide) ?_
          refine q_goto (tgt := 27) d_Mo_told_23 (by decide) ?_
          exact J27 _ (by first | (rw [if_pos h1]) | (rw [if_neg h1, if_pos (Or.inl b14)]) | (rw [if_neg h1, if_pos (Or.inr (Int32.not_le.mp b19))]) | (rw [if_neg h1, if_neg (fun q => q.elim b14 (fun h => absurd h (Int32.not_lt.mpr b19)))]))
    · skip
      have h1 : m_np (nI q) np := Classical.byContradiction (fun h => b6 (m_if0.mpr h))
      refine q_iconst (v := 1) d_Mo_told_9 (by decide) ?_
      refine q_goto (tgt := 27) d_Mo_told_10 (by decide) ?_
      exact J27 _ (by first | (rw [if_pos h1]) | (rw [if_neg h1, if_pos (Or.inl b14)]) | (rw [if_neg h1, if_pos (Or.inr (Int32.not_le.mp b19))]) | (rw [if_neg h1, if_neg (fun q => q.elim b14 (fun h => absurd h (Int32.not_lt.mpr b19)))]))
set_option maxRecDepth 10000 in
set_option maxHeartbeats 2000000 in
theorem l_Mo_told1 (hG : q_GG g) {b hp : List va_E} {m0 m : Nat → Int32} {A : Nat → Nat → Int32} {C : c_T} {q : Nat} (hA : M_A b m A hp) (hD : D_M q C A) (hq : q < 6) (hC : c_ok C) (v0 : m 0 = 0) (km : mo_K [0] m0 m) : ∀ (c i : Nat), i + c = 13 → q_J g m_Mo_told true (q_R 1 20 0 0) (q_mo (some (.int (nI (m_ct C 13)))) b (fun m' A' => m' 0 = 0 ∧ mo_K [0] m0 m' ∧ mo_K [] A A')) 44 [some (.ref 84), some (.int (nI q)), some (.int 1), some (.int (nI (m_ct C i))), some (.int (nI i))] [] hp 0 0 true := by
  have hin6 : vp_in (nI q) 6 := vp_in_nI hq (by decide)
  have hcl6 : (nI q).toNatClampNeg = q := nI_clamp (by omega)
  have he := hC.2.2.1
  intro c
  induction c with
  | zero =>
    intro i hi
    obtain rfl : i = 13 := by omega
    refine q_iload d_Mo_told_44 rfl ?_
    refine q_bipush (v := 13) d_Mo_told_46 (by decide) ?_
    refine q_icmp_ge (tgt := 75) d_Mo_told_48 (by decide) (fun b48 => ?_) (fun b48 => ?_)
    · skip
      refine q_iload_n d_Mo_told_75 rfl ?_
      refine q_if_ne (tgt := 88) d_Mo_told_76 (by decide) (fun b76 => ?_) (fun b76 => ?_)
      · skip
        refine q_iload_n d_Mo_told_88 rfl ?_
        refine q_iconst (v := 1) d_Mo_told_89 (by decide) ?_
        refine q_icmp_ne (tgt := 97) d_Mo_told_90 (by decide) (fun b90 => ?_) (fun b90 => ?_)
        · skip
          exact absurd rfl b90
        · skip
          refine q_iload_n d_Mo_told_93 rfl ?_
          refine q_goto (tgt := 106) d_Mo_told_94 (by decide) ?_
          refine q_iret d_Mo_told_106 rfl ?_ (Nat.le_of_ble_eq_true rfl) (Nat.le_of_ble_eq_true rfl) (by decide)
          exact ⟨(_, _, _), rfl, rfl, hA, v0, km, mo_K.rfl⟩
      · skip
        exact absurd b76 (by decide)
    · skip
      exact absurd (show (13 : Int32) ≤ nI 13 by decide) b48
  | succ c ih =>
    intro i hi
    have hin78 : vp_in (nI (13 * q + i)) 78 := vp_in_nI (by omega) (by decide)
    have hcl78 : (nI (13 * q + i)).toNatClampNeg = 13 * q + i := nI_clamp (by omega)
    have hci : (if i < c_n C then c_s C i else 0) < 8192 := by
      split
      · exact (hC.2.2.2 i (by omega)).1
      · decide
    refine q_iload d_Mo_told_44 rfl ?_
    refine q_bipush (v := 13) d_Mo_told_46 (by decide) ?_
    refine q_icmp_ge (tgt := 75) d_Mo_told_48 (by decide) (fun b48 => ?_) (fun b48 => ?_)
    · skip
      exact absurd b48 (nI_ge (show i < 13 by omega) (by decide))
    · skip
      refine q_iload_n d_Mo_told_51 rfl ?_
      refine q_aload_n d_Mo_told_52 rfl rfl ?_
      refine q_get d_Mo_told_53 f_Mo_29 hA.1 rfl ?_
      refine q_bipush (v := 13) d_Mo_told_56 (by decide) ?_
      refine q_iload_n d_Mo_told_58 rfl ?_
      refine q_imul d_Mo_told_59 ?_
      rw [show (13 : Int32) = nI 13 from rfl, pk_mul]
      refine q_iload d_Mo_told_60 rfl ?_
      refine q_iadd d_Mo_told_62 ?_
      rw [nI_add]
      refine q_iald d_Mo_told_63 hA.a5 rfl hin78 ?_
      rw [hcl78, hD.2.2.1 i (by omega)]
      refine x_callS d_Mo_told_64 l_Mo_172 s_Mo_ones (c_Mo_ones hG hci) rfl rfl (Nat.le_of_ble_eq_true rfl) (Nat.le_of_ble_eq_true rfl) (Nat.le_of_ble_eq_true rfl) (Nat.le_of_ble_eq_true rfl) ?_
      refine q_iadd d_Mo_told_67 ?_
      rw [nI_add]
      refine q_istore_n d_Mo_told_68 rfl (by decide) rfl ?_
      refine q_iinc d_Mo_told_69 rfl (show _ + Int32.ofInt 1 = _ + 1 from rfl) (by decide) rfl ?_
      refine q_goto (tgt := 44) d_Mo_told_72 (by decide) ?_
      rw [nI_1]
      exact ih (i + 1) (by omega)
set_option maxRecDepth 10000 in
set_option maxHeartbeats 2000000 in
theorem c_Mo_told1 (hG : q_GG g) {b hp : List va_E} {m : Nat → Int32} {A : Nat → Nat → Int32} {C : c_T} {q np : Nat} (hA : M_A b m A hp) (v8 : m 8 = nI np) (hnp : np ≤ 6) (hq : q < np) (hD : D_M q C A) (hC : c_ok C) : q_C g m_Mo_told true (q_R 1 20 0 0) [.ref 84, .int (nI q), .int 1] hp (q_mo (some (.int (nI (m_ct C 13)))) b (fun m' A' => m' 0 = 0 ∧ mo_K [0] m m' ∧ mo_K [] A A')) := by
  refine q_C.of hG (by decide) (Nat.le_of_ble_eq_true rfl) ?_
  have km : mo_K [0] m m := mo_K.rfl
  have hx : ¬ m_np (nI q) np := fun h => h.elim (nI_pos (by omega)) (nI_ge hq (by omega))
  have hy : ¬ m_tw 1 := by decide
  refine q_aload_n d_Mo_told_0 rfl rfl ?_
  refine q_join (pc' := 27) (st' := [.ref 84]) (if m_np (nI q) np then 1 else if m_tw 1 then 2 else 0) (fun x27 hx27 => ?_) (fun J27 => ?_)
  · subst hx27
    refine x_put d_Mo_told_27 f_Mo_90 hA.1 (Nat.le_of_ble_eq_true rfl) rfl rfl (fun hp1 e1 _ => ?_)
    obtain ⟨m, hA, v0, nn⟩ := hA.put (k := 0) (by decide) e1
    rw [if_neg hx, if_neg hy] at v0
    have v8 := (nn 8 (by decide)).trans v8
    have km := km.put nn (by decide)
    refine q_aload_n d_Mo_told_30 rfl rfl ?_
    refine q_get d_Mo_told_31 f_Mo_90 hA.1 rfl ?_
    rw [v0]
    refine q_if_le (tgt := 39) d_Mo_told_34 (by decide) (fun b34 => ?_) (fun b34 => ?_)
    · skip
      refine q_iconst (v := 0) d_Mo_told_39 (by decide) ?_
      refine q_istore_n d_Mo_told_40 rfl (by decide) rfl ?_
      refine q_iconst (v := 0) d_Mo_told_41 (by decide) ?_
      refine q_istore d_Mo_told_42 (by decide) rfl ?_
      exact l_Mo_told1 hG hA hD (by omega) hC v0 km 13 0 (by omega)
    · skip
      exact absurd (by decide) b34
  · skip
    refine q_aload_n d_Mo_told_1 rfl rfl ?_
    refine q_iload_n d_Mo_told_2 rfl ?_
    refine x_callV d_Mo_told_3 l_Mo_168 i_Mo_noProcess v_Mo_noProcess rfl hA.1 (c_Mo_noProcess hG hA v8) rfl rfl (Nat.le_of_ble_eq_true rfl) (Nat.le_of_ble_eq_true rfl) (Nat.le_of_ble_eq_true rfl) (Nat.le_of_ble_eq_true rfl) ?_
    refine q_if_eq (tgt := 13) d_Mo_told_6 (by decide) (fun b6 => ?_) (fun b6 => ?_)
    · skip
      have h1 : ¬ m_np (nI q) np := m_if0.mp b6
      refine q_iload_n d_Mo_told_13 rfl ?_
      refine q_if_lt (tgt := 22) d_Mo_told_14 (by decide) (fun b14 => ?_) (fun b14 => ?_)
      · skip
        refine q_iconst (v := 2) d_Mo_told_22 (by decide) ?_
        refine q_goto (tgt := 27) d_Mo_told_23 (by decide) ?_
        exact J27 _ (by first | (rw [if_pos h1]) | (rw [if_neg h1, if_pos (Or.inl b14)]) | (rw [if_neg h1, if_pos (Or.inr (Int32.not_le.mp b19))]) | (rw [if_neg h1, if_neg (fun q => q.elim b14 (fun h => absurd h (Int32.not_lt.mpr b19)))]))
      · skip
        refine q_iload_n d_Mo_told_17 rfl ?_
        refine q_iconst (v := 2) d_Mo_told_18 (by decide) ?_
        refine q_icmp_le (tgt := 26) d_Mo_told_19 (by decide) (fun b19 => ?_) (fun b19 => ?_)
        · skip
          refine q_iconst (v := 0) d_Mo_told_26 (by decide) ?_
          exact J27 _ (by first | (rw [if_pos h1]) | (rw [if_neg h1, if_pos (Or.inl b14)]) | (rw [if_neg h1, if_pos (Or.inr (Int32.not_le.mp b19))]) | (rw [if_neg h1, if_neg (fun q => q.elim b14 (fun h => absurd h (Int32.not_lt.mpr b19)))]))
        · skip
          refine q_iconst (v := 2) d_Mo_told_22 (by decide) ?_
          refine q_goto (tgt := 27) d_Mo_told_23 (by decide) ?_
          exact J27 _ (by first | (rw [if_pos h1]) | (rw [if_neg h1, if_pos (Or.inl b14)]) | (rw [if_neg h1, if_pos (Or.inr (Int32.not_le.mp b19))]) | (rw [if_neg h1, if_neg (fun q => q.elim b14 (fun h => absurd h (Int32.not_lt.mpr b19)))]))
    · skip
      have h1 : m_np (nI q) np := Classical.byContradiction (fun h => b6 (m_if0.mpr h))
      refine q_iconst (v := 1) d_Mo_told_9 (by decide) ?_
      refine q_goto (tgt := 27) d_Mo_told_10 (by decide) ?_
      exact J27 _ (by first | (rw [if_pos h1]) | (rw [if_neg h1, if_pos (Or.inl b14)]) | (rw [if_neg h1, if_pos (Or.inr (Int32.not_le.mp b19))]) | (rw [if_neg h1, if_neg (fun q => q.elim b14 (fun h => absurd h (Int32.not_lt.mpr b19)))]))
set_option maxRecDepth 10000 in
set_option maxHeartbeats 2000000 in
theorem l_Mo_told2 (hG : q_GG g) {b hp : List va_E} {m0 m : Nat → Int32} {A : Nat → Nat → Int32} {C : c_T} {q : Nat} (hA : M_A b m A hp) (hD : D_M q C A) (hq : q < 6) (hC : c_ok C) (v0 : m 0 = 0) (km : mo_K [0] m0 m) : ∀ (c i : Nat), i + c = 13 → q_J g m_Mo_told true (q_R 1 20 0 0) (q_mo (some (.int (nI (pb_cnt 13 (c_e C))))) b (fun m' A' => m' 0 = 0 ∧ mo_K [0] m0 m' ∧ mo_K [] A A')) 44 [some (.ref 84), some (.int (nI q)), some (.int 2), some (.int (nI (m_ct C i))), some (.int (nI i))] [] hp 0 0 true := by
  have hin6 : vp_in (nI q) 6 := vp_in_nI hq (by decide)
  have hcl6 : (nI q).toNatClampNeg = q := nI_clamp (by omega)
  have he := hC.2.2.1
  intro c
  induction c with
  | zero =>
    intro i hi
    obtain rfl : i = 13 := by omega
    refine q_iload d_Mo_told_44 rfl ?_
    refine q_bipush (v := 13) d_Mo_told_46 (by decide) ?_
    refine q_icmp_ge (tgt := 75) d_Mo_told_48 (by decide) (fun b48 => ?_) (fun b48 => ?_)
    · skip
      refine q_iload_n d_Mo_told_75 rfl ?_
      refine q_if_ne (tgt := 88) d_Mo_told_76 (by decide) (fun b76 => ?_) (fun b76 => ?_)
      · skip
        refine q_iload_n d_Mo_told_88 rfl ?_
        refine q_iconst (v := 1) d_Mo_told_89 (by decide) ?_
        refine q_icmp_ne (tgt := 97) d_Mo_told_90 (by decide) (fun b90 => ?_) (fun b90 => ?_)
        · skip
          refine q_aload_n d_Mo_told_97 rfl rfl ?_
          refine q_get d_Mo_told_98 f_Mo_26 hA.1 rfl ?_
          refine q_iload_n d_Mo_told_101 rfl ?_
          refine q_iald d_Mo_told_102 hA.a4 rfl hin6 ?_
          rw [hcl6, hD.2.1]
          refine x_callS d_Mo_told_103 l_Mo_172 s_Mo_ones (c_Mo_ones hG he) rfl rfl (Nat.le_of_ble_eq_true rfl) (Nat.le_of_ble_eq_true rfl) (Nat.le_of_ble_eq_true rfl) (Nat.le_of_ble_eq_true rfl) ?_
          refine q_iret d_Mo_told_106 rfl ?_ (Nat.le_of_ble_eq_true rfl) (Nat.le_of_ble_eq_true rfl) (by decide)
          exact ⟨(_, _, _), rfl, rfl, hA, v0, km, mo_K.rfl⟩
        · skip
          exact absurd b90 (by decide)
      · skip
        exact absurd b76 (by decide)
    · skip
      exact absurd (show (13 : Int32) ≤ nI 13 by decide) b48
  | succ c ih =>
    intro i hi
    have hin78 : vp_in (nI (13 * q + i)) 78 := vp_in_nI (by omega) (by decide)
    have hcl78 : (nI (13 * q + i)).toNatClampNeg = 13 * q + i := nI_clamp (by omega)
    have hci : (if i < c_n C then c_s C i else 0) < 8192 := by
      split
      · exact (hC.2.2.2 i (by omega)).1
      · decide
    refine q_iload d_Mo_told_44 rfl ?_
    refine q_bipush (v := 13) d_Mo_told_46 (by decide) ?_
    refine q_icmp_ge (tgt := 75) d_Mo_told_48 (by decide) (fun b48 => ?_) (fun b48 => ?_)
    · skip
      exact absurd b48 (nI_ge (show i < 13 by omega) (by decide))
    · skip
      refine q_iload_n d_Mo_told_51 rfl ?_
      refine q_aload_n d_Mo_told_52 rfl rfl ?_
      refine q_get d_Mo_told_53 f_Mo_29 hA.1 rfl ?_
      refine q_bipush (v := 13) d_Mo_told_56 (by decide) ?_
      refine q_iload_n d_Mo_told_58 rfl ?_
      refine q_imul d_Mo_told_59 ?_
      rw [show (13 : Int32) = nI 13 from rfl, pk_mul]
      refine q_iload d_Mo_told_60 rfl ?_
      refine q_iadd d_Mo_told_62 ?_
      rw [nI_add]
      refine q_iald d_Mo_told_63 hA.a5 rfl hin78 ?_
      rw [hcl78, hD.2.2.1 i (by omega)]
      refine x_callS d_Mo_told_64 l_Mo_172 s_Mo_ones (c_Mo_ones hG hci) rfl rfl (Nat.le_of_ble_eq_true rfl) (Nat.le_of_ble_eq_true rfl) (Nat.le_of_ble_eq_true rfl) (Nat.le_of_ble_eq_true rfl) ?_
      refine q_iadd d_Mo_told_67 ?_
      rw [nI_add]
      refine q_istore_n d_Mo_told_68 rfl (by decide) rfl ?_
      refine q_iinc d_Mo_told_69 rfl (show _ + Int32.ofInt 1 = _ + 1 from rfl) (by decide) rfl ?_
      refine q_goto (tgt := 44) d_Mo_told_72 (by decide) ?_
      rw [nI_1]
      exact ih (i + 1) (by omega)
set_option maxRecDepth 10000 in
set_option maxHeartbeats 2000000 in
theorem c_Mo_told2 (hG : q_GG g) {b hp : List va_E} {m : Nat → Int32} {A : Nat → Nat → Int32} {C : c_T} {q np : Nat} (hA : M_A b m A hp) (v8 : m 8 = nI np) (hnp : np ≤ 6) (hq : q < np) (hD : D_M q C A) (hC : c_ok C) : q_C g m_Mo_told true (q_R 1 20 0 0) [.ref 84, .int (nI q), .int 2] hp (q_mo (some (.int (nI (pb_cnt 13 (c_e C))))) b (fun m' A' => m' 0 = 0 ∧ mo_K [0] m m' ∧ mo_K [] A A')) := by
  refine q_C.of hG (by decide) (Nat.le_of_ble_eq_true rfl) ?_
  have km : mo_K [0] m m := mo_K.rfl
  have hx : ¬ m_np (nI q) np := fun h => h.elim (nI_pos (by omega)) (nI_ge hq (by omega))
  have hy : ¬ m_tw 2 := by decide
  refine q_aload_n d_Mo_told_0 rfl rfl ?_
  refine q_join (pc' := 27) (st' := [.ref 84]) (if m_np (nI q) np then 1 else if m_tw 2 then 2 else 0) (fun x27 hx27 => ?_) (fun J27 => ?_)
  · subst hx27
    refine x_put d_Mo_told_27 f_Mo_90 hA.1 (Nat.le_of_ble_eq_true rfl) rfl rfl (fun hp1 e1 _ => ?_)
    obtain ⟨m, hA, v0, nn⟩ := hA.put (k := 0) (by decide) e1
    rw [if_neg hx, if_neg hy] at v0
    have v8 := (nn 8 (by decide)).trans v8
    have km := km.put nn (by decide)
    refine q_aload_n d_Mo_told_30 rfl rfl ?_
    refine q_get d_Mo_told_31 f_Mo_90 hA.1 rfl ?_
    rw [v0]
    refine q_if_le (tgt := 39) d_Mo_told_34 (by decide) (fun b34 => ?_) (fun b34 => ?_)
    · skip
      refine q_iconst (v := 0) d_Mo_told_39 (by decide) ?_
      refine q_istore_n d_Mo_told_40 rfl (by decide) rfl ?_
      refine q_iconst (v := 0) d_Mo_told_41 (by decide) ?_
      refine q_istore d_Mo_told_42 (by decide) rfl ?_
      exact l_Mo_told2 hG hA hD (by omega) hC v0 km 13 0 (by omega)
    · skip
      exact absurd (by decide) b34
  · skip
    refine q_aload_n d_Mo_told_1 rfl rfl ?_
    refine q_iload_n d_Mo_told_2 rfl ?_
    refine x_callV d_Mo_told_3 l_Mo_168 i_Mo_noProcess v_Mo_noProcess rfl hA.1 (c_Mo_noProcess hG hA v8) rfl rfl (Nat.le_of_ble_eq_true rfl) (Nat.le_of_ble_eq_true rfl) (Nat.le_of_ble_eq_true rfl) (Nat.le_of_ble_eq_true rfl) ?_
    refine q_if_eq (tgt := 13) d_Mo_told_6 (by decide) (fun b6 => ?_) (fun b6 => ?_)
    · skip
      have h1 : ¬ m_np (nI q) np := m_if0.mp b6
      refine q_iload_n d_Mo_told_13 rfl ?_
      refine q_if_lt (tgt := 22) d_Mo_told_14 (by decide) (fun b14 => ?_) (fun b14 => ?_)
      · skip
        refine q_iconst (v := 2) d_Mo_told_22 (by decide) ?_
        refine q_goto (tgt := 27) d_Mo_told_23 (by decide) ?_
        exact J27 _ (by first | (rw [if_pos h1]) | (rw [if_neg h1, if_pos (Or.inl b14)]) | (rw [if_neg h1, if_pos (Or.inr (Int32.not_le.mp b19))]) | (rw [if_neg h1, if_neg (fun q => q.elim b14 (fun h => absurd h (Int32.not_lt.mpr b19)))]))
      · skip
        refine q_iload_n d_Mo_told_17 rfl ?_
        refine q_iconst (v := 2) d_Mo_told_18 (by decide) ?_
        refine q_icmp_le (tgt := 26) d_Mo_told_19 (by decide) (fun b19 => ?_) (fun b19 => ?_)
        · skip
          refine q_iconst (v := 0) d_Mo_told_26 (by decide) ?_
          exact J27 _ (by first | (rw [if_pos h1]) | (rw [if_neg h1, if_pos (Or.inl b14)]) | (rw [if_neg h1, if_pos (Or.inr (Int32.not_le.mp b19))]) | (rw [if_neg h1, if_neg (fun q => q.elim b14 (fun h => absurd h (Int32.not_lt.mpr b19)))]))
        · skip
          refine q_iconst (v := 2) d_Mo_told_22 (by decide) ?_
          refine q_goto (tgt := 27) d_Mo_told_23 (by decide) ?_
          exact J27 _ (by first | (rw [if_pos h1]) | (rw [if_neg h1, if_pos (Or.inl b14)]) | (rw [if_neg h1, if_pos (Or.inr (Int32.not_le.mp b19))]) | (rw [if_neg h1, if_neg (fun q => q.elim b14 (fun h => absurd h (Int32.not_lt.mpr b19)))]))
    · skip
      have h1 : m_np (nI q) np := Classical.byContradiction (fun h => b6 (m_if0.mpr h))
      refine q_iconst (v := 1) d_Mo_told_9 (by decide) ?_
      refine q_goto (tgt := 27) d_Mo_told_10 (by decide) ?_
      exact J27 _ (by first | (rw [if_pos h1]) | (rw [if_neg h1, if_pos (Or.inl b14)]) | (rw [if_neg h1, if_pos (Or.inr (Int32.not_le.mp b19))]) | (rw [if_neg h1, if_neg (fun q => q.elim b14 (fun h => absurd h (Int32.not_lt.mpr b19)))]))
set_option maxRecDepth 10000 in
set_option maxHeartbeats 2000000 in
theorem c_Mo_fallsM (hG : q_GG g) {b hp : List va_E} {m0 : Nat → Int32} {A0 : Nat → Nat → Int32} {w : w_T} (hA : M_A b m0 A0 hp) (hmk : w_mk w) (hW0 : W_M w m0 A0) (hN : ¬ w_q w ≤ 30000) : q_C g m_Mo_falls true (q_R 2 80 0 0) [.ref 84] hp (q_mo (some (.int 0)) b (fun m' A' => m' 0 = 1 ∧ mo_K [0] m0 m' ∧ mo_K [] A0 A')) := by
  refine q_C.of hG (by decide) (Nat.le_of_ble_eq_true rfl) ?_
  have km : mo_K [0] m0 m0 := mo_K.rfl
  have kA : mo_K [] A0 A0 := mo_K.rfl
  refine q_aload_n d_Mo_falls_0 rfl rfl ?_
  refine x_callVm d_Mo_falls_1 l_Mo_194 i_Mo_product v_Mo_product rfl hA.1 (c_Mo_product hG hmk hW0 hA) rfl rfl (Nat.le_of_ble_eq_true rfl) (Nat.le_of_ble_eq_true rfl) (Nat.le_of_ble_eq_true rfl) (Nat.le_of_ble_eq_true rfl) (fun m A hp1 hA hz => ?_)
  obtain ⟨v0, nm, nA⟩ := hz
  have km := km.sub nm (by decide)
  have kA := kA.sub nA (by decide)
  rw [if_neg hN]
  refine q_istore_n d_Mo_falls_4 rfl (by decide) rfl ?_
  refine q_aload_n d_Mo_falls_5 rfl rfl ?_
  refine q_iload_n d_Mo_falls_6 rfl ?_
  refine q_if_ge (tgt := 14) d_Mo_falls_7 (by decide) (fun b7 => ?_) (fun b7 => ?_)
  · skip
    exact absurd b7 (by decide)
  · skip
    refine q_iconst (v := 1) d_Mo_falls_10 (by decide) ?_
    refine q_goto (tgt := 15) d_Mo_falls_11 (by decide) ?_
    refine x_put d_Mo_falls_15 f_Mo_90 hA.1 (Nat.le_of_ble_eq_true rfl) rfl rfl (fun hp2 e2 _ => ?_)
    obtain ⟨m, hA, v0, nn⟩ := hA.put (k := 0) (by decide) e2
    have km := km.put nn (by decide)
    refine q_aload_n d_Mo_falls_18 rfl rfl ?_
    refine q_get d_Mo_falls_19 f_Mo_90 hA.1 rfl ?_
    rw [v0]
    refine q_if_le (tgt := 27) d_Mo_falls_22 (by decide) (fun b22 => ?_) (fun b22 => ?_)
    · skip
      exact absurd b22 (by decide)
    · skip
      refine q_iconst (v := 0) d_Mo_falls_25 (by decide) ?_
      refine q_zret d_Mo_falls_26 rfl (by decide) ?_ (Nat.le_of_ble_eq_true rfl) (Nat.le_of_ble_eq_true rfl) (by decide)
      exact ⟨(_, _, _), rfl, rfl, hA, v0, km, kA⟩
set_option maxRecDepth 10000 in
set_option maxHeartbeats 2000000 in
theorem l_Mo_fal (hG : q_GG g) {b : List va_E} {m0 : Nat → Int32} {A0 : Nat → Nat → Int32} {w : w_T} {f0 : Nat} {sn : Nat → Bool} (hmk : w_mk w) (hW0 : W_M w m0 A0) (hN : w_q w ≤ 30000) (hsn : ∀ k, sn k = true ↔ rr_R (w_S w) f0 k) (hlt : ∀ u, rr_R (w_S w) f0 u → u < w_q w) : ∀ (c i : Nat), i + c = w_q w → ∀ (m : Nat → Int32) (A : Nat → Nat → Int32) (hp : List va_E), M_A b m A hp → mo_K [0] m0 m → mo_K [20, 21, 22, 23] A0 A → m 0 = 0 → (∀ k, k < 30001 → A 22 k = nI (if sn k = true then 1 else 0)) → (∀ k, k < i → sn k = true → ¬ N_st w k = true) → q_J g m_Mo_falls true (q_R 2 80 0 0) (q_rel (Z := Bool × m_Z) (fun z => some (.int (if z.1 = true then 1 else 0))) (fun z => z.2.2.2) (fun z => M_A b z.2.1 z.2.2.1 z.2.2.2 ∧ (z.1 = true ↔ ∃ u, rr_R (w_S w) f0 u ∧ N_st w u = true) ∧ z.2.1 0 = 0 ∧ mo_K [0] m0 z.2.1 ∧ mo_K [20, 21, 22, 23] A0 z.2.2.1)) 41 [some (.ref 84), some (.int (nI (w_q w))), some (.int (nI i))] [] hp 0 0 true := by
  have hp6 := hmk.1.2.1
  intro c
  induction c with
  | zero =>
    intro i hi m A hp hA km kA v0 hsn0 hno
    refine q_iload_n d_Mo_falls_41 rfl ?_
    refine q_iload_n d_Mo_falls_42 rfl ?_
    refine q_icmp_ge (tgt := 75) d_Mo_falls_43 (by decide) (fun b43 => ?_) (fun b43 => ?_)
    · skip
      refine q_iconst (v := 0) d_Mo_falls_75 (by decide) ?_
      refine q_zret d_Mo_falls_76 rfl (by decide) ?_ (Nat.le_of_ble_eq_true rfl) (Nat.le_of_ble_eq_true rfl) (by decide)
      refine ⟨(false, _, _, _), rfl, rfl, hA, ⟨fun h => (by cases h), fun ⟨u, h1, h2⟩ => ?_⟩, v0, km, kA⟩
      exact absurd h2 (hno u (by rw [show i = w_q w by omega]; exact hlt u h1) ((hsn u).mpr h1))
    · skip
      exact absurd (nI_le (by omega) (by omega)) b43
  | succ c ih =>
    intro i hi m A hp hA km kA v0 hsn0 hno
    have hs : s_ok w (w_pl w i (fun _ => 0)) (w_vv w i (fun _ => 0)) := w_pl_ok hmk.1 (fun _ _ => by decide)
    have hmv : w_mv w (w_pl w i (fun _ => 0)) (w_vv w i (fun _ => 0)) (w_p w) = 0 ↔ N_st w i = true := mv_st1 hmk.1 _ hp6
    obtain ⟨F22, hF22⟩ : ∃ f, A 22 = f := ⟨_, rfl⟩
    rw [hF22] at hsn0
    have a22 := hF22
    refine q_iload_n d_Mo_falls_41 rfl ?_
    refine q_iload_n d_Mo_falls_42 rfl ?_
    refine q_icmp_ge (tgt := 75) d_Mo_falls_43 (by decide) (fun b43 => ?_) (fun b43 => ?_)
    · skip
      exact absurd b43 (nI_ge (by omega) (by omega))
    · skip
      refine q_aload_n d_Mo_falls_46 rfl rfl ?_
      refine q_iload_n d_Mo_falls_47 rfl ?_
      refine x_callVm d_Mo_falls_48 l_Mo_186 i_Mo_apart v_Mo_apart rfl hA.1 (c_Mo_apart hG hA hmk (hW0.keep km kA (by decide) (by decide)) (by omega)) rfl rfl (Nat.le_of_ble_eq_true rfl) (Nat.le_of_ble_eq_true rfl) (Nat.le_of_ble_eq_true rfl) (Nat.le_of_ble_eq_true rfl) (fun m A hp1 hA hz => ?_)
      obtain ⟨hst, nm, nA⟩ := hz
      have hst := hst.nf hmk.1
      have v0 := (nm 0 (by decide)).trans v0
      have a22 := (nA 22 (by decide)).trans a22
      have km := km.sub nm (by decide)
      have kA := kA.sub nA (by decide)
      refine q_aload_n d_Mo_falls_51 rfl rfl ?_
      refine q_get d_Mo_falls_52 f_Mo_81 hA.1 rfl ?_
      refine q_iload_n d_Mo_falls_55 rfl ?_
      refine q_zald d_Mo_falls_56 hA.a22 rfl (vp_in_nI (by omega) (by decide)) ?_
      rw [a22]
      rw [nI_clamp (by omega), hsn0 i (by omega)]
      refine q_if_eq (tgt := 69) d_Mo_falls_57 (by decide) (fun b57 => ?_) (fun b57 => ?_)
      · skip
        have h1 : ¬ sn i = true := fun h => by rw [if_pos h] at b57; exact absurd b57 (by decide)
        have hno2 : ∀ k, k < i + 1 → sn k = true → ¬ N_st w k = true := fun k hk hk2 => by
          by_cases e : k = i
          · subst e; exact absurd hk2 h1
          · exact hno k (by omega) hk2
        refine q_iinc d_Mo_falls_69 rfl (show _ + Int32.ofInt 1 = _ + 1 from rfl) (by decide) rfl ?_
        refine q_goto (tgt := 41) d_Mo_falls_72 (by decide) ?_
        rw [nI_1]
        exact ih (i + 1) (by omega) m A _ hA km kA v0 (fun k hk => by rw [a22]; exact hsn0 k hk) hno2
      · skip
        have h1 : sn i = true := Classical.byContradiction (fun h => b57 (by rw [if_neg h]; rfl))
        refine q_aload_n d_Mo_falls_60 rfl rfl ?_
        refine x_callVm d_Mo_falls_61 l_Mo_182 i_Mo_possible v_Mo_possible rfl hA.1 (c_Mo_possible hG hA hmk (hW0.keep km kA (by decide) (by decide)) hst hs.1 hs.2.2) rfl rfl (Nat.le_of_ble_eq_true rfl) (Nat.le_of_ble_eq_true rfl) (Nat.le_of_ble_eq_true rfl) (Nat.le_of_ble_eq_true rfl) (fun m A hp2 hA hz => ?_)
        obtain ⟨nm, nA⟩ := hz
        have v0 := (nm 0 (by decide)).trans v0
        have a22 := (nA 22 (by decide)).trans a22
        have km := km.sub nm (by decide)
        have kA := kA.sub nA (by decide)
        refine q_if_ne (tgt := 69) d_Mo_falls_64 (by decide) (fun b64 => ?_) (fun b64 => ?_)
        · skip
          have h2 : ¬ N_st w i = true := fun h => b64 (by rw [hmv.mpr h]; rfl)
          have hno2 : ∀ k, k < i + 1 → sn k = true → ¬ N_st w k = true := fun k hk hk2 => by
            by_cases e : k = i
            · subst e; exact h2
            · exact hno k (by omega) hk2
          refine q_iinc d_Mo_falls_69 rfl (show _ + Int32.ofInt 1 = _ + 1 from rfl) (by decide) rfl ?_
          refine q_goto (tgt := 41) d_Mo_falls_72 (by decide) ?_
          rw [nI_1]
          exact ih (i + 1) (by omega) m A _ hA km kA v0 (fun k hk => by rw [a22]; exact hsn0 k hk) hno2
        · skip
          have h2 : N_st w i = true := hmv.mp (m_n0 (by have := mv_bd (w := w) (pl := w_pl w i (fun _ => 0)) (vl := w_vv w i (fun _ => 0)) (w_p w); omega) b64)
          refine q_iconst (v := 1) d_Mo_falls_67 (by decide) ?_
          refine q_zret d_Mo_falls_68 rfl (by decide) ?_ (Nat.le_of_ble_eq_true rfl) (Nat.le_of_ble_eq_true rfl) (by decide)
          exact ⟨(true, _, _, _), rfl, rfl, hA, ⟨fun _ => ⟨i, (hsn i).mp h1, h2⟩, fun _ => rfl⟩, v0, km, kA⟩
set_option maxRecDepth 10000 in
set_option maxHeartbeats 2000000 in
theorem c_Mo_falls (hG : q_GG g) {b hp : List va_E} {m0 : Nat → Int32} {A0 : Nat → Nat → Int32} {w : w_T} {pl vl : Nat → Nat} (hA : M_A b m0 A0 hp) (hmk : w_mk w) (hW0 : W_M w m0 A0) (hN : w_q w ≤ 30000) (hst : st_M w pl vl (A0 19)) (hvl : ∀ v, v < 5 → vl v < w_z w v) (hf0 : w_u w pl vl < w_q w) (hlt : ∀ u, rr_R (w_S w) (w_u w pl vl) u → u < w_q w) : q_C g m_Mo_falls true (q_R 2 80 0 0) [.ref 84] hp (q_rel (Z := Bool × m_Z) (fun z => some (.int (if z.1 = true then 1 else 0))) (fun z => z.2.2.2) (fun z => M_A b z.2.1 z.2.2.1 z.2.2.2 ∧ (z.1 = true ↔ ∃ u, rr_R (w_S w) (w_u w pl vl) u ∧ N_st w u = true) ∧ z.2.1 0 = 0 ∧ mo_K [0] m0 z.2.1 ∧ mo_K [20, 21, 22, 23] A0 z.2.2.1)) := by
  refine q_C.of hG (by decide) (Nat.le_of_ble_eq_true rfl) ?_
  have km : mo_K [0] m0 m0 := mo_K.rfl
  have kA : mo_K [20, 21, 22, 23] A0 A0 := mo_K.rfl
  refine q_aload_n d_Mo_falls_0 rfl rfl ?_
  refine x_callVm d_Mo_falls_1 l_Mo_194 i_Mo_product v_Mo_product rfl hA.1 (c_Mo_product hG hmk hW0 hA) rfl rfl (Nat.le_of_ble_eq_true rfl) (Nat.le_of_ble_eq_true rfl) (Nat.le_of_ble_eq_true rfl) (Nat.le_of_ble_eq_true rfl) (fun m A hp1 hA hz => ?_)
  obtain ⟨v0, nm, nA⟩ := hz
  have km := km.sub nm (by decide)
  have kA := kA.sub nA (by decide)
  rw [if_pos hN]
  refine q_istore_n d_Mo_falls_4 rfl (by decide) rfl ?_
  refine q_aload_n d_Mo_falls_5 rfl rfl ?_
  refine q_iload_n d_Mo_falls_6 rfl ?_
  refine q_if_ge (tgt := 14) d_Mo_falls_7 (by decide) (fun b7 => ?_) (fun b7 => ?_)
  · skip
    refine q_iconst (v := 0) d_Mo_falls_14 (by decide) ?_
    refine x_put d_Mo_falls_15 f_Mo_90 hA.1 (Nat.le_of_ble_eq_true rfl) rfl rfl (fun hp2 e2 _ => ?_)
    obtain ⟨m, hA, v0, nn⟩ := hA.put (k := 0) (by decide) e2
    have km := km.put nn (by decide)
    refine q_aload_n d_Mo_falls_18 rfl rfl ?_
    refine q_get d_Mo_falls_19 f_Mo_90 hA.1 rfl ?_
    rw [v0]
    refine q_if_le (tgt := 27) d_Mo_falls_22 (by decide) (fun b22 => ?_) (fun b22 => ?_)
    · skip
      refine q_aload_n d_Mo_falls_27 rfl rfl ?_
      refine q_aload_n d_Mo_falls_28 rfl rfl ?_
      refine q_aload_n d_Mo_falls_29 rfl rfl ?_
      refine q_get d_Mo_falls_30 f_Mo_72 hA.1 rfl ?_
      refine x_callV d_Mo_falls_33 l_Mo_190 i_Mo_number v_Mo_number rfl hA.1 (c_Mo_number hG hmk hA (hW0.keep km kA (by decide) (by decide)) hA.a19 (by rw [kA 19 (by decide)]; exact hst) hvl) rfl rfl (Nat.le_of_ble_eq_true rfl) (Nat.le_of_ble_eq_true rfl) (Nat.le_of_ble_eq_true rfl) (Nat.le_of_ble_eq_true rfl) ?_
      refine x_callVm d_Mo_falls_36 l_Mo_197 i_Mo_walk v_Mo_walk rfl hA.1 (c_Mo_walk hG hA hmk (hW0.keep km kA (by decide) (by decide)) hN hf0) rfl rfl (Nat.le_of_ble_eq_true rfl) (Nat.le_of_ble_eq_true rfl) (Nat.le_of_ble_eq_true rfl) (Nat.le_of_ble_eq_true rfl) (fun m A hp3 hA hz => ?_)
      obtain ⟨⟨sn, hsn0, hsn⟩, nm, nA⟩ := hz
      have v0 := (nm 0 (by decide)).trans v0
      have km := km.sub nm (by decide)
      have kA := kA.sub nA (by decide)
      refine q_iconst (v := 0) d_Mo_falls_39 (by decide) ?_
      refine q_istore_n d_Mo_falls_40 rfl (by decide) rfl ?_
      exact l_Mo_fal hG hmk hW0 hN hsn hlt (w_q w) 0 (by omega) m A _ hA km kA v0 hsn0 (fun k hk => absurd hk (Nat.not_lt_zero k))
    · skip
      exact absurd (by decide) b22
  · skip
    exact absurd (nI_pos' (by omega)) b7
end M16
