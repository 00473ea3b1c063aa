/-! the reference: move -/
section M12
variable {g : q_G}
theorem G_P.tr {w : w_T} {vl : Nat → Nat} {q j : Nat} {s t s' t' : Nat → Int32} (h : G_P w vl q j s t) (hq : q < 6) (hv : c_v (w_c w q) j < 5) (hs : ∀ i, i < 11 → s' i = s i) (ht : ∀ i, i < 11 → t' i = t i) : G_P w vl q j s' t' := by
  refine ⟨fun i h1 h2 h3 => ?_, ?_, fun h1 => ?_, fun h1 => ?_⟩
  · rw [hs i h1, ht i h1]
    exact h.1 i h1 h2 h3
  · rw [ht q (by omega)]
    exact h.2.1
  · rw [ht _ (by omega)]
    exact h.2.2.1 h1
  · rw [hs _ (by omega), ht _ (by omega)]
    exact h.2.2.2 h1
abbrev mw_P (b : List va_E) (w : w_T) (pl vl : Nat → Nat) (k : Nat) (m0 : Nat → Int32) (A0 : Nat → Nat → Int32) (z : Nat × Nat × m_Z) : Prop :=
  z.1 < w_p w ∧ (1 ≤ z.2.1 ∧ z.2.1 < 13) ∧ w_can w pl vl z.1 z.2.1 = true ∧ w_mv w pl vl z.1 + m_c w pl vl z.1 z.2.1 = k ∧ M_A b z.2.2.1 z.2.2.2.1 z.2.2.2.2 ∧ z.2.2.1 0 = 0 ∧ z.2.2.1 34 = m0 34 + 1 ∧ G_P w vl z.1 z.2.1 (A0 19) (z.2.2.2.1 19) ∧ mo_K [0, 34] m0 z.2.2.1 ∧ mo_K [19, 20, 21] A0 z.2.2.2.1
abbrev q_mw (b : List va_E) (w : w_T) (pl vl : Nat → Nat) (k : Nat) (m0 : Nat → Int32) (A0 : Nat → Nat → Int32) : Outcome → List va_E → Prop := q_rel (Z := Nat × Nat × m_Z) (fun z => some (.int (nI (16 * z.1 + z.2.1)))) (fun z => z.2.2.2.2) (mw_P b w pl vl k m0 A0)
set_option maxRecDepth 10000 in
set_option maxHeartbeats 2000000 in
theorem l_Mo_mvC (hG : q_GG g) {b : List va_E} {m0 : Nat → Int32} {A0 : Nat → Nat → Int32} {w : w_T} {pl vl : Nat → Nat} {m : Nat → Int32} {N : Nat → Int32} {k q j : Nat} {z2 : Option Value} {x1 : Option Value} (hmk : w_mk w) (hq : q < w_p w) (hj1 : 1 ≤ j) (hj : j < 13) (hc : w_can w pl vl q j = true) (hkq : w_mv w pl vl q + m_c w pl vl q j = k) (v0 : m 0 = 0) (v34 : m 34 = m0 34) (km : mo_K [0, 34] m0 m) (hgp : G_P w vl q j (A0 19) N) : ∀ (c i : Nat), i + c = 11 → ∀ (A : Nat → Nat → Int32) (hp : List va_E), M_A b m A hp → A 19 = cpy i N (A0 19) → A 21 = N → mo_K [19, 20, 21] A0 A → q_J g m_Mo_move true (q_R 2 40 0 0) (q_mw b w pl vl k m0 A0) 71 [some (.ref 84), x1, z2, some (.int (nI q)), some (.int (nI j)), some (.int (nI i))] [] hp 0 0 true := by
  intro c
  induction c with
  | zero =>
    intro i hi A hp hA a19 a21 kA
    obtain rfl : i = 11 := by omega
    refine q_iload d_Mo_move_71 rfl ?_
    refine q_bipush (v := 11) d_Mo_move_73 (by decide) ?_
    refine q_icmp_ge (tgt := 98) d_Mo_move_75 (by decide) (fun b75 => ?_) (fun b75 => ?_)
    · skip
      refine q_aload_n d_Mo_move_98 rfl rfl ?_
      refine q_dup d_Mo_move_99 rfl ?_
      refine q_get d_Mo_move_100 f_Mo_102 hA.1 rfl ?_
      rw [v34]
      refine q_iconst (v := 1) d_Mo_move_103 (by decide) ?_
      refine q_iadd d_Mo_move_104 ?_
      refine x_put d_Mo_move_105 f_Mo_102 hA.1 (Nat.le_of_ble_eq_true rfl) rfl rfl (fun hp1 e1 _ => ?_)
      obtain ⟨m, hA, v34, nn⟩ := hA.put (k := 34) (by decide) e1
      have v0 := (nn 0 (by decide)).trans v0
      have km := km.put nn (by decide)
      refine q_bipush (v := 16) d_Mo_move_108 (by decide) ?_
      refine q_iload_n d_Mo_move_110 rfl ?_
      refine q_imul d_Mo_move_111 ?_
      rw [show (16 : Int32) = nI 16 from rfl, pk_mul]
      refine q_iload d_Mo_move_112 rfl ?_
      refine q_iadd d_Mo_move_114 ?_
      rw [nI_add]
      refine q_iret d_Mo_move_115 rfl ?_ (Nat.le_of_ble_eq_true rfl) (Nat.le_of_ble_eq_true rfl) (by decide)
      refine ⟨(q, j, _, _, _), rfl, rfl, hq, ⟨hj1, hj⟩, hc, hkq, hA, v0, v34, ?_, km, kA⟩
      exact hgp.tr (Nat.lt_of_lt_of_le hq hmk.1.2.1) ((hmk.1.2.2.2 q (Nat.lt_of_lt_of_le hq hmk.1.2.1)).2.2.2 j hj).2.2.1 (fun _ _ => rfl) (fun i hi => by show A 19 i = N i; rw [a19, cpy_lt hi])
    · skip
      exact absurd (show (11 : Int32) ≤ nI 11 by decide) b75
  | succ c ih =>
    intro i hi A hp hA a19 a21 kA
    have hin : vp_in (nI i) 11 := vp_in_nI (by omega) (by decide)
    have hcl : (nI i).toNatClampNeg = i := nI_clamp (by omega)
    refine q_iload d_Mo_move_71 rfl ?_
    refine q_bipush (v := 11) d_Mo_move_73 (by decide) ?_
    refine q_icmp_ge (tgt := 98) d_Mo_move_75 (by decide) (fun b75 => ?_) (fun b75 => ?_)
    · skip
      exact absurd b75 (nI_ge (show i < 11 by omega) (by decide))
    · skip
      refine q_aload_n d_Mo_move_78 rfl rfl ?_
      refine q_get d_Mo_move_79 f_Mo_72 hA.1 rfl ?_
      refine q_iload d_Mo_move_82 rfl ?_
      refine q_aload_n d_Mo_move_84 rfl rfl ?_
      refine q_get d_Mo_move_85 f_Mo_78 hA.1 rfl ?_
      refine q_iload d_Mo_move_88 rfl ?_
      refine q_iald d_Mo_move_90 hA.a21 rfl (by assumption) ?_
      rw [a21]
      rw [hcl]
      refine x_iast d_Mo_move_91 hA.a19 rfl (by assumption) (fun hp1 e1 _ => ?_)
      obtain ⟨A, hA, u19, nn⟩ := hA.st19 e1
      rw [a19] at u19
      rw [hcl, cpy_s] at u19
      have a19 := u19
      have a21 := (nn 21 (by decide)).trans a21
      have kA := kA.put nn (by decide)
      refine q_iinc d_Mo_move_92 rfl (show _ + Int32.ofInt 1 = _ + 1 from rfl) (by decide) rfl ?_
      refine q_goto (tgt := 71) d_Mo_move_95 (by decide) ?_
      rw [nI_1]
      exact ih (i + 1) (by omega) A _ hA a19 a21 kA
theorem m_dec {a : Nat} (h : 1 ≤ a) : nI a + (-1) = nI (a - 1) := by
  rw [← pk_pred1 h]
  exact (Int32.sub_eq_add_neg ..).symm
set_option maxRecDepth 10000 in
set_option maxHeartbeats 2000000 in
theorem l_Mo_mvI (hG : q_GG g) {b : List va_E} {m0 : Nat → Int32} {A0 : Nat → Nat → Int32} {w : w_T} {pl vl : Nat → Nat} {k q : Nat} {z5 : Option Value} (hmk : w_mk w) (hW0 : W_M w m0 A0) (hst : st_M w pl vl (A0 19)) (hpl : ∀ q, q < w_p w → pl q < c_n (w_c w q)) (hvl : ∀ v, v < 5 → vl v < w_z w v) (hk31 : k < 2 ^ 31) (hq : q < w_p w) (hout : ∀ m A hp z4, M_A b m A hp → m 0 = 0 → m 34 = m0 34 → mo_K [0, 34] m0 m → mo_K [19, 20, 21] A0 A → A 19 = A0 19 → st_M w pl vl (A 20) → (∀ i, i < 11 → A 20 i = A0 19 i) → w_mv w pl vl (q + 1) ≤ k → q_J g m_Mo_move true (q_R 2 40 0 0) (q_mw b w pl vl k m0 A0) 29 [some (.ref 84), some (.int (nI k)), some (.int (nI (k - w_mv w pl vl (q + 1)))), some (.int (nI (q + 1))), z4, z5] [] hp 0 0 true) : ∀ (c j : Nat), 1 ≤ j → j + c = 13 → ∀ (m : Nat → Int32) (A : Nat → Nat → Int32) (hp : List va_E), M_A b m A hp → m 0 = 0 → m 34 = m0 34 → mo_K [0, 34] m0 m → mo_K [19, 20, 21] A0 A → A 19 = A0 19 → st_M w pl vl (A 20) → (∀ i, i < 11 → A 20 i = A0 19 i) → w_mv w pl vl q + m_c w pl vl q j ≤ k → q_J g m_Mo_move true (q_R 2 40 0 0) (q_mw b w pl vl k m0 A0) 47 [some (.ref 84), some (.int (nI k)), some (.int (nI (k - (w_mv w pl vl q + m_c w pl vl q j)))), some (.int (nI q)), some (.int (nI j)), z5] [] hp 0 0 true := by
  have hq6 : q < 6 := Nat.lt_of_lt_of_le hq hmk.1.2.1
  have hp13 : pl q < 13 := Nat.lt_of_lt_of_le (hpl q hq) (hmk.1.2.2.2 q hq6).2.1
  intro c
  induction c with
  | zero =>
    intro j hj1 hjk m A hp hA v0 v34 km kA a19 hs20 hs20b hle
    obtain rfl : j = 13 := by omega
    have v8 : m 8 = nI (w_p w) := (km 8 (by decide)).trans hW0.2.1
    refine q_iload d_Mo_move_47 rfl ?_
    refine q_bipush (v := 13) d_Mo_move_49 (by decide) ?_
    refine q_icmp_ge (tgt := 125) d_Mo_move_51 (by decide) (fun b51 => ?_) (fun b51 => ?_)
    · skip
      refine q_iinc d_Mo_move_125 rfl (show _ + Int32.ofInt 1 = _ + 1 from rfl) (by decide) rfl ?_
      refine q_goto (tgt := 29) d_Mo_move_128 (by decide) ?_
      rw [nI_1, m_c_13 (hmk.2.2.1 q hq) hp13]
      rw [m_c_13 (hmk.2.2.1 q hq) hp13] at hle
      exact hout m A _ _ hA v0 v34 km kA a19 hs20 hs20b hle
    · skip
      exact absurd (show (13 : Int32) ≤ nI 13 by decide) b51
  | succ c ih =>
    intro j hj1 hjk m A hp hA v0 v34 km kA a19 hs20 hs20b hle
    have hj : j < 13 := by omega
    have hv5 := ((hmk.1.2.2.2 q hq6).2.2.2 j hj).2.2.1
    have v8 : m 8 = nI (w_p w) := (km 8 (by decide)).trans hW0.2.1
    refine q_iload d_Mo_move_47 rfl ?_
    refine q_bipush (v := 13) d_Mo_move_49 (by decide) ?_
    refine q_icmp_ge (tgt := 125) d_Mo_move_51 (by decide) (fun b51 => ?_) (fun b51 => ?_)
    · skip
      exact absurd b51 (nI_ge (show j < 13 by omega) (by decide))
    · skip
      refine q_aload_n d_Mo_move_54 rfl rfl ?_
      refine q_iload_n d_Mo_move_55 rfl ?_
      refine q_iload d_Mo_move_56 rfl ?_
      refine x_callVm d_Mo_move_58 l_Mo_175 i_Mo_goes v_Mo_goes rfl hA.1 (c_Mo_goes hG hA hmk (hW0.keep km kA (by decide) (by decide)) hs20 hpl hvl hq hj1 hj) rfl rfl (Nat.le_of_ble_eq_true rfl) (Nat.le_of_ble_eq_true rfl) (Nat.le_of_ble_eq_true rfl) (Nat.le_of_ble_eq_true rfl) (fun m A hp1 hA hz => ?_)
      obtain ⟨hgp, nm, nA⟩ := hz
      have hgp := fun h => (hgp h).tr (s' := A0 19) (t' := A 21) hq6 hv5 (fun i hi => (hs20b i hi).symm) (fun _ _ => rfl)
      have hs20 : st_M w pl vl (A 20) := by rw [nA 20 (by decide)]; exact hs20
      have hs20b : ∀ i, i < 11 → A 20 i = A0 19 i := by rw [nA 20 (by decide)]; exact hs20b
      have v0 := (nm 0 (by decide)).trans v0
      have v8 := (nm 8 (by decide)).trans v8
      have v34 := (nm 34 (by decide)).trans v34
      have a19 := (nA 19 (by decide)).trans a19
      have km := km.sub nm (by decide)
      have kA := kA.sub nA (by decide)
      refine q_if_eq (tgt := 119) d_Mo_move_61 (by decide) (fun b61 => ?_) (fun b61 => ?_)
      · skip
        have hc : ¬ w_can w pl vl q j = true := m_if0.mp b61
        have hm : m_c w pl vl q (j + 1) = m_c w pl vl q j := by
          show m_c w pl vl q j + (if 1 ≤ j ∧ w_can w pl vl q j = true then 1 else 0) = _
          rw [if_neg (fun h => hc h.2)]
          rfl
        have hle : w_mv w pl vl q + m_c w pl vl q (j + 1) ≤ k := by omega
        rw [show k - (w_mv w pl vl q + m_c w pl vl q j) = k - (w_mv w pl vl q + m_c w pl vl q (j + 1)) by omega]
        refine q_iinc d_Mo_move_119 rfl (show _ + Int32.ofInt 1 = _ + 1 from rfl) (by decide) rfl ?_
        refine q_goto (tgt := 47) d_Mo_move_122 (by decide) ?_
        rw [nI_1]
        first
          | (rw [show nI (k - (w_mv w pl vl q + m_c w pl vl q j)) + (-1) = nI (k - (w_mv w pl vl q + m_c w pl vl q (j + 1))) by rw [m_dec (by omega)]; congr 1; omega]; exact ih (j + 1) (by omega) (by omega) m A _ hA v0 v34 km kA a19 hs20 hs20b hle)
          | exact ih (j + 1) (by omega) (by omega) m A _ hA v0 v34 km kA a19 hs20 hs20b hle
      · skip
        have hc : w_can w pl vl q j = true := Classical.byContradiction (fun h => b61 (m_if0.mpr h))
        have hm : m_c w pl vl q (j + 1) = m_c w pl vl q j + 1 := by
          show m_c w pl vl q j + (if 1 ≤ j ∧ w_can w pl vl q j = true then 1 else 0) = _
          rw [if_pos ⟨hj1, hc⟩]
        refine q_iload_n d_Mo_move_64 rfl ?_
        refine q_if_ne (tgt := 116) d_Mo_move_65 (by decide) (fun b65 => ?_) (fun b65 => ?_)
        · skip
          have hl : ¬ k - (w_mv w pl vl q + m_c w pl vl q j) = 0 := fun h => b65 (by rw [h]; rfl)
          have hle : w_mv w pl vl q + m_c w pl vl q (j + 1) ≤ k := by omega
          refine q_iinc d_Mo_move_116 rfl (show _ + Int32.ofInt (-1) = _ + (-1) from rfl) (by decide) rfl ?_
          refine q_iinc d_Mo_move_119 rfl (show _ + Int32.ofInt 1 = _ + 1 from rfl) (by decide) rfl ?_
          refine q_goto (tgt := 47) d_Mo_move_122 (by decide) ?_
          rw [nI_1]
          first
            | (rw [show nI (k - (w_mv w pl vl q + m_c w pl vl q j)) + (-1) = nI (k - (w_mv w pl vl q + m_c w pl vl q (j + 1))) by rw [m_dec (by omega)]; congr 1; omega]; exact ih (j + 1) (by omega) (by omega) m A _ hA v0 v34 km kA a19 hs20 hs20b hle)
            | exact ih (j + 1) (by omega) (by omega) m A _ hA v0 v34 km kA a19 hs20 hs20b hle
        · skip
          have hl : k - (w_mv w pl vl q + m_c w pl vl q j) = 0 := m_n0 (by omega) b65
          refine q_iconst (v := 0) d_Mo_move_68 (by decide) ?_
          refine q_istore d_Mo_move_69 (by decide) rfl ?_
          exact l_Mo_mvC hG hmk hq hj1 hj hc (by omega) v0 v34 km (hgp hc) 11 0 (by omega) A _ hA (by rw [cpy_0]; exact a19) rfl kA
set_option maxRecDepth 10000 in
set_option maxHeartbeats 2000000 in
theorem l_Mo_mvO (hG : q_GG g) {b : List va_E} {m0 : Nat → Int32} {A0 : Nat → Nat → Int32} {w : w_T} {pl vl : Nat → Nat} {k : Nat} {z5 : Option Value} (hmk : w_mk w) (hW0 : W_M w m0 A0) (hst : st_M w pl vl (A0 19)) (hpl : ∀ q, q < w_p w → pl q < c_n (w_c w q)) (hvl : ∀ v, v < 5 → vl v < w_z w v) (hk31 : k < 2 ^ 31) (hk : k < w_mv w pl vl (w_p w)) : ∀ (c q : Nat), q + c = w_p w → ∀ (m : Nat → Int32) (A : Nat → Nat → Int32) (hp : List va_E) (z4 : Option Value), M_A b m A hp → m 0 = 0 → m 34 = m0 34 → mo_K [0, 34] m0 m → mo_K [19, 20, 21] A0 A → A 19 = A0 19 → st_M w pl vl (A 20) → (∀ i, i < 11 → A 20 i = A0 19 i) → w_mv w pl vl q ≤ k → q_J g m_Mo_move true (q_R 2 40 0 0) (q_mw b w pl vl k m0 A0) 29 [some (.ref 84), some (.int (nI k)), some (.int (nI (k - w_mv w pl vl q))), some (.int (nI q)), z4, z5] [] hp 0 0 true := by
  have hp6 := hmk.1.2.1
  intro c
  induction c with
  | zero =>
    intro q hq m A hp z4 hA v0 v34 km kA a19 hs20 hs20b hle
    rw [show w_p w = q by omega] at hk
    omega
  | succ c ih =>
    intro q hq m A hp z4 hA v0 v34 km kA a19 hs20 hs20b hle
    have v8 : m 8 = nI (w_p w) := (km 8 (by decide)).trans hW0.2.1
    refine q_iload_n d_Mo_move_29 rfl ?_
    refine q_aload_n d_Mo_move_30 rfl rfl ?_
    refine q_get d_Mo_move_31 f_Mo_111 hA.1 rfl ?_
    rw [v8]
    refine q_icmp_ge (tgt := 131) d_Mo_move_34 (by decide) (fun b34 => ?_) (fun b34 => ?_)
    · skip
      exact absurd b34 (nI_ge (by omega) (by omega))
    · skip
      refine q_aload_n d_Mo_move_37 rfl rfl ?_
      refine q_get d_Mo_move_38 f_Mo_90 hA.1 rfl ?_
      rw [v0]
      refine q_if_ne (tgt := 131) d_Mo_move_41 (by decide) (fun b41 => ?_) (fun b41 => ?_)
      · skip
        exact absurd rfl b41
      · skip
        refine q_iconst (v := 1) d_Mo_move_44 (by decide) ?_
        refine q_istore d_Mo_move_45 (by decide) rfl ?_
        rw [show w_mv w pl vl q = w_mv w pl vl q + m_c w pl vl q 1 from rfl]
        exact l_Mo_mvI hG hmk hW0 hst hpl hvl hk31 (by omega) (fun m A hp z4 hA v0 v34 km kA a19 hs20 hs20b hle => ih (q + 1) (by omega) m A hp _ hA v0 v34 km kA a19 hs20 hs20b hle) 12 1 (by omega) (by omega) m A hp hA v0 v34 km kA a19 hs20 hs20b hle
theorem mv_bd {w : w_T} {pl vl : Nat → Nat} : ∀ q, w_mv w pl vl q ≤ 13 * q := by
  intro q
  induction q with
  | zero => exact Nat.le_refl _
  | succ q ih =>
    have := pb_cnt_le 13 (w_op w pl vl q (c_n (w_c w q) - 1))
    show w_mv w pl vl q + _ ≤ _
    omega
set_option maxRecDepth 10000 in
set_option maxHeartbeats 2000000 in
theorem c_Mo_move (hG : q_GG g) {b hp : List va_E} {m0 : Nat → Int32} {A0 : Nat → Nat → Int32} {w : w_T} {pl vl : Nat → Nat} {k : Nat} (hA : M_A b m0 A0 hp) (hmk : w_mk w) (hW0 : W_M w m0 A0) (hst : st_M w pl vl (A0 19)) (hpl : ∀ q, q < w_p w → pl q < c_n (w_c w q)) (hvl : ∀ v, v < 5 → vl v < w_z w v) (hk : k < w_mv w pl vl (w_p w)) (hk31 : k < 2 ^ 30) : q_C g m_Mo_move true (q_R 2 40 0 0) [.ref 84, .int (nI k)] hp (q_mw b w pl vl k m0 A0) := by
  refine q_C.of hG (by decide) (Nat.le_of_ble_eq_true rfl) ?_
  have hk31 : k < 2 ^ 31 := by omega
  have hmb := mv_bd (w := w) (pl := pl) (vl := vl) (w_p w)
  have hp6 := hmk.1.2.1
  have km : mo_K [0] m0 m0 := mo_K.rfl
  have kA : mo_K [19, 20, 21] A0 A0 := mo_K.rfl
  have a19 : A0 19 = A0 19 := rfl
  refine q_aload_n d_Mo_move_0 rfl rfl ?_
  refine x_callVm d_Mo_move_1 l_Mo_179 i_Mo_fromNow v_Mo_fromNow rfl hA.1 (c_Mo_fromNow hG hA) rfl rfl (Nat.le_of_ble_eq_true rfl) (Nat.le_of_ble_eq_true rfl) (Nat.le_of_ble_eq_true rfl) (Nat.le_of_ble_eq_true rfl) (fun m A hp1 hA hz => ?_)
  obtain ⟨w20, nm, nA⟩ := hz
  have a19 := (nA 19 (by decide)).trans a19
  have km := km.sub nm (by decide)
  have kA := kA.sub nA (by decide)
  refine q_aload_n d_Mo_move_4 rfl rfl ?_
  refine q_iload_n d_Mo_move_5 rfl ?_
  refine q_if_lt (tgt := 17) d_Mo_move_6 (by decide) (fun b6 => ?_) (fun b6 => ?_)
  · skip
    exact absurd b6 (nI_pos hk31)
  · skip
    refine q_iload_n d_Mo_move_9 rfl ?_
    refine q_aload_n d_Mo_move_10 rfl rfl ?_
    refine x_callVm d_Mo_move_11 l_Mo_182 i_Mo_possible v_Mo_possible rfl hA.1 (c_Mo_possible hG hA hmk (hW0.keep km kA (by decide) (by decide)) (by rw [w20]; exact hst.cpy hmk.1) hpl hvl) rfl rfl (Nat.le_of_ble_eq_true rfl) (Nat.le_of_ble_eq_true rfl) (Nat.le_of_ble_eq_true rfl) (Nat.le_of_ble_eq_true rfl) (fun m A hp2 hA hz => ?_)
    obtain ⟨nm, nA⟩ := hz
    have a19 := (nA 19 (by decide)).trans a19
    have km := km.sub nm (by decide)
    have kA := kA.sub nA (by decide)
    have w20 : A 20 = _ := (nA 20 (by decide)).trans w20
    refine q_icmp_lt (tgt := 21) d_Mo_move_14 (by decide) (fun b14 => ?_) (fun b14 => ?_)
    · skip
      refine q_iconst (v := 0) d_Mo_move_21 (by decide) ?_
      refine x_put d_Mo_move_22 f_Mo_90 hA.1 (Nat.le_of_ble_eq_true rfl) rfl rfl (fun hp3 e3 _ => ?_)
      obtain ⟨m, hA, v0, nn⟩ := hA.put (k := 0) (by decide) e3
      have km := km.put nn (by decide)
      refine q_iload_n d_Mo_move_25 rfl ?_
      refine q_istore_n d_Mo_move_26 rfl (by decide) rfl ?_
      refine q_iconst (v := 0) d_Mo_move_27 (by decide) ?_
      refine q_istore_n d_Mo_move_28 rfl (by decide) rfl ?_
      have hs20 : st_M w pl vl (A 20) := by rw [w20]; exact hst.cpy hmk.1
      have hs20b : ∀ i, i < 11 → A 20 i = A0 19 i := fun i hi => by rw [w20, cpy_lt hi]
      exact l_Mo_mvO hG hmk hW0 hst hpl hvl hk31 hk (w_p w) 0 (by omega) m A _ _ hA v0 (km 34 (by decide)) (fun j hj => km j (fun e => hj (by simp only [List.mem_cons, List.not_mem_nil, or_false] at e ⊢; omega))) kA a19 hs20 hs20b (Nat.zero_le _)
    · skip
      exact absurd (nI_lt hk (by omega)) b14
set_option maxRecDepth 10000 in
set_option maxHeartbeats 2000000 in
theorem c_Mo_moveN (hG : q_GG g) {b hp : List va_E} {m : Nat → Int32} {A : Nat → Nat → Int32} {x : Int32} (hA : M_A b m A hp) (hx : x < 0) : q_C g m_Mo_move true (q_R 2 40 0 0) [.ref 84, .int x] hp (q_mo (some (.int 0)) b (fun m' A' => m' 0 = 1 ∧ mo_K [0] m m' ∧ mo_K [20, 21] A A')) := by
  refine q_C.of hG (by decide) (Nat.le_of_ble_eq_true rfl) ?_
  have km : mo_K [0] m m := mo_K.rfl
  have kA : mo_K [20, 21] A A := mo_K.rfl
  refine q_aload_n d_Mo_move_0 rfl rfl ?_
  refine x_callVm d_Mo_move_1 l_Mo_179 i_Mo_fromNow v_Mo_fromNow rfl hA.1 (c_Mo_fromNow hG hA) rfl rfl (Nat.le_of_ble_eq_true rfl) (Nat.le_of_ble_eq_true rfl) (Nat.le_of_ble_eq_true rfl) (Nat.le_of_ble_eq_true rfl) (fun m A hp1 hA hz => ?_)
  obtain ⟨w20, nm, nA⟩ := hz
  have km := km.sub nm (by decide)
  have kA := kA.sub nA (by decide)
  refine q_aload_n d_Mo_move_4 rfl rfl ?_
  refine q_iload_n d_Mo_move_5 rfl ?_
  refine q_if_lt (tgt := 17) d_Mo_move_6 (by decide) (fun b6 => ?_) (fun b6 => ?_)
  · skip
    refine q_iconst (v := 1) d_Mo_move_17 (by decide) ?_
    refine q_goto (tgt := 22) d_Mo_move_18 (by decide) ?_
    refine x_put d_Mo_move_22 f_Mo_90 hA.1 (Nat.le_of_ble_eq_true rfl) rfl rfl (fun hp2 e2 _ => ?_)
    obtain ⟨m, hA, v0, nn⟩ := hA.put (k := 0) (by decide) e2
    have km := km.put nn (by decide)
    refine q_iload_n d_Mo_move_25 rfl ?_
    refine q_istore_n d_Mo_move_26 rfl (by decide) rfl ?_
    refine q_iconst (v := 0) d_Mo_move_27 (by decide) ?_
    refine q_istore_n d_Mo_move_28 rfl (by decide) rfl ?_
    refine q_iload_n d_Mo_move_29 rfl ?_
    refine q_aload_n d_Mo_move_30 rfl rfl ?_
    refine q_get d_Mo_move_31 f_Mo_111 hA.1 rfl ?_
    refine q_icmp_ge (tgt := 131) d_Mo_move_34 (by decide) (fun b34 => ?_) (fun b34 => ?_)
    · skip
      refine q_iconst (v := 0) d_Mo_move_131 (by decide) ?_
      refine q_iret d_Mo_move_132 rfl ?_ (Nat.le_of_ble_eq_true rfl) (Nat.le_of_ble_eq_true rfl) (by decide)
      exact ⟨(_, _, _), rfl, rfl, hA, v0, km, kA⟩
    · skip
      refine q_aload_n d_Mo_move_37 rfl rfl ?_
      refine q_get d_Mo_move_38 f_Mo_90 hA.1 rfl ?_
      rw [v0]
      refine q_if_ne (tgt := 131) d_Mo_move_41 (by decide) (fun b41 => ?_) (fun b41 => ?_)
      · skip
        refine q_iconst (v := 0) d_Mo_move_131 (by decide) ?_
        refine q_iret d_Mo_move_132 rfl ?_ (Nat.le_of_ble_eq_true rfl) (Nat.le_of_ble_eq_true rfl) (by decide)
        exact ⟨(_, _, _), rfl, rfl, hA, v0, km, kA⟩
      · skip
        exact absurd b41 (by decide)
  · skip
    exact absurd hx b6
set_option maxRecDepth 10000 in
set_option maxHeartbeats 2000000 in
theorem c_Mo_moveB (hG : q_GG g) {b hp : List va_E} {m : Nat → Int32} {A : Nat → Nat → Int32} {w : w_T} {pl vl : Nat → Nat} {k : Nat} (hA : M_A b m A hp) (hmk : w_mk w) (hW0 : W_M w m A) (hst : st_M w pl vl (A 19)) (hpl : ∀ q, q < w_p w → pl q < c_n (w_c w q)) (hvl : ∀ v, v < 5 → vl v < w_z w v) (hk : w_mv w pl vl (w_p w) ≤ k) (hk31 : k < 2 ^ 31) : q_C g m_Mo_move true (q_R 2 40 0 0) [.ref 84, .int (nI k)] hp (q_mo (some (.int 0)) b (fun m' A' => m' 0 = 1 ∧ mo_K [0] m m' ∧ mo_K [20, 21] A A')) := by
  refine q_C.of hG (by decide) (Nat.le_of_ble_eq_true rfl) ?_
  have km : mo_K [0] m m := mo_K.rfl
  have kA : mo_K [20, 21] A A := mo_K.rfl
  refine q_aload_n d_Mo_move_0 rfl rfl ?_
  refine x_callVm d_Mo_move_1 l_Mo_179 i_Mo_fromNow v_Mo_fromNow rfl hA.1 (c_Mo_fromNow hG hA) rfl rfl (Nat.le_of_ble_eq_true rfl) (Nat.le_of_ble_eq_true rfl) (Nat.le_of_ble_eq_true rfl) (Nat.le_of_ble_eq_true rfl) (fun m A hp1 hA hz => ?_)
  obtain ⟨w20, nm, nA⟩ := hz
  have km := km.sub nm (by decide)
  have kA := kA.sub nA (by decide)
  refine q_aload_n d_Mo_move_4 rfl rfl ?_
  refine q_iload_n d_Mo_move_5 rfl ?_
  refine q_if_lt (tgt := 17) d_Mo_move_6 (by decide) (fun b6 => ?_) (fun b6 => ?_)
  · skip
    exact absurd b6 (nI_pos hk31)
  · skip
    refine q_iload_n d_Mo_move_9 rfl ?_
    refine q_aload_n d_Mo_move_10 rfl rfl ?_
    refine x_callVm d_Mo_move_11 l_Mo_182 i_Mo_possible v_Mo_possible rfl hA.1 (c_Mo_possible hG hA hmk (hW0.keep km kA (by decide) (by decide)) (by rw [w20]; exact hst.cpy hmk.1) hpl hvl) rfl rfl (Nat.le_of_ble_eq_true rfl) (Nat.le_of_ble_eq_true rfl) (Nat.le_of_ble_eq_true rfl) (Nat.le_of_ble_eq_true rfl) (fun m A hp2 hA hz => ?_)
    obtain ⟨nm, nA⟩ := hz
    have km := km.sub nm (by decide)
    have kA := kA.sub nA (by decide)
    refine q_icmp_lt (tgt := 21) d_Mo_move_14 (by decide) (fun b14 => ?_) (fun b14 => ?_)
    · skip
      exact absurd b14 (nI_nlt hk hk31)
    · skip
      refine q_iconst (v := 1) d_Mo_move_17 (by decide) ?_
      refine q_goto (tgt := 22) d_Mo_move_18 (by decide) ?_
      refine x_put d_Mo_move_22 f_Mo_90 hA.1 (Nat.le_of_ble_eq_true rfl) rfl rfl (fun hp3 e3 _ => ?_)
      obtain ⟨m, hA, v0, nn⟩ := hA.put (k := 0) (by decide) e3
      have km := km.put nn (by decide)
      refine q_iload_n d_Mo_move_25 rfl ?_
      refine q_istore_n d_Mo_move_26 rfl (by decide) rfl ?_
      refine q_iconst (v := 0) d_Mo_move_27 (by decide) ?_
      refine q_istore_n d_Mo_move_28 rfl (by decide) rfl ?_
      refine q_iload_n d_Mo_move_29 rfl ?_
      refine q_aload_n d_Mo_move_30 rfl rfl ?_
      refine q_get d_Mo_move_31 f_Mo_111 hA.1 rfl ?_
      refine q_icmp_ge (tgt := 131) d_Mo_move_34 (by decide) (fun b34 => ?_) (fun b34 => ?_)
      · skip
        refine q_iconst (v := 0) d_Mo_move_131 (by decide) ?_
        refine q_iret d_Mo_move_132 rfl ?_ (Nat.le_of_ble_eq_true rfl) (Nat.le_of_ble_eq_true rfl) (by decide)
        exact ⟨(_, _, _), rfl, rfl, hA, v0, km, kA⟩
      · skip
        refine q_aload_n d_Mo_move_37 rfl rfl ?_
        refine q_get d_Mo_move_38 f_Mo_90 hA.1 rfl ?_
        rw [v0]
        refine q_if_ne (tgt := 131) d_Mo_move_41 (by decide) (fun b41 => ?_) (fun b41 => ?_)
        · skip
          refine q_iconst (v := 0) d_Mo_move_131 (by decide) ?_
          refine q_iret d_Mo_move_132 rfl ?_ (Nat.le_of_ble_eq_true rfl) (Nat.le_of_ble_eq_true rfl) (by decide)
          exact ⟨(_, _, _), rfl, rfl, hA, v0, km, kA⟩
        · skip
          exact absurd b41 (by decide)
end M12
