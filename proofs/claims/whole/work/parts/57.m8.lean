/-! the reference: process -/
section M8
variable {g : q_G}
theorem x_rl_end {n : Nat} {tb : Nat → Nat} {nv : Nat} {z : Nat → Nat} : ∀ (k : Nat) (S : x_S), (¬ x_k S = 0 ∨ n ≤ x_a S + k) → ¬ x_k (x_rl n tb nv z k S) = 0 ∨ n ≤ x_a (x_rl n tb nv z k S) := by
  intro k
  induction k with
  | zero => exact fun S h => h
  | succ k ih =>
    intro S h
    unfold x_rl
    split
    · next q =>
      refine ih _ ?_
      rcases x_rn_a (n := n) (tb := tb) (nv := nv) (z := z) (S := S) with r | r
      · exact Or.inl r
      · right
        rcases h with h | h
        · exact absurd q.2 h
        · omega
    · next q =>
      by_cases h0 : x_k S = 0
      · right
        by_cases h1 : n ≤ x_a S
        · exact h1
        · exact absurd ⟨by omega, h0⟩ q
      · exact Or.inl h0
def cpo (p i : Nat) (s f : Nat → Int32) : Nat → Int32 := fun j => if 13 * p ≤ j ∧ j < 13 * p + i then s (j - 13 * p) else f j
theorem cpo_s {p i : Nat} {s f : Nat → Int32} : upd (cpo p i s f) (13 * p + i) (s i) = cpo p (i + 1) s f := by
  funext j
  unfold upd cpo
  by_cases h : j = 13 * p + i
  · subst h
    rw [if_pos rfl, if_pos (by omega), Nat.add_sub_cancel_left]
  · rw [if_neg h]
    by_cases q : 13 * p ≤ j ∧ j < 13 * p + i
    · rw [if_pos q, if_pos (by omega)]
    · rw [if_neg q, if_neg (by omega)]
theorem cpo_0 {p : Nat} {s f : Nat → Int32} : cpo p 0 s f = f := by
  funext j
  unfold cpo
  rw [if_neg (by omega)]
theorem cpo_in {p k : Nat} {s f : Nat → Int32} (h : k < 13) : cpo p 13 s f (13 * p + k) = s k := by
  unfold cpo
  rw [if_pos (by omega), Nat.add_sub_cancel_left]
theorem cpo_out {p q k : Nat} {s f : Nat → Int32} (h : q < p) (hk : k < 13) : cpo p 13 s f (13 * q + k) = f (13 * q + k) := by
  unfold cpo
  rw [if_neg (by omega)]
/-- a course in the reference's rows -/
def D_M (q : Nat) (C : c_T) (A : Nat → Nat → Int32) : Prop := A 3 q = nI (c_n C) ∧ A 4 q = nI (c_e C) ∧ (∀ k, k < 13 → A 5 (13 * q + k) = nI (if k < c_n C then c_s C k else 0)) ∧ ∀ k, 1 ≤ k → k < c_n C → A 6 (13 * q + k) = nI (k_m (c_k C k)) ∧ A 7 (13 * q + k) = nI (c_v C k) ∧ A 8 (13 * q + k) = nI (c_f C k)
def W_M (w : w_T) (m : Nat → Int32) (A : Nat → Nat → Int32) : Prop := m 5 = nI (w_n w) ∧ m 8 = nI (w_p w) ∧ (∀ v, v < w_n w → A 1 v = nI (w_z w v) ∧ A 2 v = nI (w_f w v)) ∧ ∀ q, q < w_p w → D_M q (w_c w q) A
set_option maxRecDepth 10000 in
set_option maxHeartbeats 2000000 in
theorem c_Mo_fail1 (hG : q_GG g) {b hp : List va_E} {m : Nat → Int32} {A : Nat → Nat → Int32} {x y : Int32} (hA : M_A b m A hp) (h3 : ¬ m 3 = 0) : q_C g m_Mo_fail true (q_R 0 0 0 0) [.ref 84, .int x, .int y] hp (q_mo none b (fun m' A' => mo_K [] m m' ∧ mo_K [] A A')) := by
  refine q_C.of hG (by decide) (Nat.le_of_ble_eq_true rfl) ?_
  refine q_aload_n d_Mo_fail_0 rfl rfl ?_
  refine q_get d_Mo_fail_1 f_Mo_114 hA.1 rfl ?_
  refine q_if_ne (tgt := 17) d_Mo_fail_4 (by decide) (fun b4 => ?_) (fun b4 => ?_)
  · skip
    refine q_vret d_Mo_fail_17 rfl ?_ (Nat.le_of_ble_eq_true rfl) (Nat.le_of_ble_eq_true rfl) (by decide)
    exact ⟨(m, A, _), rfl, rfl, hA, mo_K.rfl, mo_K.rfl⟩
  · skip
    exact absurd b4 h3
set_option maxRecDepth 10000 in
set_option maxHeartbeats 2000000 in
theorem l_Mo_rl (hG : q_GG g) {b : List va_E} {m0 : Nat → Int32} {A0 : Nat → Nat → Int32} {P : Outcome → List va_E → Prop} {n : Nat} {tb : Nat → Nat} {nv : Nat} {z : Nat → Nat} {X : x_S} (hT : m_T n tb) (hnv : nv ≤ 5) (hz5 : ∀ v, v < nv → z v ≤ 5) (hcont : ∀ m A hp, M_A b m A hp → R_M n tb nv z X m A → mo_K [3, 4, 15, 16, 21, 28, 29, 30] m0 m → mo_K [9, 10, 11, 12, 13, 14, 15, 16, 17, 18] A0 A → q_J g m_Mo_process true (q_R 5 150 0 0) P 77 [some (.ref 84), none, none] [] hp 0 0 true) : ∀ (k : Nat) (S : x_S) (m : Nat → Int32) (A : Nat → Nat → Int32) (hp : List va_E), x_rl n tb nv z k S = X → (¬ x_k S = 0 ∨ n ≤ x_a S + k) → x_k S ≤ 3 → M_A b m A hp → R_M n tb nv z S m A → x_ok n S → x_bz S → mo_K [3, 4, 15, 16, 21, 28, 29, 30] m0 m → mo_K [9, 10, 11, 12, 13, 14, 15, 16, 17, 18] A0 A → q_J g m_Mo_process true (q_R 5 150 0 0) P 52 [some (.ref 84), none, none] [] hp 0 0 true := by
  intro k
  induction k with
  | zero =>
    intro S m A hp hX hf hk3 hA hR hok hbz km kA
    have hn1 := hT.1
    have ha1 := hok.2.1
    have v2 := hR.1.1
    have v3 := hR.2.1
    have v15 := hR.2.2.2.1
    refine q_aload_n d_Mo_process_52 rfl rfl ?_
    refine q_get d_Mo_process_53 f_Mo_114 hA.1 rfl ?_
    rw [v3]
    refine q_if_ne (tgt := 77) d_Mo_process_56 (by decide) (fun b56 => ?_) (fun b56 => ?_)
    · skip
      have q3 : ¬ x_k S = 0 := fun q => b56 (by rw [q]; rfl)
      exact hcont _ _ _ hA (hX ▸ hR) km kA
    · skip
      have q3 : x_k S = 0 := m_n0 (by omega) b56
      refine q_aload_n d_Mo_process_59 rfl rfl ?_
      refine q_get d_Mo_process_60 f_Mo_123 hA.1 rfl ?_
      rw [v15]
      refine q_aload_n d_Mo_process_63 rfl rfl ?_
      refine q_get d_Mo_process_64 f_Mo_93 hA.1 rfl ?_
      rw [v2]
      refine q_icmp_ge (tgt := 77) d_Mo_process_67 (by decide) (fun b67 => ?_) (fun b67 => ?_)
      · skip
        exact hcont _ _ _ hA (hX ▸ hR) km kA
      · skip
        rcases hf with hf | hf
        · exact absurd q3 hf
        · exact absurd (nI_le hf (by omega)) b67
  | succ k ih =>
    intro S m A hp hX hf hk3 hA hR hok hbz km kA
    have hn1 := hT.1
    have ha1 := hok.2.1
    have v2 := hR.1.1
    have v3 := hR.2.1
    have v15 := hR.2.2.2.1
    refine q_aload_n d_Mo_process_52 rfl rfl ?_
    refine q_get d_Mo_process_53 f_Mo_114 hA.1 rfl ?_
    rw [v3]
    refine q_if_ne (tgt := 77) d_Mo_process_56 (by decide) (fun b56 => ?_) (fun b56 => ?_)
    · skip
      have q3 : ¬ x_k S = 0 := fun q => b56 (by rw [q]; rfl)
      exact hcont _ _ _ hA (by rw [← hX]; unfold x_rl; rw [if_neg (fun q => q3 q.2)]; exact hR) km kA
    · skip
      have q3 : x_k S = 0 := m_n0 (by omega) b56
      refine q_aload_n d_Mo_process_59 rfl rfl ?_
      refine q_get d_Mo_process_60 f_Mo_123 hA.1 rfl ?_
      rw [v15]
      refine q_aload_n d_Mo_process_63 rfl rfl ?_
      refine q_get d_Mo_process_64 f_Mo_93 hA.1 rfl ?_
      rw [v2]
      refine q_icmp_ge (tgt := 77) d_Mo_process_67 (by decide) (fun b67 => ?_) (fun b67 => ?_)
      · skip
        have q15 : ¬ x_a S < n := fun q => absurd b67 (nI_ge q (by omega))
        exact hcont _ _ _ hA (by rw [← hX]; unfold x_rl; rw [if_neg (fun q => q15 q.1)]; exact hR) km kA
      · skip
        have q15 : x_a S < n := by
          by_cases q : x_a S < n
          · exact q
          · exact absurd (nI_le (by omega) (by omega)) b67
        refine q_aload_n d_Mo_process_70 rfl rfl ?_
        refine x_callVm d_Mo_process_71 l_Mo_165 i_Mo_step v_Mo_step rfl hA.1 (c_Mo_step hG hT hA hR hok q3 (fun hc => hbz.1 _ (Nat.le_refl _) (by omega)) hnv hz5 q15) rfl rfl (Nat.le_of_ble_eq_true rfl) (Nat.le_of_ble_eq_true rfl) (Nat.le_of_ble_eq_true rfl) (Nat.le_of_ble_eq_true rfl) (fun m A hp1 hA hz => ?_)
        obtain ⟨hR2, nm, nA⟩ := hz
        have v2 := (nm 2 (by decide)).trans v2
        have km := km.sub nm (by decide)
        have kA := kA.sub nA (by decide)
        refine q_goto (tgt := 52) d_Mo_process_74 (by decide) ?_
        refine ih _ m A _ (by rw [← hX]; conv => rhs; unfold x_rl
                              rw [if_pos ⟨q15, q3⟩]) ?_ (x_rn_k q3) hA hR2 (hok.rn hnv hz5 q15) hbz.rn km kA
        rcases x_rn_a (n := n) (tb := tb) (nv := nv) (z := z) (S := S) with r | r
        · exact Or.inl r
        · right
          rcases hf with hf | hf
          · exact absurd q3 hf
          · omega
set_option maxRecDepth 10000 in
set_option maxHeartbeats 2000000 in
theorem l_Mo_pr0 (hG : q_GG g) {b hp : List va_E} {m : Nat → Int32} {A : Nat → Nat → Int32} {P : Outcome → List va_E → Prop} {n : Nat} {tb : Nat → Nat} {nv : Nat} {z : Nat → Nat} {S : x_S} {np : Nat} (hR : R_T n tb nv z m A) (hnp : np < 6) (v8 : m 8 = nI np) (hA : M_A b m A hp) (hcont : ∀ m' A' hp', M_A b m' A' hp' → R_M n tb nv z (x_b0 S) m' A' → mo_K [0, 3, 4, 15, 16, 21, 28, 29, 30] m m' → mo_K [9, 10, 11, 12, 13, 14, 15, 16, 17, 18] A A' → m' 0 = 0 → m' 8 = nI np → q_J g m_Mo_process true (q_R 5 150 0 0) P 52 [some (.ref 84), none, none] [] hp' 0 0 true) : q_J g m_Mo_process true (q_R 5 150 0 0) P 0 [some (.ref 84), none, none] [] hp 0 0 true := by
  have v2 := hR.1
  have v5 := hR.2.2.1
  have a0 : A 0 = A 0 := rfl
  have a1 : A 1 = A 1 := rfl
  have a9 : A 9 = A 9 := rfl
  have km : mo_K [0, 3, 4, 15, 16, 21, 28, 29, 30] m m := mo_K.rfl
  have kA : mo_K [9, 10, 11, 12, 13, 14, 15, 16, 17, 18] A A := mo_K.rfl
  refine q_aload_n d_Mo_process_0 rfl rfl ?_
  refine q_iconst (v := 0) d_Mo_process_1 (by decide) ?_
  refine x_put d_Mo_process_2 f_Mo_90 hA.1 (Nat.le_of_ble_eq_true rfl) rfl rfl (fun hp1 e1 _ => ?_)
  obtain ⟨m, hA, v0, nn⟩ := hA.put (k := 0) (by decide) e1
  have v2 := (nn 2 (by decide)).trans v2
  have v5 := (nn 5 (by decide)).trans v5
  have v8 := (nn 8 (by decide)).trans v8
  have km := km.put nn (by decide)
  refine q_aload_n d_Mo_process_5 rfl rfl ?_
  refine q_get d_Mo_process_6 f_Mo_111 hA.1 rfl ?_
  rw [v8]
  refine q_bipush (v := 6) d_Mo_process_9 (by decide) ?_
  refine q_icmp_ne (tgt := 16) d_Mo_process_11 (by decide) (fun b11 => ?_) (fun b11 => ?_)
  · skip
    refine q_aload_n d_Mo_process_16 rfl rfl ?_
    refine q_iconst (v := 0) d_Mo_process_17 (by decide) ?_
    refine x_put d_Mo_process_18 f_Mo_114 hA.1 (Nat.le_of_ble_eq_true rfl) rfl rfl (fun hp2 e2 _ => ?_)
    obtain ⟨m, hA, v3, nn⟩ := hA.put (k := 3) (by decide) e2
    have v0 := (nn 0 (by decide)).trans v0
    have v2 := (nn 2 (by decide)).trans v2
    have v5 := (nn 5 (by decide)).trans v5
    have v8 := (nn 8 (by decide)).trans v8
    have km := km.put nn (by decide)
    refine q_aload_n d_Mo_process_21 rfl rfl ?_
    refine q_iconst (v := (-1)) d_Mo_process_22 (by decide) ?_
    refine x_put d_Mo_process_23 f_Mo_13 hA.1 (Nat.le_of_ble_eq_true rfl) rfl rfl (fun hp3 e3 _ => ?_)
    obtain ⟨m, hA, v4, nn⟩ := hA.put (k := 4) (by decide) e3
    have v0 := (nn 0 (by decide)).trans v0
    have v2 := (nn 2 (by decide)).trans v2
    have v3 := (nn 3 (by decide)).trans v3
    have v5 := (nn 5 (by decide)).trans v5
    have v8 := (nn 8 (by decide)).trans v8
    have km := km.put nn (by decide)
    refine q_aload_n d_Mo_process_26 rfl rfl ?_
    refine q_iconst (v := 0) d_Mo_process_27 (by decide) ?_
    refine x_put d_Mo_process_28 f_Mo_123 hA.1 (Nat.le_of_ble_eq_true rfl) rfl rfl (fun hp4 e4 _ => ?_)
    obtain ⟨m, hA, v15, nn⟩ := hA.put (k := 15) (by decide) e4
    have v0 := (nn 0 (by decide)).trans v0
    have v2 := (nn 2 (by decide)).trans v2
    have v3 := (nn 3 (by decide)).trans v3
    have v4 := (nn 4 (by decide)).trans v4
    have v5 := (nn 5 (by decide)).trans v5
    have v8 := (nn 8 (by decide)).trans v8
    have km := km.put nn (by decide)
    refine q_aload_n d_Mo_process_31 rfl rfl ?_
    refine q_iconst (v := 0) d_Mo_process_32 (by decide) ?_
    refine x_put d_Mo_process_33 f_Mo_143 hA.1 (Nat.le_of_ble_eq_true rfl) rfl rfl (fun hp5 e5 _ => ?_)
    obtain ⟨m, hA, v16, nn⟩ := hA.put (k := 16) (by decide) e5
    have v0 := (nn 0 (by decide)).trans v0
    have v2 := (nn 2 (by decide)).trans v2
    have v3 := (nn 3 (by decide)).trans v3
    have v4 := (nn 4 (by decide)).trans v4
    have v5 := (nn 5 (by decide)).trans v5
    have v8 := (nn 8 (by decide)).trans v8
    have v15 := (nn 15 (by decide)).trans v15
    have km := km.put nn (by decide)
    refine q_aload_n d_Mo_process_36 rfl rfl ?_
    refine q_iconst (v := 0) d_Mo_process_37 (by decide) ?_
    refine x_put d_Mo_process_38 f_Mo_117 hA.1 (Nat.le_of_ble_eq_true rfl) rfl rfl (fun hp6 e6 _ => ?_)
    obtain ⟨m, hA, v21, nn⟩ := hA.put (k := 21) (by decide) e6
    have v0 := (nn 0 (by decide)).trans v0
    have v2 := (nn 2 (by decide)).trans v2
    have v3 := (nn 3 (by decide)).trans v3
    have v4 := (nn 4 (by decide)).trans v4
    have v5 := (nn 5 (by decide)).trans v5
    have v8 := (nn 8 (by decide)).trans v8
    have v15 := (nn 15 (by decide)).trans v15
    have v16 := (nn 16 (by decide)).trans v16
    have km := km.put nn (by decide)
    refine q_aload_n d_Mo_process_41 rfl rfl ?_
    refine q_get d_Mo_process_42 f_Mo_41 hA.1 rfl ?_
    refine q_iconst (v := 0) d_Mo_process_45 (by decide) ?_
    refine q_iconst (v := 0) d_Mo_process_46 (by decide) ?_
    refine x_iast d_Mo_process_47 hA.a9 rfl (vp_in_nI (n := 0) (by decide) (by decide)) (fun hp7 e7 _ => ?_)
    obtain ⟨A, hA, u9, nn⟩ := hA.st9 e7
    rw [a9] at u9
    rw [show (0 : Int32).toNatClampNeg = 0 from rfl] at u9
    have a9 := u9
    have a0 := (nn 0 (by decide)).trans a0
    have a1 := (nn 1 (by decide)).trans a1
    have kA := kA.put nn (by decide)
    refine q_aload_n d_Mo_process_48 rfl rfl ?_
    refine x_callVm d_Mo_process_49 l_Mo_156 i_Mo_beginChoices v_Mo_beginChoices rfl hA.1 (c_Mo_beginChoices hG hA (d := 0) v21 (by decide)) rfl rfl (Nat.le_of_ble_eq_true rfl) (Nat.le_of_ble_eq_true rfl) (Nat.le_of_ble_eq_true rfl) (Nat.le_of_ble_eq_true rfl) (fun m A hp8 hA hz => ?_)
    obtain ⟨w13, w14, w15, w16, w17, w18, nm, nA⟩ := hz
    have v0 := (nm 0 (by decide)).trans v0
    have v2 := (nm 2 (by decide)).trans v2
    have v3 := (nm 3 (by decide)).trans v3
    have v4 := (nm 4 (by decide)).trans v4
    have v5 := (nm 5 (by decide)).trans v5
    have v8 := (nm 8 (by decide)).trans v8
    have v15 := (nm 15 (by decide)).trans v15
    have v16 := (nm 16 (by decide)).trans v16
    have v21 := (nm 21 (by decide)).trans v21
    have a0 := (nA 0 (by decide)).trans a0
    have a1 := (nA 1 (by decide)).trans a1
    have a9 := (nA 9 (by decide)).trans a9
    have km := km.sub nm (by decide)
    have kA := kA.sub nA (by decide)
    refine hcont m A _ hA ?_ km kA v0 v8
    refine ⟨⟨v2, by rw [a0]; exact hR.2.1, v5, by rw [a1]; exact hR.2.2.2⟩, v3, v4, v15, v21, R_P.up (x := (0, 0, 0)) (fun i hi => absurd hi (Nat.not_lt_zero i)) w13 w14 w15, R_P.up (x := (1, 0, 0)) (fun i hi => absurd hi (Nat.not_lt_zero i)) w16 w17 w18, v16, fun k hk => ?_, fun k h1 hk => ?_⟩
    · have hk : k < 1 := hk
      obtain rfl : k = 0 := by omega
      rw [a9]
      exact m_upd
    · have hk : k < 1 := hk
      omega
  · skip
    exact absurd ((nI_eq (b := 6) (by omega) (by decide)).mp b11) (by omega)
set_option maxRecDepth 10000 in
set_option maxHeartbeats 2000000 in
theorem c_Mo_process6 (hG : q_GG g) {b hp : List va_E} {m : Nat → Int32} {A : Nat → Nat → Int32} (hA : M_A b m A hp) (v8 : m 8 = 6) : q_C g m_Mo_process true (q_R 5 150 0 0) [.ref 84] hp (q_mo (some (.int (-1))) b (fun m' A' => m' 0 = 0 ∧ mo_K [0] m m' ∧ mo_K [] A A')) := by
  refine q_C.of hG (by decide) (Nat.le_of_ble_eq_true rfl) ?_
  have km : mo_K [0] m m := mo_K.rfl
  refine q_aload_n d_Mo_process_0 rfl rfl ?_
  refine q_iconst (v := 0) d_Mo_process_1 (by decide) ?_
  refine x_put d_Mo_process_2 f_Mo_90 hA.1 (Nat.le_of_ble_eq_true rfl) rfl rfl (fun hp1 e1 _ => ?_)
  obtain ⟨m, hA, v0, nn⟩ := hA.put (k := 0) (by decide) e1
  have v8 := (nn 8 (by decide)).trans v8
  have km := km.put nn (by decide)
  refine q_aload_n d_Mo_process_5 rfl rfl ?_
  refine q_get d_Mo_process_6 f_Mo_111 hA.1 rfl ?_
  rw [v8]
  refine q_bipush (v := 6) d_Mo_process_9 (by decide) ?_
  refine q_icmp_ne (tgt := 16) d_Mo_process_11 (by decide) (fun b11 => ?_) (fun b11 => ?_)
  · skip
    exact absurd rfl b11
  · skip
    refine q_iconst (v := (-1)) d_Mo_process_14 (by decide) ?_
    refine q_iret d_Mo_process_15 rfl ?_ (Nat.le_of_ble_eq_true rfl) (Nat.le_of_ble_eq_true rfl) (by decide)
    exact ⟨(m, A, _), rfl, rfl, hA, v0, km, mo_K.rfl⟩
theorem m_rl_k {n : Nat} {tb : Nat → Nat} {nv : Nat} {z : Nat → Nat} : ∀ (k : Nat) (S : x_S), x_k S ≤ 3 → x_k (x_rl n tb nv z k S) ≤ 3 := by
  intro k
  induction k with
  | zero => exact fun S h => h
  | succ k ih =>
    intro S h
    unfold x_rl
    split
    · next q => exact ih _ (x_rn_k q.2)
    · exact h
set_option maxRecDepth 10000 in
set_option maxHeartbeats 2000000 in
theorem c_Mo_process0 (hG : q_GG g) {b hp : List va_E} {m : Nat → Int32} {A : Nat → Nat → Int32} {n : Nat} {tb : Nat → Nat} {nv : Nat} {z : Nat → Nat} {S : x_S} {np n0 : Nat} (hT : m_T n tb) (hnv : nv ≤ 5) (hz5 : ∀ v, v < nv → z v ≤ 5) (hok : x_ok n0 S) (hR : R_T n tb nv z m A) (hnp : np < 6) (v8 : m 8 = nI np) (hA : M_A b m A hp) (hk : ¬ x_k (x_ld n tb nv z S) = 0) : q_C g m_Mo_process true (q_R 5 150 0 0) [.ref 84] hp (q_mo (some (.int (-1))) b (fun m' A' => m' 0 = 0 ∧ m' 8 = nI np ∧ m' 3 = nI (x_k (x_ld n tb nv z S)) ∧ m' 4 = x_p (x_ld n tb nv z S) ∧ mo_K [0, 3, 4, 15, 16, 21, 28, 29, 30] m m' ∧ mo_K [9, 10, 11, 12, 13, 14, 15, 16, 17, 18] A A')) := by
  refine q_C.of hG (by decide) (Nat.le_of_ble_eq_true rfl) ?_
  obtain ⟨X, hX⟩ : ∃ X, x_rl n tb nv z 100 (x_b0 S) = X := ⟨_, rfl⟩
  have hokX : x_ok n X := hX ▸ x_ok.rl hnv hz5 100 _ (x_ok.b0 (n0 := n0) hok)
  have hendX : ¬ x_k X = 0 ∨ n ≤ x_a X := hX ▸ x_rl_end 100 _ (Or.inr (by show n ≤ 0 + 100; have := hT.1; omega))
  have hn1 := hT.1
  refine q_wrote ?_
  refine l_Mo_pr0 hG (S := S) hR hnp v8 hA (fun m1 A1 hp1 hA1 hR1 km1 kA1 v01 v81 => ?_)
  refine l_Mo_rl hG hT hnv hz5 (X := X) (m0 := m1) (A0 := A1) (fun m2 A2 hp2 hA2 hR2 km2 kA2 => ?_) 100 (x_b0 S) m1 A1 hp1 hX (Or.inr (by show n ≤ 0 + 100; omega)) (by show 0 ≤ 3; omega) hA1 hR1 (x_ok.b0 (n0 := n0) hok) (x_bz.b0 S) mo_K.rfl mo_K.rfl
  have v0 : m2 0 = 0 := (km2 0 (by decide)).trans v01
  have v8 : m2 8 = nI np := (km2 8 (by decide)).trans v81
  have v2 := hR2.1.1
  have v3 := hR2.2.1
  have v4 := hR2.2.2.1
  have v21 := hR2.2.2.2.2.1
  have hdX := hokX.1
  have km : mo_K [0, 3, 4, 15, 16, 21, 28, 29, 30] m m2 := km1.sub km2 (by decide)
  have kA : mo_K [9, 10, 11, 12, 13, 14, 15, 16, 17, 18] A A2 := kA1.sub kA2 (by decide)
  have hld0 : x_ld n tb nv z S = x_cl1 X := by rw [← hX]; rfl
  have hkX3 : x_k X ≤ 3 := hX ▸ m_rl_k 100 _ (by show 0 ≤ 3; omega)
  have hA := hA2
  by_cases hkX : x_k X = 0
  · have hd0 : 0 < x_d X := by
      by_cases q : 0 < x_d X
      · exact q
      · exfalso
        apply hk
        rw [hld0]
        unfold x_cl1
        rw [if_neg (fun h => q h.2)]
        exact hkX
    have hld : x_ld n tb nv z S = x_mf 1 X := by rw [hld0]; unfold x_cl1; rw [if_pos ⟨hkX, hd0⟩]
    have hxa : x_a X = n := by
      have := hokX.2.1
      rcases hendX with q | q
      · exact absurd hkX q
      · omega
    refine q_aload_n d_Mo_process_77 rfl rfl ?_
    refine q_get d_Mo_process_78 f_Mo_117 hA.1 rfl ?_
    rw [v21]
    refine q_if_le (tgt := 93) d_Mo_process_81 (by decide) (fun b81 => ?_) (fun b81 => ?_)
    · skip
      exact absurd b81 (nI_nle (by omega) (by omega))
    · skip
      refine q_aload_n d_Mo_process_84 rfl rfl ?_
      refine q_iconst (v := 1) d_Mo_process_85 (by decide) ?_
      refine q_aload_n d_Mo_process_86 rfl rfl ?_
      refine q_get d_Mo_process_87 f_Mo_93 hA.1 rfl ?_
      rw [v2]
      refine x_callVm d_Mo_process_90 l_Mo_149 i_Mo_fail v_Mo_fail rfl hA.1 (c_Mo_fail hG hA (by rw [v3, hkX]; rfl)) rfl rfl (Nat.le_of_ble_eq_true rfl) (Nat.le_of_ble_eq_true rfl) (Nat.le_of_ble_eq_true rfl) (Nat.le_of_ble_eq_true rfl) (fun m A hp1 hA hz => ?_)
      obtain ⟨w3, w4, nm, nA⟩ := hz
      have v0 := (nm 0 (by decide)).trans v0
      have v2 := (nm 2 (by decide)).trans v2
      have v8 := (nm 8 (by decide)).trans v8
      have v21 := (nm 21 (by decide)).trans v21
      have km := km.sub nm (by decide)
      have kA := kA.sub nA (by decide)
      have v3 : m 3 = 1 := w3
      refine q_aload_n d_Mo_process_93 rfl rfl ?_
      refine q_get d_Mo_process_94 f_Mo_114 hA.1 rfl ?_
      rw [v3]
      refine q_if_le (tgt := 102) d_Mo_process_97 (by decide) (fun b97 => ?_) (fun b97 => ?_)
      · skip
        exact absurd b97 (by decide)
      · skip
        refine q_iconst (v := (-1)) d_Mo_process_100 (by decide) ?_
        refine q_iret d_Mo_process_101 rfl ?_ (Nat.le_of_ble_eq_true rfl) (Nat.le_of_ble_eq_true rfl) (by decide)
        exact ⟨(_, _, _), rfl, rfl, hA, v0, v8, by rw [hld]; exact v3, by rw [hld]; show m 4 = nI (x_a X); rw [hxa]; exact w4, km, kA⟩
  · have hld : x_ld n tb nv z S = X := by rw [hld0]; unfold x_cl1; rw [if_neg (fun h => hkX h.1)]
    refine q_aload_n d_Mo_process_77 rfl rfl ?_
    refine q_get d_Mo_process_78 f_Mo_117 hA.1 rfl ?_
    rw [v21]
    refine q_if_le (tgt := 93) d_Mo_process_81 (by decide) (fun b81 => ?_) (fun b81 => ?_)
    · skip
      refine q_aload_n d_Mo_process_93 rfl rfl ?_
      refine q_get d_Mo_process_94 f_Mo_114 hA.1 rfl ?_
      rw [v3]
      refine q_if_le (tgt := 102) d_Mo_process_97 (by decide) (fun b97 => ?_) (fun b97 => ?_)
      · skip
        exact absurd b97 (nI_nle (by omega) (by omega))
      · skip
        refine q_iconst (v := (-1)) d_Mo_process_100 (by decide) ?_
        refine q_iret d_Mo_process_101 rfl ?_ (Nat.le_of_ble_eq_true rfl) (Nat.le_of_ble_eq_true rfl) (by decide)
        exact ⟨(_, _, _), rfl, rfl, hA, v0, v8, by rw [hld]; exact v3, by rw [hld]; exact v4, km, kA⟩
    · skip
      refine q_aload_n d_Mo_process_84 rfl rfl ?_
      refine q_iconst (v := 1) d_Mo_process_85 (by decide) ?_
      refine q_aload_n d_Mo_process_86 rfl rfl ?_
      refine q_get d_Mo_process_87 f_Mo_93 hA.1 rfl ?_
      rw [v2]
      refine x_callVm d_Mo_process_90 l_Mo_149 i_Mo_fail v_Mo_fail rfl hA.1 (c_Mo_fail1 hG hA (by rw [v3]; exact fun q => hkX (m_n0 (by omega) q))) rfl rfl (Nat.le_of_ble_eq_true rfl) (Nat.le_of_ble_eq_true rfl) (Nat.le_of_ble_eq_true rfl) (Nat.le_of_ble_eq_true rfl) (fun m A hp1 hA hz => ?_)
      obtain ⟨nm, nA⟩ := hz
      have v0 := (nm 0 (by decide)).trans v0
      have v2 := (nm 2 (by decide)).trans v2
      have v3 := (nm 3 (by decide)).trans v3
      have v4 := (nm 4 (by decide)).trans v4
      have v8 := (nm 8 (by decide)).trans v8
      have v21 := (nm 21 (by decide)).trans v21
      have km := km.sub nm (by decide)
      have kA := kA.sub nA (by decide)
      refine q_aload_n d_Mo_process_93 rfl rfl ?_
      refine q_get d_Mo_process_94 f_Mo_114 hA.1 rfl ?_
      rw [v3]
      refine q_if_le (tgt := 102) d_Mo_process_97 (by decide) (fun b97 => ?_) (fun b97 => ?_)
      · skip
        exact absurd b97 (nI_nle (by omega) (by omega))
      · skip
        refine q_iconst (v := (-1)) d_Mo_process_100 (by decide) ?_
        refine q_iret d_Mo_process_101 rfl ?_ (Nat.le_of_ble_eq_true rfl) (Nat.le_of_ble_eq_true rfl) (by decide)
        exact ⟨(_, _, _), rfl, rfl, hA, v0, v8, by rw [hld]; exact v3, by rw [hld]; exact v4, km, kA⟩
set_option maxRecDepth 10000 in
set_option maxHeartbeats 2000000 in
theorem l_Mo_prc (hG : q_GG g) {b : List va_E} {m0 : Nat → Int32} {A0 : Nat → Nat → Int32} {B5 B6 B7 B8 : Nat → Int32} {nv np c : Nat} {v3v v4v : Int32} (hnv : nv ≤ 5) (hnp : np < 6) (hc1 : 1 ≤ c) (hc : c ≤ 13) (v0 : m0 0 = 0) (v3 : m0 3 = v3v) (v4 : m0 4 = v4v) (v5 : m0 5 = nI nv) (v8 : m0 8 = nI np) (v16 : m0 16 = nI (c - 1)) : ∀ (k i : Nat), i + k = 13 → ∀ (A : Nat → Nat → Int32) (hp : List va_E), M_A b m0 A hp → A 2 = A0 2 → A 3 = A0 3 → A 4 = A0 4 → A 5 = cpo np i (fun k => if k < c then A0 9 k else 0) B5 → A 6 = cpo np i (A0 10) B6 → A 7 = cpo np i (A0 11) B7 → A 8 = cpo np i (A0 12) B8 → A 9 = A0 9 → A 10 = A0 10 → A 11 = A0 11 → A 12 = A0 12 → A 19 = A0 19 → mo_K [5, 6, 7, 8, 19] A0 A → q_J g m_Mo_process true (q_R 5 150 0 0) (q_mo (some (.int (nI np))) b (fun m' A' => m' 0 = 0 ∧ m' 8 = nI (np + 1) ∧ m' 3 = v3v ∧ m' 4 = v4v ∧ m' 37 = 0 ∧ m' 34 = 0 ∧ A' 3 = A0 3 ∧ A' 4 = A0 4 ∧ A' 5 = cpo np 13 (fun k => if k < c then A0 9 k else 0) B5 ∧ A' 6 = cpo np 13 (A0 10) B6 ∧ A' 7 = cpo np 13 (A0 11) B7 ∧ A' 8 = cpo np 13 (A0 12) B8 ∧ A' 19 = bg2 nv 5 (A0 2) (bg1 6 (A0 19)) ∧ mo_K [8, 34, 37] m0 m' ∧ mo_K [5, 6, 7, 8, 19] A0 A')) 169 [some (.ref 84), some (.int (nI np)), some (.int (nI i))] [] hp 0 0 true := by
  intro k
  induction k with
  | zero =>
    intro i hi A hp hA a2 a3 a4 a5 a6 a7 a8 a9 a10 a11 a12 a19 kA
    obtain rfl : i = 13 := by omega
    have km : mo_K [8, 34, 37] m0 m0 := mo_K.rfl
    refine q_iload_n d_Mo_process_169 rfl ?_
    refine q_bipush (v := 13) d_Mo_process_170 (by decide) ?_
    refine q_icmp_ge (tgt := 261) d_Mo_process_172 (by decide) (fun b172 => ?_) (fun b172 => ?_)
    · skip
      refine q_aload_n d_Mo_process_261 rfl rfl ?_
      refine q_dup d_Mo_process_262 rfl ?_
      refine q_get d_Mo_process_263 f_Mo_111 hA.1 rfl ?_
      rw [v8]
      refine q_iconst (v := 1) d_Mo_process_266 (by decide) ?_
      refine q_iadd d_Mo_process_267 ?_
      refine x_put d_Mo_process_268 f_Mo_111 hA.1 (Nat.le_of_ble_eq_true rfl) rfl rfl (fun hp1 e1 _ => ?_)
      obtain ⟨m, hA, v8, nn⟩ := hA.put (k := 8) (by decide) e1
      rw [nI_1] at v8
      have v0 := (nn 0 (by decide)).trans v0
      have v3 := (nn 3 (by decide)).trans v3
      have v4 := (nn 4 (by decide)).trans v4
      have v5 := (nn 5 (by decide)).trans v5
      have v16 := (nn 16 (by decide)).trans v16
      have km := km.put nn (by decide)
      refine q_aload_n d_Mo_process_271 rfl rfl ?_
      refine x_callVm d_Mo_process_272 l_Mo_108 i_Mo_begin v_Mo_begin rfl hA.1 (c_Mo_begin hG hA hnv v5) rfl rfl (Nat.le_of_ble_eq_true rfl) (Nat.le_of_ble_eq_true rfl) (Nat.le_of_ble_eq_true rfl) (Nat.le_of_ble_eq_true rfl) (fun m A hp2 hA hz => ?_)
      obtain ⟨w37, w34, w19, nm, nA⟩ := hz
      rw [a2, a19] at w19
      have v0 := (nm 0 (by decide)).trans v0
      have v3 := (nm 3 (by decide)).trans v3
      have v4 := (nm 4 (by decide)).trans v4
      have v5 := (nm 5 (by decide)).trans v5
      have v8 := (nm 8 (by decide)).trans v8
      have v16 := (nm 16 (by decide)).trans v16
      have a2 := (nA 2 (by decide)).trans a2
      have a3 := (nA 3 (by decide)).trans a3
      have a4 := (nA 4 (by decide)).trans a4
      have a5 := (nA 5 (by decide)).trans a5
      have a6 := (nA 6 (by decide)).trans a6
      have a7 := (nA 7 (by decide)).trans a7
      have a8 := (nA 8 (by decide)).trans a8
      have a9 := (nA 9 (by decide)).trans a9
      have a10 := (nA 10 (by decide)).trans a10
      have a11 := (nA 11 (by decide)).trans a11
      have a12 := (nA 12 (by decide)).trans a12
      have km := km.sub nm (by decide)
      have kA := kA.sub nA (by decide)
      refine q_iload_n d_Mo_process_275 rfl ?_
      refine q_iret d_Mo_process_276 rfl ?_ (Nat.le_of_ble_eq_true rfl) (Nat.le_of_ble_eq_true rfl) (by decide)
      exact ⟨(_, _, _), rfl, rfl, hA, v0, v8, v3, v4, w37, w34, a3, a4, a5, a6, a7, a8, w19, km, kA⟩
    · skip
      exact absurd (show (13 : Int32) ≤ nI 13 by decide) b172
  | succ k ih =>
    intro i hi A hp hA a2 a3 a4 a5 a6 a7 a8 a9 a10 a11 a12 a19 kA
    have hin : vp_in (nI i) 13 := vp_in_nI (by omega) (by decide)
    have hin78 : vp_in (nI (13 * np + i)) 78 := vp_in_nI (by omega) (by decide)
    have hcl : (nI i).toNatClampNeg = i := nI_clamp (by omega)
    have hcl2 : (nI (13 * np + i)).toNatClampNeg = 13 * np + i := nI_clamp (by omega)
    refine q_iload_n d_Mo_process_169 rfl ?_
    refine q_bipush (v := 13) d_Mo_process_170 (by decide) ?_
    refine q_icmp_ge (tgt := 261) d_Mo_process_172 (by decide) (fun b172 => ?_) (fun b172 => ?_)
    · skip
      exact absurd b172 (nI_ge (show i < 13 by omega) (by decide))
    · skip
      refine q_aload_n d_Mo_process_175 rfl rfl ?_
      refine q_get d_Mo_process_176 f_Mo_29 hA.1 rfl ?_
      refine q_bipush (v := 13) d_Mo_process_179 (by decide) ?_
      refine q_iload_n d_Mo_process_181 rfl ?_
      refine q_imul d_Mo_process_182 ?_
      rw [show (13 : Int32) = nI 13 from rfl, pk_mul]
      refine q_iload_n d_Mo_process_183 rfl ?_
      refine q_iadd d_Mo_process_184 ?_
      rw [nI_add]
      refine q_join (pc' := 203) (st' := [.int (nI (13 * np + i)), .ref 90]) ((fun k => if k < c then A0 9 k else 0) i) (fun x203 hx203 => ?_) (fun J203 => ?_)
      · subst hx203
        refine x_iast d_Mo_process_203 hA.a5 rfl hin78 (fun hp1 e1 _ => ?_)
        obtain ⟨A, hA, u5, nn⟩ := hA.st5 e1
        rw [a5] at u5
        rw [hcl2, cpo_s (s := fun k => if k < c then A0 9 k else 0)] at u5
        have a5 := u5
        have a2 := (nn 2 (by decide)).trans a2
        have a3 := (nn 3 (by decide)).trans a3
        have a4 := (nn 4 (by decide)).trans a4
        have a6 := (nn 6 (by decide)).trans a6
        have a7 := (nn 7 (by decide)).trans a7
        have a8 := (nn 8 (by decide)).trans a8
        have a9 := (nn 9 (by decide)).trans a9
        have a10 := (nn 10 (by decide)).trans a10
        have a11 := (nn 11 (by decide)).trans a11
        have a12 := (nn 12 (by decide)).trans a12
        have a19 := (nn 19 (by decide)).trans a19
        have kA := kA.put nn (by decide)
        refine q_aload_n d_Mo_process_204 rfl rfl ?_
        refine q_get d_Mo_process_205 f_Mo_32 hA.1 rfl ?_
        refine q_bipush (v := 13) d_Mo_process_208 (by decide) ?_
        refine q_iload_n d_Mo_process_210 rfl ?_
        refine q_imul d_Mo_process_211 ?_
        rw [show (13 : Int32) = nI 13 from rfl, pk_mul]
        refine q_iload_n d_Mo_process_212 rfl ?_
        refine q_iadd d_Mo_process_213 ?_
        rw [nI_add]
        refine q_aload_n d_Mo_process_214 rfl rfl ?_
        refine q_get d_Mo_process_215 f_Mo_44 hA.1 rfl ?_
        refine q_iload_n d_Mo_process_218 rfl ?_
        refine q_iald d_Mo_process_219 hA.a10 rfl (by assumption) ?_
        rw [a10]
        rw [hcl]
        refine x_iast d_Mo_process_220 hA.a6 rfl hin78 (fun hp2 e2 _ => ?_)
        obtain ⟨A, hA, u6, nn⟩ := hA.st6 e2
        rw [a6] at u6
        rw [hcl2, cpo_s] at u6
        have a6 := u6
        have a2 := (nn 2 (by decide)).trans a2
        have a3 := (nn 3 (by decide)).trans a3
        have a4 := (nn 4 (by decide)).trans a4
        have a5 := (nn 5 (by decide)).trans a5
        have a7 := (nn 7 (by decide)).trans a7
        have a8 := (nn 8 (by decide)).trans a8
        have a9 := (nn 9 (by decide)).trans a9
        have a10 := (nn 10 (by decide)).trans a10
        have a11 := (nn 11 (by decide)).trans a11
        have a12 := (nn 12 (by decide)).trans a12
        have a19 := (nn 19 (by decide)).trans a19
        have kA := kA.put nn (by decide)
        refine q_aload_n d_Mo_process_221 rfl rfl ?_
        refine q_get d_Mo_process_222 f_Mo_35 hA.1 rfl ?_
        refine q_bipush (v := 13) d_Mo_process_225 (by decide) ?_
        refine q_iload_n d_Mo_process_227 rfl ?_
        refine q_imul d_Mo_process_228 ?_
        rw [show (13 : Int32) = nI 13 from rfl, pk_mul]
        refine q_iload_n d_Mo_process_229 rfl ?_
        refine q_iadd d_Mo_process_230 ?_
        rw [nI_add]
        refine q_aload_n d_Mo_process_231 rfl rfl ?_
        refine q_get d_Mo_process_232 f_Mo_47 hA.1 rfl ?_
        refine q_iload_n d_Mo_process_235 rfl ?_
        refine q_iald d_Mo_process_236 hA.a11 rfl (by assumption) ?_
        rw [a11]
        rw [hcl]
        refine x_iast d_Mo_process_237 hA.a7 rfl hin78 (fun hp3 e3 _ => ?_)
        obtain ⟨A, hA, u7, nn⟩ := hA.st7 e3
        rw [a7] at u7
        rw [hcl2, cpo_s] at u7
        have a7 := u7
        have a2 := (nn 2 (by decide)).trans a2
        have a3 := (nn 3 (by decide)).trans a3
        have a4 := (nn 4 (by decide)).trans a4
        have a5 := (nn 5 (by decide)).trans a5
        have a6 := (nn 6 (by decide)).trans a6
        have a8 := (nn 8 (by decide)).trans a8
        have a9 := (nn 9 (by decide)).trans a9
        have a10 := (nn 10 (by decide)).trans a10
        have a11 := (nn 11 (by decide)).trans a11
        have a12 := (nn 12 (by decide)).trans a12
        have a19 := (nn 19 (by decide)).trans a19
        have kA := kA.put nn (by decide)
        refine q_aload_n d_Mo_process_238 rfl rfl ?_
        refine q_get d_Mo_process_239 f_Mo_38 hA.1 rfl ?_
        refine q_bipush (v := 13) d_Mo_process_242 (by decide) ?_
        refine q_iload_n d_Mo_process_244 rfl ?_
        refine q_imul d_Mo_process_245 ?_
        rw [show (13 : Int32) = nI 13 from rfl, pk_mul]
        refine q_iload_n d_Mo_process_246 rfl ?_
        refine q_iadd d_Mo_process_247 ?_
        rw [nI_add]
        refine q_aload_n d_Mo_process_248 rfl rfl ?_
        refine q_get d_Mo_process_249 f_Mo_50 hA.1 rfl ?_
        refine q_iload_n d_Mo_process_252 rfl ?_
        refine q_iald d_Mo_process_253 hA.a12 rfl (by assumption) ?_
        rw [a12]
        rw [hcl]
        refine x_iast d_Mo_process_254 hA.a8 rfl hin78 (fun hp4 e4 _ => ?_)
        obtain ⟨A, hA, u8, nn⟩ := hA.st8 e4
        rw [a8] at u8
        rw [hcl2, cpo_s] at u8
        have a8 := u8
        have a2 := (nn 2 (by decide)).trans a2
        have a3 := (nn 3 (by decide)).trans a3
        have a4 := (nn 4 (by decide)).trans a4
        have a5 := (nn 5 (by decide)).trans a5
        have a6 := (nn 6 (by decide)).trans a6
        have a7 := (nn 7 (by decide)).trans a7
        have a9 := (nn 9 (by decide)).trans a9
        have a10 := (nn 10 (by decide)).trans a10
        have a11 := (nn 11 (by decide)).trans a11
        have a12 := (nn 12 (by decide)).trans a12
        have a19 := (nn 19 (by decide)).trans a19
        have kA := kA.put nn (by decide)
        refine q_iinc d_Mo_process_255 rfl (show _ + Int32.ofInt 1 = _ + 1 from rfl) (by decide) rfl ?_
        refine q_goto (tgt := 169) d_Mo_process_258 (by decide) ?_
        rw [nI_1]
        exact ih (i + 1) (by omega) A _ hA a2 a3 a4 a5 a6 a7 a8 a9 a10 a11 a12 a19 kA
      · skip
        refine q_iload_n d_Mo_process_185 rfl ?_
        refine q_aload_n d_Mo_process_186 rfl rfl ?_
        refine q_get d_Mo_process_187 f_Mo_143 hA.1 rfl ?_
        rw [v16]
        refine q_icmp_gt (tgt := 202) d_Mo_process_190 (by decide) (fun b190 => ?_) (fun b190 => ?_)
        · skip
          have q : ¬ i < c := fun q => absurd b190 (nI_nlt (show i ≤ c - 1 by omega) (by omega))
          refine q_iconst (v := 0) d_Mo_process_202 (by decide) ?_
          exact J203 _ (by first | exact (if_pos q).symm | exact (if_neg q).symm)
        · skip
          have q : i < c := by
            by_cases q : i < c
            · exact q
            · exact absurd (nI_lt (show c - 1 < i by omega) (by omega)) b190
          refine q_aload_n d_Mo_process_193 rfl rfl ?_
          refine q_get d_Mo_process_194 f_Mo_41 hA.1 rfl ?_
          refine q_iload_n d_Mo_process_197 rfl ?_
          refine q_iald d_Mo_process_198 hA.a9 rfl (by assumption) ?_
          rw [a9]
          rw [hcl]
          refine q_goto (tgt := 203) d_Mo_process_199 (by decide) ?_
          exact J203 _ (by first | exact (if_pos q).symm | exact (if_neg q).symm)
set_option maxRecDepth 10000 in
set_option maxHeartbeats 2000000 in
theorem c_Mo_process1 (hG : q_GG g) {b hp : List va_E} {m : Nat → Int32} {A : Nat → Nat → Int32} {n : Nat} {tb : Nat → Nat} {nv : Nat} {z : Nat → Nat} {S : x_S} {np n0 : Nat} (hT : m_T n tb) (hnv : nv ≤ 5) (hz5 : ∀ v, v < nv → z v ≤ 5) (hok : x_ok n0 S) (hR : R_T n tb nv z m A) (hnp : np < 6) (v8 : m 8 = nI np) (hA : M_A b m A hp) (hk : x_k (x_ld n tb nv z S) = 0) : q_C g m_Mo_process true (q_R 5 150 0 0) [.ref 84] hp (q_mo (some (.int (nI np))) b (fun m' A' => m' 0 = 0 ∧ m' 8 = nI (np + 1) ∧ m' 3 = nI (x_k (x_rd n tb nv z S)) ∧ m' 4 = x_p (x_rd n tb nv z S) ∧ m' 37 = 0 ∧ m' 34 = 0 ∧ D_M np (x_C (x_rd n tb nv z S)) A' ∧ (∀ q C, q < np → c_n C ≤ 13 → D_M q C A → D_M q C A') ∧ A' 19 = bg2 nv 5 (A 2) (bg1 6 (A 19)) ∧ mo_K [0, 3, 4, 8, 15, 16, 21, 28, 29, 30, 34, 37] m m' ∧ mo_K [3, 4, 5, 6, 7, 8, 9, 10, 11, 12, 13, 14, 15, 16, 17, 18, 19] A A')) := by
  refine q_C.of hG (by decide) (Nat.le_of_ble_eq_true rfl) ?_
  obtain ⟨X, hX⟩ : ∃ X, x_rl n tb nv z 100 (x_b0 S) = X := ⟨_, rfl⟩
  have hokX : x_ok n X := hX ▸ x_ok.rl hnv hz5 100 _ (x_ok.b0 (n0 := n0) hok)
  have hendX : ¬ x_k X = 0 ∨ n ≤ x_a X := hX ▸ x_rl_end 100 _ (Or.inr (by show n ≤ 0 + 100; have := hT.1; omega))
  have hn1 := hT.1
  refine q_wrote ?_
  refine l_Mo_pr0 hG (S := S) hR hnp v8 hA (fun m1 A1 hp1 hA1 hR1 km1 kA1 v01 v81 => ?_)
  refine l_Mo_rl hG hT hnv hz5 (X := X) (m0 := m1) (A0 := A1) (fun m2 A2 hp2 hA2 hR2 km2 kA2 => ?_) 100 (x_b0 S) m1 A1 hp1 hX (Or.inr (by show n ≤ 0 + 100; omega)) (by show 0 ≤ 3; omega) hA1 hR1 (x_ok.b0 (n0 := n0) hok) (x_bz.b0 S) mo_K.rfl mo_K.rfl
  have v0 : m2 0 = 0 := (km2 0 (by decide)).trans v01
  have v8 : m2 8 = nI np := (km2 8 (by decide)).trans v81
  have v2 := hR2.1.1
  have v3 := hR2.2.1
  have v4 := hR2.2.2.1
  have v21 := hR2.2.2.2.2.1
  have hdX := hokX.1
  have km : mo_K [0, 3, 4, 15, 16, 21, 28, 29, 30] m m2 := km1.sub km2 (by decide)
  have kA : mo_K [9, 10, 11, 12, 13, 14, 15, 16, 17, 18] A A2 := kA1.sub kA2 (by decide)
  have hld0 : x_ld n tb nv z S = x_cl1 X := by rw [← hX]; rfl
  have hkX : x_k X = 0 := by
    rw [hld0] at hk
    unfold x_cl1 at hk
    split at hk
    · exact absurd hk (by show ¬ 1 = 0; decide)
    · exact hk
  have hd0 : x_d X = 0 := by
    by_cases q : 0 < x_d X
    · rw [hld0] at hk
      unfold x_cl1 at hk
      rw [if_pos ⟨hkX, q⟩] at hk
      exact absurd hk (by show ¬ 1 = 0; decide)
    · omega
  have hrd : x_rd n tb nv z S = x_fi (x_ec X) := by
    have e : x_ld n tb nv z S = X := by rw [hld0]; unfold x_cl1; rw [if_neg (by omega)]
    unfold x_rd
    rw [e, if_pos hkX]
  have hT0 : x_ch (x_ec X) (x_d (x_ec X)) = p_or (x_ch X 0) (x_rw X 0) := by
    show va_up (x_ch X) (x_d X) (p_or (x_ch X (x_d X)) (x_rw X (x_d X))) (x_d X) = _
    rw [va_up_self, hd0]
  have hC1 : (x_ch (x_ec X) (x_d (x_ec X))).2.1 = (x_ch X 0).2.1 ||| (x_rw X 0).2.1 := by rw [hT0]; rfl
  have hC2 : c_e (x_C (x_fi (x_ec X))) = ((x_ch X 0).2.2 ||| (x_rw X 0).2.2) ||| ((x_ch X 0).1 ||| (x_rw X 0).1) := by
    show (x_ch (x_ec X) (x_d (x_ec X))).2.2 ||| (x_ch (x_ec X) (x_d (x_ec X))).1 = _
    rw [hT0]
    rfl
  have v21 : m2 21 = nI 0 := by rw [v21, hd0]
  have v3 : m2 3 = nI 0 := by rw [v3, hkX]
  have v5 := hR2.1.2.2.1
  have v16 := hR2.2.2.2.2.2.2.2.1
  obtain ⟨g13, g14, g15⟩ := hR2.2.2.2.2.2.1 0 (Nat.zero_le _)
  obtain ⟨g16, g17, g18⟩ := hR2.2.2.2.2.2.2.1 0 (Nat.zero_le _)
  have p1 := (hokX.2.2.1 0 (by decide)).1.1
  have p2 := (hokX.2.2.1 0 (by decide)).2.1
  have p3 : (x_ch X 0).1 ||| (x_rw X 0).1 < 2 := Nat.or_lt_two_pow (n := 1) p1 p2
  have hc1 := hokX.2.2.2.2.1
  have hc13 := hokX.2.2.2.2.2.1
  have hz14 : vp_in 0 14 := vp_in_nI (n := 0) (by decide) (by decide)
  have hz13 : vp_in 0 13 := vp_in_nI (n := 0) (by decide) (by decide)
  have hin6 : vp_in (nI np) 6 := vp_in_nI hnp (by decide)
  have hclp : (nI np).toNatClampNeg = np := nI_clamp (by omega)
  have kA0 := kA
  have kmF : ∀ {m9 : Nat → Int32}, mo_K [0, 3, 4, 8, 15, 16, 21, 28, 29, 30, 34, 37] m m9 → mo_K [0, 3, 4, 8, 15, 16, 21, 28, 29, 30, 34, 37] m m9 := fun h => h
  have kAF : ∀ {A9 : Nat → Nat → Int32}, mo_K [3, 4, 5, 6, 7, 8, 9, 10, 11, 12, 13, 14, 15, 16, 17, 18, 19] A A9 → mo_K [3, 4, 5, 6, 7, 8, 9, 10, 11, 12, 13, 14, 15, 16, 17, 18, 19] A A9 := fun h => h
  have km : mo_K [0, 3, 4, 8, 15, 16, 21, 28, 29, 30, 34, 37] m m2 := fun j hj => km j (fun e => hj (by simp only [List.mem_cons, List.not_mem_nil, or_false] at e ⊢; omega))
  have kA : mo_K [3, 4, 5, 6, 7, 8, 9, 10, 11, 12, 13, 14, 15, 16, 17, 18, 19] A A2 := fun j hj => kA j (fun e => hj (by simp only [List.mem_cons, List.not_mem_nil, or_false] at e ⊢; omega))
  have hA := hA2
  have a2 : A2 2 = A2 2 := rfl
  have a3 : A2 3 = A2 3 := rfl
  have a4 : A2 4 = A2 4 := rfl
  have a5 : A2 5 = A2 5 := rfl
  have a6 : A2 6 = A2 6 := rfl
  have a7 : A2 7 = A2 7 := rfl
  have a8 : A2 8 = A2 8 := rfl
  have a9 : A2 9 = A2 9 := rfl
  have a10 : A2 10 = A2 10 := rfl
  have a11 : A2 11 = A2 11 := rfl
  have a12 : A2 12 = A2 12 := rfl
  have a13 : A2 13 = A2 13 := rfl
  have a14 : A2 14 = A2 14 := rfl
  have a15 : A2 15 = A2 15 := rfl
  have a16 : A2 16 = A2 16 := rfl
  have a17 : A2 17 = A2 17 := rfl
  have a18 : A2 18 = A2 18 := rfl
  have a19 : A2 19 = A2 19 := rfl
  refine q_aload_n d_Mo_process_77 rfl rfl ?_
  refine q_get d_Mo_process_78 f_Mo_117 hA.1 rfl ?_
  rw [v21]
  refine q_if_le (tgt := 93) d_Mo_process_81 (by decide) (fun b81 => ?_) (fun b81 => ?_)
  · skip
    refine q_aload_n d_Mo_process_93 rfl rfl ?_
    refine q_get d_Mo_process_94 f_Mo_114 hA.1 rfl ?_
    rw [v3]
    refine q_if_le (tgt := 102) d_Mo_process_97 (by decide) (fun b97 => ?_) (fun b97 => ?_)
    · skip
      refine q_aload_n d_Mo_process_102 rfl rfl ?_
      refine x_callVm d_Mo_process_103 l_Mo_159 i_Mo_endRow v_Mo_endRow rfl hA.1 (c_Mo_endRow hG hA (d := 0) v21 (by decide)) rfl rfl (Nat.le_of_ble_eq_true rfl) (Nat.le_of_ble_eq_true rfl) (Nat.le_of_ble_eq_true rfl) (Nat.le_of_ble_eq_true rfl) (fun m A hp1 hA hz => ?_)
      obtain ⟨w13, w14, w15, nm, nA⟩ := hz
      rw [a13, a16, g13, g16, m_or1 p1 p2] at w13
      rw [a14, a17, g14, g17, tb_or] at w14
      rw [a15, a18, g15, g18, tb_or] at w15
      have v0 := (nm 0 (by decide)).trans v0
      have v3 := (nm 3 (by decide)).trans v3
      have v4 := (nm 4 (by decide)).trans v4
      have v5 := (nm 5 (by decide)).trans v5
      have v8 := (nm 8 (by decide)).trans v8
      have v16 := (nm 16 (by decide)).trans v16
      have v21 := (nm 21 (by decide)).trans v21
      have a2 := (nA 2 (by decide)).trans a2
      have a3 := (nA 3 (by decide)).trans a3
      have a4 := (nA 4 (by decide)).trans a4
      have a5 := (nA 5 (by decide)).trans a5
      have a6 := (nA 6 (by decide)).trans a6
      have a7 := (nA 7 (by decide)).trans a7
      have a8 := (nA 8 (by decide)).trans a8
      have a9 := (nA 9 (by decide)).trans a9
      have a10 := (nA 10 (by decide)).trans a10
      have a11 := (nA 11 (by decide)).trans a11
      have a12 := (nA 12 (by decide)).trans a12
      have a16 := (nA 16 (by decide)).trans a16
      have a17 := (nA 17 (by decide)).trans a17
      have a18 := (nA 18 (by decide)).trans a18
      have a19 := (nA 19 (by decide)).trans a19
      have km := km.sub nm (by decide)
      have kA := kA.sub nA (by decide)
      have a13 := w13
      have a14 := w14
      have a15 := w15
      refine q_aload_n d_Mo_process_106 rfl rfl ?_
      refine q_get d_Mo_process_107 f_Mo_41 hA.1 rfl ?_
      refine q_iconst (v := 0) d_Mo_process_110 (by decide) ?_
      refine q_aload_n d_Mo_process_111 rfl rfl ?_
      refine q_get d_Mo_process_112 f_Mo_57 hA.1 rfl ?_
      refine q_iconst (v := 0) d_Mo_process_115 (by decide) ?_
      refine q_iald d_Mo_process_116 hA.a14 rfl hz14 ?_
      rw [a14]
      rw [show (0 : Int32).toNatClampNeg = 0 from rfl, m_upd]
      refine x_iast d_Mo_process_117 hA.a9 rfl hz13 (fun hp2 e2 _ => ?_)
      obtain ⟨A, hA, u9, nn⟩ := hA.st9 e2
      rw [a9] at u9
      rw [show (0 : Int32).toNatClampNeg = 0 from rfl] at u9
      have a9 := u9
      have a2 := (nn 2 (by decide)).trans a2
      have a3 := (nn 3 (by decide)).trans a3
      have a4 := (nn 4 (by decide)).trans a4
      have a5 := (nn 5 (by decide)).trans a5
      have a6 := (nn 6 (by decide)).trans a6
      have a7 := (nn 7 (by decide)).trans a7
      have a8 := (nn 8 (by decide)).trans a8
      have a10 := (nn 10 (by decide)).trans a10
      have a11 := (nn 11 (by decide)).trans a11
      have a12 := (nn 12 (by decide)).trans a12
      have a13 := (nn 13 (by decide)).trans a13
      have a14 := (nn 14 (by decide)).trans a14
      have a15 := (nn 15 (by decide)).trans a15
      have a16 := (nn 16 (by decide)).trans a16
      have a17 := (nn 17 (by decide)).trans a17
      have a18 := (nn 18 (by decide)).trans a18
      have a19 := (nn 19 (by decide)).trans a19
      have kA := kA.put nn (by decide)
      refine q_aload_n d_Mo_process_118 rfl rfl ?_
      refine q_get d_Mo_process_119 f_Mo_111 hA.1 rfl ?_
      rw [v8]
      refine q_istore_n d_Mo_process_122 rfl (by decide) rfl ?_
      refine q_aload_n d_Mo_process_123 rfl rfl ?_
      refine q_get d_Mo_process_124 f_Mo_23 hA.1 rfl ?_
      refine q_iload_n d_Mo_process_127 rfl ?_
      refine q_aload_n d_Mo_process_128 rfl rfl ?_
      refine q_get d_Mo_process_129 f_Mo_143 hA.1 rfl ?_
      rw [v16]
      refine q_iconst (v := 1) d_Mo_process_132 (by decide) ?_
      refine q_iadd d_Mo_process_133 ?_
      rw [nI_1, show c_n (x_C X) - 1 + 1 = c_n (x_C X) by omega]
      refine x_iast d_Mo_process_134 hA.a3 rfl hin6 (fun hp3 e3 _ => ?_)
      obtain ⟨A, hA, u3, nn⟩ := hA.st3 e3
      rw [a3] at u3
      rw [hclp] at u3
      have a3 := u3
      have a2 := (nn 2 (by decide)).trans a2
      have a4 := (nn 4 (by decide)).trans a4
      have a5 := (nn 5 (by decide)).trans a5
      have a6 := (nn 6 (by decide)).trans a6
      have a7 := (nn 7 (by decide)).trans a7
      have a8 := (nn 8 (by decide)).trans a8
      have a9 := (nn 9 (by decide)).trans a9
      have a10 := (nn 10 (by decide)).trans a10
      have a11 := (nn 11 (by decide)).trans a11
      have a12 := (nn 12 (by decide)).trans a12
      have a13 := (nn 13 (by decide)).trans a13
      have a14 := (nn 14 (by decide)).trans a14
      have a15 := (nn 15 (by decide)).trans a15
      have a16 := (nn 16 (by decide)).trans a16
      have a17 := (nn 17 (by decide)).trans a17
      have a18 := (nn 18 (by decide)).trans a18
      have a19 := (nn 19 (by decide)).trans a19
      have kA := kA.put nn (by decide)
      refine q_aload_n d_Mo_process_135 rfl rfl ?_
      refine q_get d_Mo_process_136 f_Mo_26 hA.1 rfl ?_
      refine q_iload_n d_Mo_process_139 rfl ?_
      refine q_join (pc' := 166) (st' := [.int (nI np), .ref 89]) (nI (((x_ch X 0).2.2 ||| (x_rw X 0).2.2) ||| ((x_ch X 0).1 ||| (x_rw X 0).1))) (fun x166 hx166 => ?_) (fun J166 => ?_)
      · subst hx166
        refine x_iast d_Mo_process_166 hA.a4 rfl hin6 (fun hp4 e4 _ => ?_)
        obtain ⟨A, hA, u4, nn⟩ := hA.st4 e4
        rw [a4] at u4
        rw [hclp] at u4
        have a4 := u4
        have a2 := (nn 2 (by decide)).trans a2
        have a3 := (nn 3 (by decide)).trans a3
        have a5 := (nn 5 (by decide)).trans a5
        have a6 := (nn 6 (by decide)).trans a6
        have a7 := (nn 7 (by decide)).trans a7
        have a8 := (nn 8 (by decide)).trans a8
        have a9 := (nn 9 (by decide)).trans a9
        have a10 := (nn 10 (by decide)).trans a10
        have a11 := (nn 11 (by decide)).trans a11
        have a12 := (nn 12 (by decide)).trans a12
        have a13 := (nn 13 (by decide)).trans a13
        have a14 := (nn 14 (by decide)).trans a14
        have a15 := (nn 15 (by decide)).trans a15
        have a16 := (nn 16 (by decide)).trans a16
        have a17 := (nn 17 (by decide)).trans a17
        have a18 := (nn 18 (by decide)).trans a18
        have a19 := (nn 19 (by decide)).trans a19
        have kA := kA.put nn (by decide)
        refine q_iconst (v := 0) d_Mo_process_167 (by decide) ?_
        refine q_istore_n d_Mo_process_168 rfl (by decide) rfl ?_
        refine q_post ?_ (l_Mo_prc hG (m0 := m) (A0 := A) hnv hnp (by omega) hc13 v0 v3 v4 v5 v8 v16 13 0 (by omega) A _ hA rfl rfl rfl cpo_0.symm cpo_0.symm cpo_0.symm cpo_0.symm rfl rfl rfl rfl rfl mo_K.rfl)
        intro r h y0
        obtain ⟨y, y1, y2, y3, c0, c8, c3, c4, c37, c34, e3, e4, e5, e6, e7, e8, e19, km3, kA3⟩ := y0
        rw [a9] at e5
        rw [a10] at e6
        rw [a11] at e7
        rw [a12] at e8
        rw [a2, a19] at e19
        rw [a3] at e3
        rw [a4] at e4
        have a5 : _ = A2 5 := a5
        refine ⟨y, y1, y2, y3, c0, c8, by rw [hrd]; exact c3.trans (by rw [← hkX]; rfl), by rw [hrd]; exact c4, c37, c34, ?_, ?_, ?_, ?_, ?_⟩
        · rw [hrd]
          have hC := hR2.2.2.2.2.2.2.2
          refine ⟨by rw [e3]; exact m_upd, by rw [e4, hC2]; exact m_upd, fun k hk => ?_, fun k hk1 hk => ?_⟩
          · rw [e5, cpo_in hk]
            show (if k < c_n (x_C X) then upd (A2 9) 0 _ k else 0) = nI (if k < c_n (x_C X) then va_up (c_s (x_C X)) 0 (x_ch (x_ec X) (x_d (x_ec X))).2.1 k else 0)
            by_cases q : k < c_n (x_C X)
            · rw [if_pos q, if_pos q, hC1]
              by_cases q0 : k = 0
              · subst q0
                rw [va_up_self]
                exact m_upd
              · rw [va_up_ne _ _ q0]
                simp only [upd, if_neg q0]
                exact hC.2.1 k q
            · rw [if_neg q, if_neg q]
              rfl
          · have hk : k < c_n (x_C X) := hk
            rw [e6, e7, e8, cpo_in (by omega), cpo_in (by omega), cpo_in (by omega)]
            exact hC.2.2 k hk1 hk
        · intro q C hq hc9 hD
          have hq6 : ¬ q = np := by omega
          refine ⟨?_, ?_, fun k hk => ?_, fun k hk1 hk => ?_⟩
          · rw [e3]
            simp only [upd, if_neg hq6]
            rw [kA0 3 (by decide)]
            exact hD.1
          · rw [e4]
            simp only [upd, if_neg hq6]
            rw [kA0 4 (by decide)]
            exact hD.2.1
          · rw [e5, cpo_out hq hk, a5, kA0 5 (by decide)]
            exact hD.2.2.1 k hk
          · by_cases hk13 : k < 13
            · rw [e6, e7, e8, cpo_out hq hk13, cpo_out hq hk13, cpo_out hq hk13, a6, a7, a8, kA0 6 (by decide), kA0 7 (by decide), kA0 8 (by decide)]
              exact hD.2.2.2 k hk1 hk
            · exact absurd hk13 (by omega)
        · rw [e19, kA0 2 (by decide), kA0 19 (by decide)]
        · exact kmF (km.sub km3 (by decide))
        · exact kAF (kA.sub kA3 (by decide))
      · skip
        refine q_aload_n d_Mo_process_140 rfl rfl ?_
        refine q_get d_Mo_process_141 f_Mo_53 hA.1 rfl ?_
        refine q_iconst (v := 0) d_Mo_process_144 (by decide) ?_
        refine q_zald d_Mo_process_145 hA.a13 rfl hz14 ?_
        rw [a13]
        rw [show (0 : Int32).toNatClampNeg = 0 from rfl, m_upd]
        refine q_if_eq (tgt := 160) d_Mo_process_146 (by decide) (fun b146 => ?_) (fun b146 => ?_)
        · skip
          have q : (x_ch X 0).1 ||| (x_rw X 0).1 = 0 := m_n0 (by omega) b146
          refine q_aload_n d_Mo_process_160 rfl rfl ?_
          refine q_get d_Mo_process_161 f_Mo_60 hA.1 rfl ?_
          refine q_iconst (v := 0) d_Mo_process_164 (by decide) ?_
          refine q_iald d_Mo_process_165 hA.a15 rfl hz14 ?_
          rw [a15]
          try rw [show (0 : Int32).toNatClampNeg = 0 from rfl, m_upd]
          exact J166 _ (by first | (rw [q, Nat.or_zero]) | (rw [show (x_ch X 0).1 ||| (x_rw X 0).1 = 1 by omega]; exact tb_or _ 1))
        · skip
          have q : ¬ (x_ch X 0).1 ||| (x_rw X 0).1 = 0 := fun q => b146 (by rw [q]; rfl)
          refine q_aload_n d_Mo_process_149 rfl rfl ?_
          refine q_get d_Mo_process_150 f_Mo_60 hA.1 rfl ?_
          refine q_iconst (v := 0) d_Mo_process_153 (by decide) ?_
          refine q_iald d_Mo_process_154 hA.a15 rfl hz14 ?_
          rw [a15]
          rw [show (0 : Int32).toNatClampNeg = 0 from rfl, m_upd]
          refine q_iconst (v := 1) d_Mo_process_155 (by decide) ?_
          refine q_ior d_Mo_process_156 ?_
          refine q_goto (tgt := 166) d_Mo_process_157 (by decide) ?_
          try rw [show (0 : Int32).toNatClampNeg = 0 from rfl, m_upd]
          exact J166 _ (by first | (rw [q, Nat.or_zero]) | (rw [show (x_ch X 0).1 ||| (x_rw X 0).1 = 1 by omega]; exact tb_or _ 1))
    · skip
      exact absurd (show nI 0 ≤ 0 by decide) b97
  · skip
    exact absurd (by decide) b81
end M8
