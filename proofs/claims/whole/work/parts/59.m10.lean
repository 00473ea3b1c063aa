/-! the reference: product, number, apart -/
section M10
variable {g : q_G}
theorem u2_end {w : w_T} {pl vl : Nat → Nat} (hz : ∀ v, w_n w ≤ v → v < 5 → w_z w v = 1) (hv : ∀ v, v < 5 → vl v < w_z w v) : ∀ k, w_n w + k ≤ 5 → w_u2 w pl vl (w_n w + k) = w_u2 w pl vl (w_n w) := by
  intro k
  induction k with
  | zero => exact fun _ => rfl
  | succ k ih =>
    intro hk
    have h1 := hz (w_n w + k) (by omega) (by omega)
    have h2 := hv (w_n w + k) (by omega)
    show w_u2 w pl vl (w_n w + k) * w_z w (w_n w + k) + vl (w_n w + k) = _
    rw [h1] at h2
    rw [h1, Nat.mul_one, ih (by omega), show vl (w_n w + k) = 0 by omega]
    rfl
theorem u2_end5 {w : w_T} {pl vl : Nat → Nat} (hn : w_n w ≤ 5) (hz : ∀ v, w_n w ≤ v → v < 5 → w_z w v = 1) (hv : ∀ v, v < 5 → vl v < w_z w v) : w_u2 w pl vl (w_n w) = w_u w pl vl := by
  have := u2_end (pl := pl) hz hv (5 - w_n w) (by omega)
  rw [show w_n w + (5 - w_n w) = 5 by omega] at this
  exact this.symm
theorem q2_end {w : w_T} (hz : ∀ v, w_n w ≤ v → v < 5 → w_z w v = 1) : ∀ k, w_n w + k ≤ 5 → w_q2 w (w_n w + k) = w_q2 w (w_n w) := by
  intro k
  induction k with
  | zero => exact fun _ => rfl
  | succ k ih =>
    intro hk
    show w_q2 w (w_n w + k) * w_z w (w_n w + k) = _
    rw [hz (w_n w + k) (by omega) (by omega), Nat.mul_one, ih (by omega)]
theorem q2_end5 {w : w_T} (hn : w_n w ≤ 5) (hz : ∀ v, w_n w ≤ v → v < 5 → w_z w v = 1) : w_q2 w (w_n w) = w_q w := by
  have := q2_end hz (5 - w_n w) (by omega)
  rw [show w_n w + (5 - w_n w) = 5 by omega] at this
  exact this.symm
theorem q2_mono {w : w_T} (hok : w_ok w) (v : Nat) : ∀ k, v + k ≤ 5 → w_q2 w v ≤ w_q2 w (v + k) := by
  intro k
  induction k with
  | zero => exact fun _ => Nat.le_refl _
  | succ k ih =>
    intro hk
    have h1 := (hok.2.2.1 (v + k) (by omega)).1
    have h2 := Nat.mul_le_mul (ih (by omega)) h1
    rw [Nat.mul_one] at h2
    exact h2
theorem q1_mono {w : w_T} (hok : w_ok w) (q : Nat) : ∀ k, q + k ≤ 6 → w_q1 w q ≤ w_q1 w (q + k) := by
  intro k
  induction k with
  | zero => exact fun _ => Nat.le_refl _
  | succ k ih =>
    intro hk
    have h1 := (hok.2.2.2 (q + k) (by omega)).1
    have h2 := Nat.mul_le_mul (ih (by omega)) h1
    rw [Nat.mul_one] at h2
    exact h2
theorem q1_q {w : w_T} (hok : w_ok w) {q : Nat} (h : q ≤ w_p w) : w_q1 w q ≤ w_q w := by
  have h1 := q1_mono hok q (w_p w - q) (by have := hok.2.1; omega)
  rw [show q + (w_p w - q) = w_p w by omega] at h1
  have h2 := q2_mono hok 0 5 (by omega)
  exact Nat.le_trans h1 h2
theorem r2_top {w : w_T} {n : Nat} (hz : ∀ v, w_n w ≤ v → v < 5 → w_z w v = 1) : ∀ k, w_n w + k ≤ 5 → w_r2 w n k = n := by
  intro k
  induction k with
  | zero => exact fun _ => rfl
  | succ k ih =>
    intro hk
    show w_r2 w n k / w_z w (4 - k) = n
    rw [hz (4 - k) (by omega) (by omega), Nat.div_one, ih (by omega)]
set_option maxRecDepth 10000 in
set_option maxHeartbeats 2000000 in
theorem l_Mo_num2 {b hp : List va_E} {m : Nat → Int32} {A : Nat → Nat → Int32} {w : w_T} {pl vl : Nat → Nat} {a : Nat} {s : Nat → Int32} (hmk : w_mk w) (hA : M_A b m A hp) (hW : W_M w m A) (h_s : hp[a]? = some (a_I 11 s)) (hst : st_M w pl vl s) (hvl : ∀ v, v < 5 → vl v < w_z w v) : ∀ (k v : Nat), v + k = w_n w → q_J g m_Mo_number false (q_R 0 0 0 0) (q_ret (some (.int (nI (w_u w pl vl)))) hp) 33 [some (.ref 84), some (.ref a), some (.int (nI (w_u2 w pl vl v))), some (.int (nI v))] [] hp 0 0 false := by
  have hn5 := hmk.1.1
  have v5 := hW.1
  have v8 := hW.2.1
  intro k
  induction k with
  | zero =>
    intro v hv
    refine q_iload_n d_Mo_number_33 rfl ?_
    refine q_aload_n d_Mo_number_34 rfl rfl ?_
    refine q_get d_Mo_number_35 f_Mo_105 hA.1 rfl ?_
    rw [v5]
    refine q_icmp_ge (tgt := 63) d_Mo_number_38 (by decide) (fun b38 => ?_) (fun b38 => ?_)
    · skip
      refine q_iload_n d_Mo_number_63 rfl ?_
      refine q_iret d_Mo_number_64 rfl ?_ (Nat.le_of_ble_eq_true rfl) (Nat.le_of_ble_eq_true rfl) (by decide)
      rw [show v = w_n w by omega, u2_end5 hn5 hmk.2.2.2 hvl]
      exact ⟨rfl, rfl⟩
    · skip
      exact absurd (nI_le (by omega) (by omega)) b38
  | succ k ih =>
    intro v hv
    have hin5 : vp_in (nI v) 5 := vp_in_nI (by omega) (by decide)
    have hcl5 : (nI v).toNatClampNeg = v := nI_clamp (by omega)
    have hin11 : vp_in (nI (6 + v)) 11 := vp_in_nI (by omega) (by decide)
    have hcl11 : (nI (6 + v)).toNatClampNeg = 6 + v := nI_clamp (by omega)
    refine q_iload_n d_Mo_number_33 rfl ?_
    refine q_aload_n d_Mo_number_34 rfl rfl ?_
    refine q_get d_Mo_number_35 f_Mo_105 hA.1 rfl ?_
    rw [v5]
    refine q_icmp_ge (tgt := 63) d_Mo_number_38 (by decide) (fun b38 => ?_) (fun b38 => ?_)
    · skip
      exact absurd b38 (nI_ge (by omega) (by omega))
    · skip
      refine q_iload_n d_Mo_number_41 rfl ?_
      refine q_aload_n d_Mo_number_42 rfl rfl ?_
      refine q_get d_Mo_number_43 f_Mo_17 hA.1 rfl ?_
      refine q_iload_n d_Mo_number_46 rfl ?_
      refine q_iald d_Mo_number_47 hA.a1 rfl hin5 ?_
      rw [hcl5, (hW.2.2.1 v (by omega)).1]
      refine q_imul d_Mo_number_48 ?_
      rw [pk_mul]
      refine q_aload_n d_Mo_number_49 rfl rfl ?_
      refine q_bipush (v := 6) d_Mo_number_50 (by decide) ?_
      refine q_iload_n d_Mo_number_52 rfl ?_
      refine q_iadd d_Mo_number_53 ?_
      rw [show (6 : Int32) = nI 6 from rfl, nI_add]
      refine q_iald d_Mo_number_54 h_s rfl hin11 ?_
      rw [hcl11, hst.2 v (by omega)]
      refine q_iadd d_Mo_number_55 ?_
      rw [nI_add]
      refine q_istore_n d_Mo_number_56 rfl (by decide) rfl ?_
      refine q_iinc d_Mo_number_57 rfl (show _ + Int32.ofInt 1 = _ + 1 from rfl) (by decide) rfl ?_
      refine q_goto (tgt := 33) d_Mo_number_60 (by decide) ?_
      rw [nI_1]
      exact ih (v + 1) (by omega)
set_option maxRecDepth 10000 in
set_option maxHeartbeats 2000000 in
theorem l_Mo_num1 {b hp : List va_E} {m : Nat → Int32} {A : Nat → Nat → Int32} {w : w_T} {pl vl : Nat → Nat} {a : Nat} {s : Nat → Int32} (hmk : w_mk w) (hA : M_A b m A hp) (hW : W_M w m A) (h_s : hp[a]? = some (a_I 11 s)) (hst : st_M w pl vl s) (hvl : ∀ v, v < 5 → vl v < w_z w v) : ∀ (k q : Nat), q + k = w_p w → q_J g m_Mo_number false (q_R 0 0 0 0) (q_ret (some (.int (nI (w_u w pl vl)))) hp) 4 [some (.ref 84), some (.ref a), some (.int (nI (w_u1 w pl q))), some (.int (nI q))] [] hp 0 0 false := by
  have hp6 := hmk.1.2.1
  have v5 := hW.1
  have v8 := hW.2.1
  intro k
  induction k with
  | zero =>
    intro q hq
    refine q_iload_n d_Mo_number_4 rfl ?_
    refine q_aload_n d_Mo_number_5 rfl rfl ?_
    refine q_get d_Mo_number_6 f_Mo_111 hA.1 rfl ?_
    rw [v8]
    refine q_icmp_ge (tgt := 31) d_Mo_number_9 (by decide) (fun b9 => ?_) (fun b9 => ?_)
    · skip
      refine q_iconst (v := 0) d_Mo_number_31 (by decide) ?_
      refine q_istore_n d_Mo_number_32 rfl (by decide) rfl ?_
      rw [show q = w_p w by omega]
      exact l_Mo_num2 hmk hA hW h_s hst hvl (w_n w) 0 (by omega)
    · skip
      exact absurd (nI_le (by omega) (by omega)) b9
  | succ k ih =>
    intro q hq
    have hin6 : vp_in (nI q) 6 := vp_in_nI (by omega) (by decide)
    have hcl6 : (nI q).toNatClampNeg = q := nI_clamp (by omega)
    have hin11 : vp_in (nI q) 11 := vp_in_nI (by omega) (by decide)
    refine q_iload_n d_Mo_number_4 rfl ?_
    refine q_aload_n d_Mo_number_5 rfl rfl ?_
    refine q_get d_Mo_number_6 f_Mo_111 hA.1 rfl ?_
    rw [v8]
    refine q_icmp_ge (tgt := 31) d_Mo_number_9 (by decide) (fun b9 => ?_) (fun b9 => ?_)
    · skip
      exact absurd b9 (nI_ge (by omega) (by omega))
    · skip
      refine q_iload_n d_Mo_number_12 rfl ?_
      refine q_aload_n d_Mo_number_13 rfl rfl ?_
      refine q_get d_Mo_number_14 f_Mo_23 hA.1 rfl ?_
      refine q_iload_n d_Mo_number_17 rfl ?_
      refine q_iald d_Mo_number_18 hA.a3 rfl hin6 ?_
      rw [hcl6, (hW.2.2.2 q (by omega)).1]
      refine q_imul d_Mo_number_19 ?_
      rw [pk_mul]
      refine q_aload_n d_Mo_number_20 rfl rfl ?_
      refine q_iload_n d_Mo_number_21 rfl ?_
      refine q_iald d_Mo_number_22 h_s rfl hin11 ?_
      rw [hcl6, hst.1 q (by omega)]
      refine q_iadd d_Mo_number_23 ?_
      rw [nI_add]
      refine q_istore_n d_Mo_number_24 rfl (by decide) rfl ?_
      refine q_iinc d_Mo_number_25 rfl (show _ + Int32.ofInt 1 = _ + 1 from rfl) (by decide) rfl ?_
      refine q_goto (tgt := 4) d_Mo_number_28 (by decide) ?_
      rw [nI_1]
      exact ih (q + 1) (by omega)
set_option maxRecDepth 10000 in
set_option maxHeartbeats 2000000 in
theorem c_Mo_number (hG : q_GG g) {b hp : List va_E} {m : Nat → Int32} {A : Nat → Nat → Int32} {w : w_T} {pl vl : Nat → Nat} {a : Nat} {s : Nat → Int32} (hmk : w_mk w) (hA : M_A b m A hp) (hW : W_M w m A) (h_s : hp[a]? = some (a_I 11 s)) (hst : st_M w pl vl s) (hvl : ∀ v, v < 5 → vl v < w_z w v) : q_C g m_Mo_number false (q_R 0 0 0 0) [.ref 84, .ref a] hp (q_ret (some (.int (nI (w_u w pl vl)))) hp) := by
  refine q_C.of hG (by decide) (Nat.le_of_ble_eq_true rfl) ?_
  refine q_iconst (v := 0) d_Mo_number_0 (by decide) ?_
  refine q_istore_n d_Mo_number_1 rfl (by decide) rfl ?_
  refine q_iconst (v := 0) d_Mo_number_2 (by decide) ?_
  refine q_istore_n d_Mo_number_3 rfl (by decide) rfl ?_
  exact l_Mo_num1 hmk hA hW h_s hst hvl (w_p w) 0 (by omega)
set_option maxRecDepth 10000 in
set_option maxHeartbeats 2000000 in
theorem l_Mo_apB {b : List va_E} {m : Nat → Int32} {A0 : Nat → Nat → Int32} {w : w_T} {n : Nat} (hmk : w_mk w) (hW : W_M w m A0) (hn : n < 2 ^ 31) : ∀ (r : Nat), r ≤ w_p w → ∀ (A : Nat → Nat → Int32) (hp : List va_E), M_A b m A hp → mo_K [20] A0 A → (∀ q, r ≤ q → q < w_p w → A 20 q = nI (w_dp w n q)) → (∀ v, v < w_n w → A 20 (6 + v) = nI (w_dv w n v)) → q_J g m_Mo_apart true (q_R 0 0 0 0) (q_mo none b (fun m' A' => st_M w (w_dp w n) (w_dv w n) (A' 20) ∧ mo_K [] m m' ∧ mo_K [20] A0 A')) 52 [some (.ref 84), some (.int (nI n)), some (.int (nI (w_r1 w n (w_p w - r)))), some (.int (wo_c r))] [] hp 0 0 true := by
  have hok := hmk.1
  have hp6 := hok.2.1
  have v5 := hW.1
  have v8 := hW.2.1
  intro r
  induction r with
  | zero =>
    intro hr A hp hA kA hq1 hv1
    refine q_iload_n d_Mo_apart_52 rfl ?_
    refine q_if_lt (tgt := 85) d_Mo_apart_53 (by decide) (fun b53 => ?_) (fun b53 => ?_)
    · skip
      refine q_vret d_Mo_apart_85 rfl ?_ (Nat.le_of_ble_eq_true rfl) (Nat.le_of_ble_eq_true rfl) (by decide)
      exact ⟨(_, _, _), rfl, rfl, hA, ⟨fun q hq => hq1 q (Nat.zero_le _) hq, hv1⟩, mo_K.rfl, kA⟩
    · skip
      exact absurd (by decide) b53
  | succ r ih =>
    intro hr A hp hA kA hq1 hv1
    rw [show wo_c (r + 1) = nI r from rfl]
    obtain ⟨c1, c2, -⟩ := hok.2.2.2 r (by omega)
    have a1 : A 1 = A0 1 := kA 1 (by decide)
    have a3 : A 3 = A0 3 := kA 3 (by decide)
    have eA3 := (hW.2.2.2 r (by omega)).1
    have hcl : (nI r).toNatClampNeg = r := nI_clamp (by omega)
    have hin6 : vp_in (nI r) 6 := vp_in_nI (by omega) (by decide)
    have hin11 : vp_in (nI r) 11 := vp_in_nI (by omega) (by decide)
    have hne : ¬ nI (c_n (w_c w r)) = 0 := nI_ne0 (by omega) (by omega)
    have hle := w_r1_le w n (w_p w - (r + 1))
    have hrm : nI (w_r1 w n (w_p w - (r + 1))) - nI (w_r1 w n (w_p w - (r + 1))) / nI (c_n (w_c w r)) * nI (c_n (w_c w r)) = nI (w_dp w n r) := by
      rw [pk_rem (by omega) (by omega) (by omega)]
      unfold w_dp
      rw [show w_p w - 1 - r = w_p w - (r + 1) by omega]
    have hdv : nI (w_r1 w n (w_p w - (r + 1))) / nI (c_n (w_c w r)) = nI (w_r1 w n (w_p w - r)) := by
      rw [pk_div (by omega) (by omega) (by omega), show w_p w - r = (w_p w - (r + 1)) + 1 by omega]
      show _ = nI (w_r1 w n (w_p w - (r + 1)) / c_n (w_c w (w_p w - 1 - (w_p w - (r + 1)))))
      rw [show w_p w - 1 - (w_p w - (r + 1)) = r by omega]
    refine q_iload_n d_Mo_apart_52 rfl ?_
    refine q_if_lt (tgt := 85) d_Mo_apart_53 (by decide) (fun b53 => ?_) (fun b53 => ?_)
    · skip
      exact absurd b53 (nI_pos (by omega))
    · skip
      refine q_aload_n d_Mo_apart_56 rfl rfl ?_
      refine q_get d_Mo_apart_57 f_Mo_75 hA.1 rfl ?_
      refine q_iload_n d_Mo_apart_60 rfl ?_
      refine q_iload_n d_Mo_apart_61 rfl ?_
      refine q_aload_n d_Mo_apart_62 rfl rfl ?_
      refine q_get d_Mo_apart_63 f_Mo_23 hA.1 rfl ?_
      refine q_iload_n d_Mo_apart_66 rfl ?_
      refine q_iald d_Mo_apart_67 hA.a3 rfl hin6 ?_
      rw [a3]
      rw [hcl, eA3]
      refine q_irem d_Mo_apart_68 hne ?_
      rw [hrm]
      refine x_iast d_Mo_apart_69 hA.a20 rfl hin11 (fun hp1 e1 _ => ?_)
      obtain ⟨A, hA, u20, nn⟩ := hA.st20 e1
      rw [hcl] at u20
      have a20 := u20
      have a1 := (nn 1 (by decide)).trans a1
      have a3 := (nn 3 (by decide)).trans a3
      have kA := kA.put nn (by decide)
      refine q_iload_n d_Mo_apart_70 rfl ?_
      refine q_aload_n d_Mo_apart_71 rfl rfl ?_
      refine q_get d_Mo_apart_72 f_Mo_23 hA.1 rfl ?_
      refine q_iload_n d_Mo_apart_75 rfl ?_
      refine q_iald d_Mo_apart_76 hA.a3 rfl hin6 ?_
      rw [a3]
      rw [hcl, eA3]
      refine q_idiv d_Mo_apart_77 hne ?_
      rw [hdv]
      refine q_istore_n d_Mo_apart_78 rfl (by decide) rfl ?_
      refine q_iinc d_Mo_apart_79 rfl (show _ + Int32.ofInt (-1) = _ + (-1) from rfl) (by decide) rfl ?_
      refine q_goto (tgt := 52) d_Mo_apart_82 (by decide) ?_
      rw [wo_c_m]
      refine ih (by omega) A _ hA kA (fun q h1 h2 => ?_) (fun v hv => ?_)
      · rw [a20]
        by_cases h : q = r
        · subst h
          exact m_upd
        · rw [upd_ne h]
          exact hq1 q (by omega) h2
      · rw [a20, upd_ne (by omega)]
        exact hv1 v hv
set_option maxRecDepth 10000 in
set_option maxHeartbeats 2000000 in
theorem l_Mo_apA {b : List va_E} {m : Nat → Int32} {A0 : Nat → Nat → Int32} {w : w_T} {n : Nat} (hmk : w_mk w) (hW : W_M w m A0) (hn : n < 2 ^ 31) : ∀ (r : Nat), r ≤ w_n w → ∀ (A : Nat → Nat → Int32) (hp : List va_E), M_A b m A hp → mo_K [20] A0 A → (∀ v, r ≤ v → v < w_n w → A 20 (6 + v) = nI (w_dv w n v)) → q_J g m_Mo_apart true (q_R 0 0 0 0) (q_mo none b (fun m' A' => st_M w (w_dp w n) (w_dv w n) (A' 20) ∧ mo_K [] m m' ∧ mo_K [20] A0 A')) 9 [some (.ref 84), some (.int (nI n)), some (.int (nI (w_r2 w n (5 - r)))), some (.int (wo_c r))] [] hp 0 0 true := by
  have hok := hmk.1
  have hn5 := hok.1
  have v5 := hW.1
  have v8 := hW.2.1
  have hcn : nI (w_p w) - 1 = wo_c (w_p w) := by rw [← wo_c_m]; exact Int32.sub_eq_add_neg ..
  intro r
  induction r with
  | zero =>
    intro hr A hp hA kA hv1
    refine q_iload_n d_Mo_apart_9 rfl ?_
    refine q_if_lt (tgt := 45) d_Mo_apart_10 (by decide) (fun b10 => ?_) (fun b10 => ?_)
    · skip
      refine q_aload_n d_Mo_apart_45 rfl rfl ?_
      refine q_get d_Mo_apart_46 f_Mo_111 hA.1 rfl ?_
      rw [v8]
      refine q_iconst (v := 1) d_Mo_apart_49 (by decide) ?_
      refine q_isub d_Mo_apart_50 ?_
      rw [hcn]
      refine q_istore_n d_Mo_apart_51 rfl (by decide) rfl ?_
      rw [show w_r2 w n (5 - 0) = w_r1 w n (w_p w - w_p w) by rw [Nat.sub_self]; rfl]
      exact l_Mo_apB hmk hW hn (w_p w) (Nat.le_refl _) A _ hA kA (fun q h1 h2 => absurd h2 (by omega)) (fun v hv => hv1 v (Nat.zero_le _) hv)
    · skip
      exact absurd (by decide) b10
  | succ r ih =>
    intro hr A hp hA kA hv1
    rw [show wo_c (r + 1) = nI r from rfl]
    obtain ⟨z1, z2, -⟩ := hok.2.2.1 r (by omega)
    have a1 : A 1 = A0 1 := kA 1 (by decide)
    have a3 : A 3 = A0 3 := kA 3 (by decide)
    have eA1 := (hW.2.2.1 r (by omega)).1
    have hcl : (nI r).toNatClampNeg = r := nI_clamp (by omega)
    have hin5 : vp_in (nI r) 5 := vp_in_nI (by omega) (by decide)
    have hin11 : vp_in (nI (6 + r)) 11 := vp_in_nI (by omega) (by decide)
    have hcl11 : (nI (6 + r)).toNatClampNeg = 6 + r := nI_clamp (by omega)
    have hne : ¬ nI (w_z w r) = 0 := nI_ne0 (by omega) (by omega)
    have hle := w_r2_le w n (5 - (r + 1))
    have hrm : nI (w_r2 w n (5 - (r + 1))) - nI (w_r2 w n (5 - (r + 1))) / nI (w_z w r) * nI (w_z w r) = nI (w_dv w n r) := by
      rw [pk_rem (by omega) (by omega) (by omega)]
      unfold w_dv
      rw [show 4 - r = 5 - (r + 1) by omega]
    have hdv : nI (w_r2 w n (5 - (r + 1))) / nI (w_z w r) = nI (w_r2 w n (5 - r)) := by
      rw [pk_div (by omega) (by omega) (by omega), show 5 - r = (5 - (r + 1)) + 1 by omega]
      show _ = nI (w_r2 w n (5 - (r + 1)) / w_z w (4 - (5 - (r + 1))))
      rw [show 4 - (5 - (r + 1)) = r by omega]
    refine q_iload_n d_Mo_apart_9 rfl ?_
    refine q_if_lt (tgt := 45) d_Mo_apart_10 (by decide) (fun b10 => ?_) (fun b10 => ?_)
    · skip
      exact absurd b10 (nI_pos (by omega))
    · skip
      refine q_aload_n d_Mo_apart_13 rfl rfl ?_
      refine q_get d_Mo_apart_14 f_Mo_75 hA.1 rfl ?_
      refine q_bipush (v := 6) d_Mo_apart_17 (by decide) ?_
      refine q_iload_n d_Mo_apart_19 rfl ?_
      refine q_iadd d_Mo_apart_20 ?_
      rw [show (6 : Int32) = nI 6 from rfl, nI_add]
      refine q_iload_n d_Mo_apart_21 rfl ?_
      refine q_aload_n d_Mo_apart_22 rfl rfl ?_
      refine q_get d_Mo_apart_23 f_Mo_17 hA.1 rfl ?_
      refine q_iload_n d_Mo_apart_26 rfl ?_
      refine q_iald d_Mo_apart_27 hA.a1 rfl hin5 ?_
      rw [a1]
      rw [hcl, eA1]
      refine q_irem d_Mo_apart_28 hne ?_
      rw [hrm]
      refine x_iast d_Mo_apart_29 hA.a20 rfl hin11 (fun hp1 e1 _ => ?_)
      obtain ⟨A, hA, u20, nn⟩ := hA.st20 e1
      rw [hcl11] at u20
      have a20 := u20
      have a1 := (nn 1 (by decide)).trans a1
      have a3 := (nn 3 (by decide)).trans a3
      have kA := kA.put nn (by decide)
      refine q_iload_n d_Mo_apart_30 rfl ?_
      refine q_aload_n d_Mo_apart_31 rfl rfl ?_
      refine q_get d_Mo_apart_32 f_Mo_17 hA.1 rfl ?_
      refine q_iload_n d_Mo_apart_35 rfl ?_
      refine q_iald d_Mo_apart_36 hA.a1 rfl hin5 ?_
      rw [a1]
      rw [hcl, eA1]
      refine q_idiv d_Mo_apart_37 hne ?_
      rw [hdv]
      refine q_istore_n d_Mo_apart_38 rfl (by decide) rfl ?_
      refine q_iinc d_Mo_apart_39 rfl (show _ + Int32.ofInt (-1) = _ + (-1) from rfl) (by decide) rfl ?_
      refine q_goto (tgt := 9) d_Mo_apart_42 (by decide) ?_
      rw [wo_c_m]
      refine ih (by omega) A _ hA kA (fun v h1 h2 => ?_)
      rw [a20]
      by_cases h : v = r
      · subst h
        exact m_upd
      · rw [upd_ne (by omega)]
        exact hv1 v (by omega) h2
set_option maxRecDepth 10000 in
set_option maxHeartbeats 2000000 in
theorem c_Mo_apart (hG : q_GG g) {b hp : List va_E} {m : Nat → Int32} {A : Nat → Nat → Int32} {w : w_T} {n : Nat} (hA : M_A b m A hp) (hmk : w_mk w) (hW : W_M w m A) (hn : n < 2 ^ 31) : q_C g m_Mo_apart true (q_R 0 0 0 0) [.ref 84, .int (nI n)] hp (q_mo none b (fun m' A' => st_M w (w_dp w n) (w_dv w n) (A' 20) ∧ mo_K [] m m' ∧ mo_K [20] A A')) := by
  refine q_C.of hG (by decide) (Nat.le_of_ble_eq_true rfl) ?_
  have v5 := hW.1
  have hn5 := hmk.1.1
  have hcn : nI (w_n w) - 1 = wo_c (w_n w) := by rw [← wo_c_m]; exact Int32.sub_eq_add_neg ..
  refine q_iload_n d_Mo_apart_0 rfl ?_
  refine q_istore_n d_Mo_apart_1 rfl (by decide) rfl ?_
  refine q_aload_n d_Mo_apart_2 rfl rfl ?_
  refine q_get d_Mo_apart_3 f_Mo_105 hA.1 rfl ?_
  rw [v5]
  refine q_iconst (v := 1) d_Mo_apart_6 (by decide) ?_
  refine q_isub d_Mo_apart_7 ?_
  rw [hcn]
  refine q_istore_n d_Mo_apart_8 rfl (by decide) rfl ?_
  refine q_wrote ?_
  have := l_Mo_apA (g := g) (b := b) hmk hW hn (w_n w) (Nat.le_refl _) A hp hA mo_K.rfl (fun v h1 h2 => absurd h2 (by omega))
  rw [r2_top hmk.2.2.2 _ (by omega)] at this
  exact this
set_option maxRecDepth 10000 in
set_option maxHeartbeats 2000000 in
theorem l_Mo_pd71 {b hp : List va_E} {m0 m : Nat → Int32} {A : Nat → Nat → Int32} {w : w_T} {x : Nat} {z2 : Option Value} (hmk : w_mk w) (hW : W_M w m A) (hA : M_A b m A hp) (v0 : m 0 = 0) (km : mo_K [0] m0 m) (hx : x < 2 ^ 22) (h1 : x ≤ 30000 → x = w_q w) (h2 : 30000 < x → 30000 < w_q w) : q_J g m_Mo_product true (q_R 0 0 0 0) (q_mo (some (.int (if w_q w ≤ 30000 then nI (w_q w) else -2))) b (fun m' A' => m' 0 = 0 ∧ mo_K [0] m0 m' ∧ mo_K [] A A')) 71 [some (.ref 84), some (.int (nI x)), z2] [] hp 0 0 true := by
  refine q_iload_n d_Mo_product_71 rfl ?_
  refine q_sipush (v := 30000) d_Mo_product_72 (by decide) ?_
  refine q_icmp_le (tgt := 83) d_Mo_product_75 (by decide) (fun b75 => ?_) (fun b75 => ?_)
  · skip
    have h := (nI_leI (b := 30000) (by omega) (by decide)).mp b75
    have e := h1 h
    subst e
    refine q_iload_n d_Mo_product_83 rfl ?_
    refine q_iret d_Mo_product_84 rfl ?_ (Nat.le_of_ble_eq_true rfl) (Nat.le_of_ble_eq_true rfl) (by decide)
    refine ⟨(_, _, _), ?_, rfl, hA, v0, km, mo_K.rfl⟩
    first
      | rw [if_pos h]
      | rw [if_neg (by omega)]
  · skip
    have h : ¬ x ≤ 30000 := fun h => b75 (nI_le (b := 30000) h (by decide))
    have e := h2 (by omega)
    refine q_bipush (v := (-2)) d_Mo_product_78 (by decide) ?_
    refine q_goto (tgt := 84) d_Mo_product_80 (by decide) ?_
    refine q_iret d_Mo_product_84 rfl ?_ (Nat.le_of_ble_eq_true rfl) (Nat.le_of_ble_eq_true rfl) (by decide)
    refine ⟨(_, _, _), ?_, rfl, hA, v0, km, mo_K.rfl⟩
    first
      | rw [if_pos h]
      | rw [if_neg (by omega)]
set_option maxRecDepth 10000 in
set_option maxHeartbeats 2000000 in
theorem l_Mo_pd41 {b hp : List va_E} {m0 m : Nat → Int32} {A : Nat → Nat → Int32} {w : w_T} (hmk : w_mk w) (hW : W_M w m A) (hA : M_A b m A hp) (v0 : m 0 = 0) (km : mo_K [0] m0 m) : ∀ (k v : Nat), v + k = w_n w → w_q2 w v < 2 ^ 22 → q_J g m_Mo_product true (q_R 0 0 0 0) (q_mo (some (.int (if w_q w ≤ 30000 then nI (w_q w) else -2))) b (fun m' A' => m' 0 = 0 ∧ mo_K [0] m0 m' ∧ mo_K [] A A')) 41 [some (.ref 84), some (.int (nI (w_q2 w v))), some (.int (nI v))] [] hp 0 0 true := by
  have hok := hmk.1
  have hn5 := hok.1
  have v5 := hW.1
  intro k
  induction k with
  | zero =>
    intro v hv hx
    refine q_iload_n d_Mo_product_41 rfl ?_
    refine q_aload_n d_Mo_product_42 rfl rfl ?_
    refine q_get d_Mo_product_43 f_Mo_105 hA.1 rfl ?_
    rw [v5]
    refine q_icmp_ge (tgt := 71) d_Mo_product_46 (by decide) (fun b46 => ?_) (fun b46 => ?_)
    · skip
      rw [show v = w_n w by omega] at hx ⊢
      rw [q2_end5 hn5 hmk.2.2.2] at hx ⊢
      exact l_Mo_pd71 hmk hW hA v0 km hx (fun _ => rfl) (fun h => h)
    · skip
      exact absurd (nI_le (by omega) (by omega)) b46
  | succ k ih =>
    intro v hv hx
    have hin5 : vp_in (nI v) 5 := vp_in_nI (by omega) (by decide)
    have hcl5 : (nI v).toNatClampNeg = v := nI_clamp (by omega)
    have hqv : w_q2 w v ≤ w_q w := by
      have h := q2_mono hok v (5 - v) (by omega)
      rw [show v + (5 - v) = 5 by omega] at h
      exact h
    have hz5 := (hok.2.2.1 v (by omega)).2.1
    have hlt0 : w_q2 w v ≤ 30000 → w_q2 w (v + 1) < 2 ^ 22 := fun h => by
      have := Nat.mul_le_mul h hz5
      show w_q2 w v * w_z w v < _
      omega
    refine q_iload_n d_Mo_product_41 rfl ?_
    refine q_aload_n d_Mo_product_42 rfl rfl ?_
    refine q_get d_Mo_product_43 f_Mo_105 hA.1 rfl ?_
    rw [v5]
    refine q_icmp_ge (tgt := 71) d_Mo_product_46 (by decide) (fun b46 => ?_) (fun b46 => ?_)
    · skip
      exact absurd b46 (nI_ge (by omega) (by omega))
    · skip
      refine q_iload_n d_Mo_product_49 rfl ?_
      refine q_sipush (v := 30000) d_Mo_product_50 (by decide) ?_
      refine q_icmp_gt (tgt := 71) d_Mo_product_53 (by decide) (fun b53 => ?_) (fun b53 => ?_)
      · skip
        have h := (nI_ltI (a := 30000) (by decide) (by omega)).mp b53
        exact l_Mo_pd71 hmk hW hA v0 km hx (fun h9 => absurd h9 (by omega)) (fun _ => by omega)
      · skip
        have h : w_q2 w v ≤ 30000 := by
          by_cases h : w_q2 w v ≤ 30000
          · exact h
          · exact absurd (nI_lt (a := 30000) (by omega) (by omega)) b53
        refine q_iload_n d_Mo_product_56 rfl ?_
        refine q_aload_n d_Mo_product_57 rfl rfl ?_
        refine q_get d_Mo_product_58 f_Mo_17 hA.1 rfl ?_
        refine q_iload_n d_Mo_product_61 rfl ?_
        refine q_iald d_Mo_product_62 hA.a1 rfl hin5 ?_
        rw [hcl5, (hW.2.2.1 v (by omega)).1]
        refine q_imul d_Mo_product_63 ?_
        rw [pk_mul]
        refine q_istore_n d_Mo_product_64 rfl (by decide) rfl ?_
        refine q_iinc d_Mo_product_65 rfl (show _ + Int32.ofInt 1 = _ + 1 from rfl) (by decide) rfl ?_
        refine q_goto (tgt := 41) d_Mo_product_68 (by decide) ?_
        rw [nI_1]
        exact ih (v + 1) (by omega) (hlt0 h)
set_option maxRecDepth 10000 in
set_option maxHeartbeats 2000000 in
theorem l_Mo_pdX {b hp : List va_E} {m0 m : Nat → Int32} {A : Nat → Nat → Int32} {w : w_T} {x : Nat} {z2 : Option Value} (hmk : w_mk w) (hW : W_M w m A) (hA : M_A b m A hp) (v0 : m 0 = 0) (km : mo_K [0] m0 m) (hx : x < 2 ^ 22) (h1 : 30000 < x) (h2 : x ≤ w_q w) : q_J g m_Mo_product true (q_R 0 0 0 0) (q_mo (some (.int (if w_q w ≤ 30000 then nI (w_q w) else -2))) b (fun m' A' => m' 0 = 0 ∧ mo_K [0] m0 m' ∧ mo_K [] A A')) 39 [some (.ref 84), some (.int (nI x)), z2] [] hp 0 0 true := by
  have v5 := hW.1
  refine q_iconst (v := 0) d_Mo_product_39 (by decide) ?_
  refine q_istore_n d_Mo_product_40 rfl (by decide) rfl ?_
  refine q_iload_n d_Mo_product_41 rfl ?_
  refine q_aload_n d_Mo_product_42 rfl rfl ?_
  refine q_get d_Mo_product_43 f_Mo_105 hA.1 rfl ?_
  rw [v5]
  refine q_icmp_ge (tgt := 71) d_Mo_product_46 (by decide) (fun b46 => ?_) (fun b46 => ?_)
  · skip
    exact l_Mo_pd71 hmk hW hA v0 km hx (fun h9 => absurd h9 (by omega)) (fun _ => by omega)
  · skip
    refine q_iload_n d_Mo_product_49 rfl ?_
    refine q_sipush (v := 30000) d_Mo_product_50 (by decide) ?_
    refine q_icmp_gt (tgt := 71) d_Mo_product_53 (by decide) (fun b53 => ?_) (fun b53 => ?_)
    · skip
      exact l_Mo_pd71 hmk hW hA v0 km hx (fun h9 => absurd h9 (by omega)) (fun _ => by omega)
    · skip
      exact absurd (nI_lt (a := 30000) (by omega) (by omega)) b53
set_option maxRecDepth 10000 in
set_option maxHeartbeats 2000000 in
theorem l_Mo_pd9 {b hp : List va_E} {m0 m : Nat → Int32} {A : Nat → Nat → Int32} {w : w_T} (hmk : w_mk w) (hW : W_M w m A) (hA : M_A b m A hp) (v0 : m 0 = 0) (km : mo_K [0] m0 m) : ∀ (k q : Nat), q + k = w_p w → w_q1 w q < 2 ^ 22 → q_J g m_Mo_product true (q_R 0 0 0 0) (q_mo (some (.int (if w_q w ≤ 30000 then nI (w_q w) else -2))) b (fun m' A' => m' 0 = 0 ∧ mo_K [0] m0 m' ∧ mo_K [] A A')) 9 [some (.ref 84), some (.int (nI (w_q1 w q))), some (.int (nI q))] [] hp 0 0 true := by
  have hok := hmk.1
  have hp6 := hok.2.1
  have v8 := hW.2.1
  intro k
  induction k with
  | zero =>
    intro q hq hx
    refine q_iload_n d_Mo_product_9 rfl ?_
    refine q_aload_n d_Mo_product_10 rfl rfl ?_
    refine q_get d_Mo_product_11 f_Mo_111 hA.1 rfl ?_
    rw [v8]
    refine q_icmp_ge (tgt := 39) d_Mo_product_14 (by decide) (fun b14 => ?_) (fun b14 => ?_)
    · skip
      refine q_iconst (v := 0) d_Mo_product_39 (by decide) ?_
      refine q_istore_n d_Mo_product_40 rfl (by decide) rfl ?_
      rw [show q = w_p w by omega] at hx ⊢
      exact l_Mo_pd41 hmk hW hA v0 km (w_n w) 0 (by omega) hx
    · skip
      exact absurd (nI_le (by omega) (by omega)) b14
  | succ k ih =>
    intro q hq hx
    have hin6 : vp_in (nI q) 6 := vp_in_nI (by omega) (by decide)
    have hcl6 : (nI q).toNatClampNeg = q := nI_clamp (by omega)
    have hc13 := (hok.2.2.2 q (by omega)).2.1
    have hlt0 : w_q1 w q ≤ 30000 → w_q1 w (q + 1) < 2 ^ 22 := fun h => by
      have := Nat.mul_le_mul h hc13
      show w_q1 w q * c_n (w_c w q) < _
      omega
    refine q_iload_n d_Mo_product_9 rfl ?_
    refine q_aload_n d_Mo_product_10 rfl rfl ?_
    refine q_get d_Mo_product_11 f_Mo_111 hA.1 rfl ?_
    rw [v8]
    refine q_icmp_ge (tgt := 39) d_Mo_product_14 (by decide) (fun b14 => ?_) (fun b14 => ?_)
    · skip
      exact absurd b14 (nI_ge (by omega) (by omega))
    · skip
      refine q_iload_n d_Mo_product_17 rfl ?_
      refine q_sipush (v := 30000) d_Mo_product_18 (by decide) ?_
      refine q_icmp_gt (tgt := 39) d_Mo_product_21 (by decide) (fun b21 => ?_) (fun b21 => ?_)
      · skip
        have h := (nI_ltI (a := 30000) (by decide) (by omega)).mp b21
        exact l_Mo_pdX hmk hW hA v0 km hx h (q1_q hok (by omega))
      · skip
        have h : w_q1 w q ≤ 30000 := by
          by_cases h : w_q1 w q ≤ 30000
          · exact h
          · exact absurd (nI_lt (a := 30000) (by omega) (by omega)) b21
        refine q_iload_n d_Mo_product_24 rfl ?_
        refine q_aload_n d_Mo_product_25 rfl rfl ?_
        refine q_get d_Mo_product_26 f_Mo_23 hA.1 rfl ?_
        refine q_iload_n d_Mo_product_29 rfl ?_
        refine q_iald d_Mo_product_30 hA.a3 rfl hin6 ?_
        rw [hcl6, (hW.2.2.2 q (by omega)).1]
        refine q_imul d_Mo_product_31 ?_
        rw [pk_mul]
        refine q_istore_n d_Mo_product_32 rfl (by decide) rfl ?_
        refine q_iinc d_Mo_product_33 rfl (show _ + Int32.ofInt 1 = _ + 1 from rfl) (by decide) rfl ?_
        refine q_goto (tgt := 9) d_Mo_product_36 (by decide) ?_
        rw [nI_1]
        exact ih (q + 1) (by omega) (hlt0 h)
set_option maxRecDepth 10000 in
set_option maxHeartbeats 2000000 in
theorem c_Mo_product (hG : q_GG g) {b hp : List va_E} {m : Nat → Int32} {A : Nat → Nat → Int32} {w : w_T} (hmk : w_mk w) (hW : W_M w m A) (hA : M_A b m A hp) : q_C g m_Mo_product true (q_R 0 0 0 0) [.ref 84] hp (q_mo (some (.int (if w_q w ≤ 30000 then nI (w_q w) else -2))) b (fun m' A' => m' 0 = 0 ∧ mo_K [0] m m' ∧ mo_K [] A A')) := by
  refine q_C.of hG (by decide) (Nat.le_of_ble_eq_true rfl) ?_
  have km : mo_K [0] m m := mo_K.rfl
  refine q_aload_n d_Mo_product_0 rfl rfl ?_
  refine q_iconst (v := 0) d_Mo_product_1 (by decide) ?_
  refine x_put d_Mo_product_2 f_Mo_90 hA.1 (Nat.le_of_ble_eq_true rfl) rfl rfl (fun hp1 e1 _ => ?_)
  obtain ⟨m, hA, v0, nn⟩ := hA.put (k := 0) (by decide) e1
  have km := km.put nn (by decide)
  refine q_iconst (v := 1) d_Mo_product_5 (by decide) ?_
  refine q_istore_n d_Mo_product_6 rfl (by decide) rfl ?_
  refine q_iconst (v := 0) d_Mo_product_7 (by decide) ?_
  refine q_istore_n d_Mo_product_8 rfl (by decide) rfl ?_
  exact l_Mo_pd9 hmk ⟨(nn 5 (by decide)).trans hW.1, (nn 8 (by decide)).trans hW.2.1, hW.2.2⟩ hA v0 km (w_p w) 0 (by omega) (show 1 < 2 ^ 22 by decide)
end M10
