/-! StateSet: a set of numbers below 30000, as bits of 469 words -/
section C4
variable {g : q_G}
abbrev o_Ss (a : Nat) (l : Int32) : va_E := .inr (7, [.ref (a + 1), .int l])
abbrev a_S (y : Nat → Nat) : va_E := a_J 469 (fun j => lN (y j))
/-- the set that the words tell -/
theorem q_bt {b : Bool} (h : ¬ b = false) : b = true := by cases b <;> simp_all
def ss_m (y : Nat → Nat) (n : Nat) : Bool := (y (n / 64)).testBit (n % 64)
def ss_add (y : Nat → Nat) (n : Nat) : Nat → Nat := va_up y (n / 64) (y (n / 64) ||| 2 ^ (n % 64))
theorem ss_add_lt {y : Nat → Nat} (hy : ∀ j, y j < 2 ^ 64) (n : Nat) : ∀ j, ss_add y n j < 2 ^ 64 := by
  intro j
  unfold ss_add va_up
  split
  · exact Nat.or_lt_two_pow (hy _) (Nat.pow_lt_pow_right (by decide) (Nat.mod_lt _ (by decide)))
  · exact hy j
theorem ss_add_m (y : Nat → Nat) (n m : Nat) : ss_m (ss_add y n) m = (ss_m y m || decide (m = n)) := by
  unfold ss_m ss_add va_up
  by_cases h : m / 64 = n / 64
  · rw [if_pos h, Nat.testBit_or, h, Nat.testBit_two_pow]
    congr 1
    rw [decide_eq_decide]
    omega
  · rw [if_neg h, decide_eq_false (fun q => h (by rw [q])), Bool.or_false]
theorem ss_lg {x y : Int64} : lg_cmp x y = 0 ↔ x = y := by
  unfold lg_cmp
  by_cases h1 : x > y
  · rw [if_pos h1]
    refine ⟨fun h => absurd h (by decide), fun h => ?_⟩
    subst h
    exact absurd h1 (Int64.lt_irrefl)
  · rw [if_neg h1]
    by_cases h2 : x = y
    · rw [if_pos h2]; exact ⟨fun _ => h2, fun _ => rfl⟩
    · rw [if_neg h2]; exact ⟨fun h => absurd h (by decide), fun h => absurd h h2⟩
theorem ss_cmp0 {y k : Nat} (hy : y < 2 ^ 64) (hk : k < 64) : lg_cmp (((lN y).toUInt64 >>> ((nI k).toInt64.toUInt64 &&& Int64.toUInt64 63)).toInt64 &&& 1) 0 = 0 ↔ y.testBit k = false := by
  rw [ss_lg, wb_bit hy hk, show (0 : Int64) = lN 0 from rfl, pk_lEQ (by omega) (by omega), Nat.testBit_eq_decide_div_mod_eq, decide_eq_false_iff_not]
  omega
set_option maxRecDepth 10000 in
set_option maxHeartbeats 1000000 in
theorem c_Ss_contains (hG : q_GG g) {hp : List va_E} {a n : Nat} {l : Int32} {y : Nat → Nat} (h_s : hp[a]? = some (o_Ss a l)) (h_w : hp[a + 1]? = some (a_S y)) (hy : ∀ j, y j < 2 ^ 64) (hn : n < 30000) : q_C g m_Ss_contains false (q_R 0 0 0 0) [.ref a, .int (nI n)] hp (q_ret (some (.int (if ss_m y n then 1 else 0))) hp) := by
  refine q_C.of hG (by decide) (Nat.le_of_ble_eq_true rfl) ?_
  have hdv : nI n / 64 = nI (n / 64) := pk_div (d := 64) (by omega) (by decide) (by decide)
  have hrm : nI n - nI n / 64 * 64 = nI (n % 64) := pk_rem (d := 64) (by omega) (by decide) (by decide)
  have hcl : (nI (n / 64)).toNatClampNeg = n / 64 := nI_clamp (by omega)
  have hin : vp_in (nI (n / 64)) 469 := vp_in_nI (by omega) (by decide)
  refine q_iload_n d_Ss_contains_0 rfl ?_
  refine q_if_lt (tgt := 36) d_Ss_contains_1 (by decide) (fun b1 => ?_) (fun b1 => ?_)
  · skip
    exact absurd b1 (nI_pos (by omega))
  · skip
    refine q_iload_n d_Ss_contains_4 rfl ?_
    refine q_sipush (v := 30000) d_Ss_contains_5 (by decide) ?_
    refine q_icmp_ge (tgt := 36) d_Ss_contains_8 (by decide) (fun b8 => ?_) (fun b8 => ?_)
    · skip
      exact absurd b8 (nI_ge (show n < 30000 by omega) (by decide))
    · skip
      refine q_aload_n d_Ss_contains_11 rfl rfl ?_
      refine q_get d_Ss_contains_12 f_Ss_11 h_s rfl ?_
      refine q_iload_n d_Ss_contains_15 rfl ?_
      refine q_bipush (v := 64) d_Ss_contains_16 (by decide) ?_
      refine q_idiv d_Ss_contains_18 (by decide) ?_
      rw [hdv]
      refine q_lald d_Ss_contains_19 h_w rfl hin ?_
      refine q_iload_n d_Ss_contains_20 rfl ?_
      refine q_bipush (v := 64) d_Ss_contains_21 (by decide) ?_
      refine q_irem d_Ss_contains_23 (by decide) ?_
      rw [hrm, hcl]
      refine q_lushr d_Ss_contains_24 ?_
      refine q_lconst (v := 1) d_Ss_contains_25 (by decide) ?_
      refine q_land d_Ss_contains_26 ?_
      refine q_lconst (v := 0) d_Ss_contains_27 (by decide) ?_
      refine q_lcmp d_Ss_contains_28 ?_
      refine q_if_eq (tgt := 36) d_Ss_contains_29 (by decide) (fun b29 => ?_) (fun b29 => ?_)
      · skip
        have b29 := (ss_cmp0 (hy _) (Nat.mod_lt _ (by decide))).mp b29
        refine q_iconst (v := 0) d_Ss_contains_36 (by decide) ?_
        refine q_zret d_Ss_contains_37 rfl (by decide) ?_ (Nat.le_of_ble_eq_true rfl) (Nat.le_of_ble_eq_true rfl) (by decide)
        exact ⟨by simp [ss_m, b29], rfl⟩
      · skip
        have b29 := q_bt (fun q => b29 ((ss_cmp0 (hy _) (Nat.mod_lt n (by decide))).mpr q))
        refine q_iconst (v := 1) d_Ss_contains_32 (by decide) ?_
        refine q_goto (tgt := 37) d_Ss_contains_33 (by decide) ?_
        refine q_zret d_Ss_contains_37 rfl (by decide) ?_ (Nat.le_of_ble_eq_true rfl) (Nat.le_of_ble_eq_true rfl) (by decide)
        exact ⟨by simp [ss_m, b29], rfl⟩
set_option maxRecDepth 10000 in
set_option maxHeartbeats 1000000 in
theorem c_Ss_add (hG : q_GG g) {hp : List va_E} {a n l : Nat} {y : Nat → Nat} (h_s : hp[a]? = some (o_Ss a (nI l))) (h_w : hp[a + 1]? = some (a_S y)) (hy : ∀ j, y j < 2 ^ 64) (hn : n < 30000) (hl : l < 1000) : q_C g m_Ss_add true (q_R 0 0 0 0) [.ref a, .int (nI n)] hp (q_ret none ((hp.set (a + 1) (a_S (ss_add y n))).set a (o_Ss a (nI (if n / 64 < l then n / 64 else l))))) := by
  refine q_C.of hG (by decide) (Nat.le_of_ble_eq_true rfl) ?_
  have hdv : nI n / 64 = nI (n / 64) := pk_div (d := 64) (by omega) (by decide) (by decide)
  have hrm : nI n - nI n / 64 * 64 = nI (n % 64) := pk_rem (d := 64) (by omega) (by decide) (by decide)
  have hcl : (nI (n / 64)).toNatClampNeg = n / 64 := nI_clamp (by omega)
  have hin : vp_in (nI (n / 64)) 469 := vp_in_nI (by omega) (by decide)
  have h_s0 := h_s
  have hup : vp_updL (fun j => lN (y j)) (n / 64) (lN (y (n / 64)) ||| 1 <<< ((nI (n % 64)).toInt64 &&& 63)) = fun j => lN (ss_add y n j) := by
    funext j
    have hm : n % 64 < 64 := Nat.mod_lt _ (by decide)
    have hs := wb_shl 1 hm
    rw [Nat.one_mul] at hs
    unfold vp_updL ss_add va_up
    rw [show (1 : Int64) = lN 1 from rfl, hs, wb_or (hy _) (Nat.pow_lt_pow_right (by decide) hm)]
    split <;> rfl
  refine q_iload_n d_Ss_add_0 rfl ?_
  refine q_if_lt (tgt := 11) d_Ss_add_1 (by decide) (fun b1 => ?_) (fun b1 => ?_)
  · skip
    exact absurd b1 (nI_pos (by omega))
  · skip
    refine q_iload_n d_Ss_add_4 rfl ?_
    refine q_sipush (v := 30000) d_Ss_add_5 (by decide) ?_
    refine q_icmp_lt (tgt := 12) d_Ss_add_8 (by decide) (fun b8 => ?_) (fun b8 => ?_)
    · skip
      refine q_aload_n d_Ss_add_12 rfl rfl ?_
      refine q_get d_Ss_add_13 f_Ss_11 h_s rfl ?_
      refine q_iload_n d_Ss_add_16 rfl ?_
      refine q_bipush (v := 64) d_Ss_add_17 (by decide) ?_
      refine q_idiv d_Ss_add_19 (by decide) ?_
      rw [hdv]
      refine q_dup2 d_Ss_add_20 rfl rfl ?_
      refine q_lald d_Ss_add_21 h_w rfl hin ?_
      refine q_lconst (v := 1) d_Ss_add_22 (by decide) ?_
      refine q_iload_n d_Ss_add_23 rfl ?_
      refine q_bipush (v := 64) d_Ss_add_24 (by decide) ?_
      refine q_irem d_Ss_add_26 (by decide) ?_
      rw [hrm, hcl]
      refine q_lshl d_Ss_add_27 ?_
      refine q_lor d_Ss_add_28 ?_
      refine x_last d_Ss_add_29 h_w rfl hin (fun hp1 e1 h_w => ?_)
      have h_s := q_keep e1 h_s (by omega)
      rw [hcl, hup] at e1 h_w
      refine q_iload_n d_Ss_add_30 rfl ?_
      refine q_bipush (v := 64) d_Ss_add_31 (by decide) ?_
      refine q_idiv d_Ss_add_33 (by decide) ?_
      rw [hdv]
      refine q_aload_n d_Ss_add_34 rfl rfl ?_
      refine q_get d_Ss_add_35 f_Ss_15 h_s rfl ?_
      refine q_icmp_ge (tgt := 49) d_Ss_add_38 (by decide) (fun b38 => ?_) (fun b38 => ?_)
      · skip
        have b38 : ¬ n / 64 < l := fun q => nI_ge q (by omega) b38
        refine q_vret d_Ss_add_49 rfl ?_ (Nat.le_of_ble_eq_true rfl) (Nat.le_of_ble_eq_true rfl) (by decide)
        refine ⟨rfl, ?_⟩
        subst e1
        first | (rw [if_pos b38]; done) | (rw [if_pos b38]; rfl) | (rw [if_neg b38]; exact (q_same (q_keep rfl h_s0 (by omega))).symm)
      · skip
        have b38 : n / 64 < l := Nat.lt_of_not_le fun q => b38 (nI_le q (by omega))
        refine q_aload_n d_Ss_add_41 rfl rfl ?_
        refine q_iload_n d_Ss_add_42 rfl ?_
        refine q_bipush (v := 64) d_Ss_add_43 (by decide) ?_
        refine q_idiv d_Ss_add_45 (by decide) ?_
        rw [hdv]
        refine x_put d_Ss_add_46 f_Ss_15 h_s (Nat.le_of_ble_eq_true rfl) rfl rfl (fun hp2 e2 h_s => ?_)
        have h_w := q_keep e2 h_w (by omega)
        refine q_vret d_Ss_add_49 rfl ?_ (Nat.le_of_ble_eq_true rfl) (Nat.le_of_ble_eq_true rfl) (by decide)
        refine ⟨rfl, ?_⟩
        subst e1; subst e2
        first | (rw [if_pos b38]; done) | (rw [if_pos b38]; rfl) | (rw [if_neg b38]; exact (q_same (q_keep rfl h_s0 (by omega))).symm)
    · skip
      exact absurd (nI_lt (show n < 30000 by omega) (by decide)) b8
set_option maxRecDepth 10000 in
set_option maxHeartbeats 1000000 in
theorem c_Ss_empty (hG : q_GG g) {hp : List va_E} {a : Nat} {l : Int32} {y : Nat → Nat} (h_s : hp[a]? = some (o_Ss a l)) (h_w : hp[a + 1]? = some (a_S y)) : q_C g m_Ss_empty true (q_R 1 16 0 0) [.ref a] hp (q_ret none ((hp.set (a + 1) (a_J 469 (fun j => if j < 469 then 0 else lN (y j)))).set a (o_Ss a 469))) := by
  refine q_C.of hG (by decide) (Nat.le_of_ble_eq_true rfl) ?_
  refine q_aload_n d_Ss_empty_0 rfl rfl ?_
  refine q_get d_Ss_empty_1 f_Ss_11 h_s rfl ?_
  refine q_lconst (v := 0) d_Ss_empty_4 (by decide) ?_
  refine x_callS d_Ss_empty_5 l_Ss_19 s_Ar_fillJ (c_Ar_fillJ hG h_w (by decide)) rfl rfl (Nat.le_of_ble_eq_true rfl) (Nat.le_of_ble_eq_true rfl) (Nat.le_of_ble_eq_true rfl) (Nat.le_of_ble_eq_true rfl) ?_
  have h_s := q_keep (a := a + 1) (y := a_J 469 (fun j => if j < 469 then 0 else lN (y j))) rfl h_s (by omega)
  refine q_aload_n d_Ss_empty_8 rfl rfl ?_
  refine q_sipush (v := 469) d_Ss_empty_9 (by decide) ?_
  refine x_put d_Ss_empty_12 f_Ss_15 h_s (Nat.le_of_ble_eq_true rfl) rfl rfl (fun hp1 e1 h_s => ?_)
  refine q_vret d_Ss_empty_15 rfl ?_ (Nat.le_of_ble_eq_true rfl) (Nat.le_of_ble_eq_true rfl) (by decide)
  exact ⟨rfl, by subst e1; rfl⟩
end C4
