/-! World: is it searchable, the first state, what an act makes, where a process can go -/
section C7
variable {g : q_G}
theorem w_q1_le {w : w_T} (hok : w_ok w) : ∀ q, q ≤ 6 → w_q1 w q ≤ 13 ^ q ∧ 1 ≤ w_q1 w q := by
  intro q
  induction q with
  | zero => intro _; exact ⟨Nat.le_refl _, Nat.le_refl _⟩
  | succ q ih =>
    intro hq
    obtain ⟨h1, h2⟩ := ih (by omega)
    obtain ⟨c1, c2, -⟩ := hok.2.2.2 q (by omega)
    refine ⟨?_, Nat.mul_pos h2 c1⟩
    rw [Nat.pow_succ]
    exact Nat.mul_le_mul h1 c2
theorem w_q2_le {w : w_T} (hok : w_ok w) : ∀ v, v ≤ 5 → w_q2 w v ≤ 13 ^ 6 * 5 ^ v ∧ 1 ≤ w_q2 w v := by
  intro v
  induction v with
  | zero =>
    intro _
    obtain ⟨h1, h2⟩ := w_q1_le hok (w_p w) hok.2.1
    refine ⟨?_, h2⟩
    have : 13 ^ (w_p w) ≤ 13 ^ 6 := Nat.pow_le_pow_right (by decide) hok.2.1
    show w_q1 w (w_p w) ≤ _
    omega
  | succ v ih =>
    intro hv
    obtain ⟨h1, h2⟩ := ih (by omega)
    obtain ⟨c1, c2, -⟩ := hok.2.2.1 v (by omega)
    refine ⟨?_, Nat.mul_pos h2 c1⟩
    show w_q2 w v * w_z w v ≤ 13 ^ 6 * (5 ^ v * 5)
    rw [← Nat.mul_assoc]
    exact Nat.mul_le_mul h1 c2
theorem w_q_lt {w : w_T} (hok : w_ok w) : w_q w < 2 ^ 40 := by
  have := (w_q2_le hok 5 (by omega)).1
  have e : 13 ^ 6 * 5 ^ 5 = 15083778125 := by decide
  show w_q2 w 5 < _
  omega
theorem ss_gt {x y : Int64} : 0 < lg_cmp x y ↔ y < x := by
  unfold lg_cmp
  by_cases h1 : x > y
  · rw [if_pos h1]; exact ⟨fun _ => h1, fun _ => by decide⟩
  · rw [if_neg h1]
    refine ⟨fun h => ?_, fun h => absurd h h1⟩
    split at h <;> exact absurd h (by decide)
set_option maxRecDepth 10000 in
set_option maxHeartbeats 1000000 in
theorem c_Wo_isSearchable (hG : q_GG g) {hp : List va_E} {w : w_T} (hok : w_ok w) (hw : w_A w hp) : q_C g m_Wo_isSearchable false (q_R 1 15 0 0) [.ref 3] hp (q_ret (some (.int (if w_q w ≤ 30000 then 1 else 0))) hp) := by
  refine q_C.of hG (by decide) (Nat.le_of_ble_eq_true rfl) ?_
  have h_w := hw.1
  have hb := w_q_lt hok
  have hc : (0 < lg_cmp (lN (w_q w)) 30000) ↔ ¬ w_q w ≤ 30000 := by
    rw [ss_gt, show (30000 : Int64) = lN 30000 from rfl, pk_lLT (by decide) (by omega)]
    omega
  refine q_aload_n d_Wo_isSearchable_0 rfl rfl ?_
  refine x_callV d_Wo_isSearchable_1 l_Wo_41 i_Wo_countStates v_Wo_countStates rfl h_w (c_Wo_countStates hG hok hw) rfl rfl (Nat.le_of_ble_eq_true rfl) (Nat.le_of_ble_eq_true rfl) (Nat.le_of_ble_eq_true rfl) (Nat.le_of_ble_eq_true rfl) ?_
  refine q_ldc2 d_Wo_isSearchable_4 c_Wo_45 ?_
  refine q_lcmp d_Wo_isSearchable_7 ?_
  refine q_if_gt (tgt := 15) d_Wo_isSearchable_8 (by decide) (fun b8 => ?_) (fun b8 => ?_)
  · skip
    rw [hc] at b8
    refine q_iconst (v := 0) d_Wo_isSearchable_15 (by decide) ?_
    refine q_zret d_Wo_isSearchable_16 rfl (by decide) ?_ (Nat.le_of_ble_eq_true rfl) (Nat.le_of_ble_eq_true rfl) (by decide)
    exact ⟨by simp [b8], rfl⟩
  · skip
    rw [hc] at b8
    refine q_iconst (v := 1) d_Wo_isSearchable_11 (by decide) ?_
    refine q_goto (tgt := 16) d_Wo_isSearchable_12 (by decide) ?_
    refine q_zret d_Wo_isSearchable_16 rfl (by decide) ?_ (Nat.le_of_ble_eq_true rfl) (Nat.le_of_ble_eq_true rfl) (by decide)
    exact ⟨by simp [b8], rfl⟩
theorem u_putF {f vl : Nat → Int32} {i m : Nat} (hm : m = i) : upd (fun j => if j < i then f j else vl j) m (f m) = fun j => if j < i + 1 then f j else vl j := by
  subst hm
  funext j
  unfold upd
  by_cases h : j = m
  · subst h; simp
  · have : j < m + 1 ↔ j < m := by omega
    simp [h, this]
set_option maxRecDepth 10000 in
set_option maxHeartbeats 1000000 in
theorem l_Wo_putFirst {hp : List va_E} {n pp a : Nat} {f : Nat → Nat} {vl : Nat → Int32} (ha : 37 ≤ a) : ∀ (k i : Nat) (hp0 : List va_E), i + k = 5 → hp0[3]? = some (o_Wo n pp) → hp0[5]? = some (a_N 5 f) → hp0[a]? = some (o_St a) → hp0[a + 2]? = some (a_I 5 (fun j => if j < i then nI (f j) else vl j)) → hp0 = hp.set (a + 2) (a_I 5 (fun j => if j < i then nI (f j) else vl j)) → q_J g m_Wo_putFirst true (q_R 1 16 0 0) (q_ret none (hp.set (a + 2) (a_I 5 (fun j => if j < 5 then nI (f j) else vl j)))) 10 [some (.ref 3), some (.ref a), some (.int (nI i))] [] hp0 0 0 true := by
  intro k
  induction k with
  | zero =>
    intro i hp0 hi h_w h_f h_s h_v e0
    have hi : i = 5 := by omega
    subst hi
    refine q_iload_n d_Wo_putFirst_10 rfl ?_
    refine q_iconst (v := 5) d_Wo_putFirst_11 (by decide) ?_
    refine q_icmp_ge (tgt := 33) d_Wo_putFirst_12 (by decide) (fun b12 => ?_) (fun b12 => ?_)
    · skip
      refine q_vret d_Wo_putFirst_33 rfl ?_ (Nat.le_of_ble_eq_true rfl) (Nat.le_of_ble_eq_true rfl) (by decide)
      exact ⟨rfl, e0⟩
    · skip
      exact absurd (nI_le (Nat.le_refl 5) (by decide)) b12
  | succ k ih =>
    intro i hp0 hi h_w h_f h_s h_v e0
    have hcl : (nI i).toNatClampNeg = i := nI_clamp (by omega)
    have hin : vp_in (nI i) 5 := vp_in_nI (by omega) (by decide)
    refine q_iload_n d_Wo_putFirst_10 rfl ?_
    refine q_iconst (v := 5) d_Wo_putFirst_11 (by decide) ?_
    refine q_icmp_ge (tgt := 33) d_Wo_putFirst_12 (by decide) (fun b12 => ?_) (fun b12 => ?_)
    · skip
      exact absurd b12 (nI_ge (show i < 5 by omega) (by decide))
    · skip
      refine q_aload_n d_Wo_putFirst_15 rfl rfl ?_
      refine q_get d_Wo_putFirst_16 f_Wo_52 h_s rfl ?_
      refine q_iload_n d_Wo_putFirst_19 rfl ?_
      refine q_aload_n d_Wo_putFirst_20 rfl rfl ?_
      refine q_get d_Wo_putFirst_21 f_Wo_15 h_w rfl ?_
      refine q_iload_n d_Wo_putFirst_24 rfl ?_
      refine q_iald d_Wo_putFirst_25 h_f rfl hin ?_
      refine x_iast d_Wo_putFirst_26 h_v rfl hin (fun hp1 e1 h_v => ?_)
      have h_w := q_keep e1 h_w (by omega)
      have h_f := q_keep e1 h_f (by omega)
      have h_s := q_keep e1 h_s (by omega)
      rw [u_putF hcl] at e1 h_v
      refine q_iinc d_Wo_putFirst_27 rfl (show _ + Int32.ofInt 1 = _ + 1 from rfl) (by decide) rfl ?_
      refine q_goto (tgt := 10) d_Wo_putFirst_30 (by decide) ?_
      rw [nI_1]
      exact ih (i + 1) hp1 (by omega) h_w h_f h_s h_v (by rw [e1, e0, List.set_set])
set_option maxRecDepth 10000 in
set_option maxHeartbeats 1000000 in
theorem c_Wo_putFirst (hG : q_GG g) {hp : List va_E} {n pp a : Nat} {f : Nat → Nat} {pl vl : Nat → Int32} (ha : 37 ≤ a) (h_w : hp[3]? = some (o_Wo n pp)) (h_f : hp[5]? = some (a_N 5 f)) (h_s : hp[a]? = some (o_St a)) (h_p : hp[a + 1]? = some (a_I 6 pl)) (h_v : hp[a + 2]? = some (a_I 5 vl)) : q_C g m_Wo_putFirst true (q_R 1 16 0 0) [.ref 3, .ref a] hp (q_ret none ((hp.set (a + 1) (a_I 6 (fun j => if j < 6 then 0 else pl j))).set (a + 2) (a_I 5 (fun j => if j < 5 then nI (f j) else vl j)))) := by
  refine q_C.of hG (by decide) (Nat.le_of_ble_eq_true rfl) ?_
  refine q_aload_n d_Wo_putFirst_0 rfl rfl ?_
  refine q_get d_Wo_putFirst_1 f_Wo_47 h_s rfl ?_
  refine q_iconst (v := 0) d_Wo_putFirst_4 (by decide) ?_
  refine x_callS d_Wo_putFirst_5 l_Wo_24 s_Ar_fillI (c_Ar_fillI hG h_p (by decide)) rfl rfl (Nat.le_of_ble_eq_true rfl) (Nat.le_of_ble_eq_true rfl) (Nat.le_of_ble_eq_true rfl) (Nat.le_of_ble_eq_true rfl) ?_
  refine q_wrote ?_
  refine q_iconst (v := 0) d_Wo_putFirst_8 (by decide) ?_
  refine q_istore_n d_Wo_putFirst_9 rfl (by decide) rfl ?_
  refine l_Wo_putFirst ha 5 0 _ (by omega) (q_keep rfl h_w (by omega)) (q_keep rfl h_f (by omega)) (q_keep rfl h_s (by omega)) ?_ ?_
  · exact q_keep rfl (by simpa using h_v) (by omega)
  · exact (q_same (q_keep rfl (by simpa using h_v) (by omega))).symm
set_option maxRecDepth 10000 in
set_option maxHeartbeats 1000000 in
theorem c_Wo_outcome (hG : q_GG g) {hp : List va_E} {w : w_T} {a q i : Nat} {pl vl : Nat → Nat} (hok : w_ok w) (hw : w_A w hp) (hs : s_A a pl vl hp) (hvl : ∀ v, v < 5 → vl v < w_z w v) (hq : q < 6) (hi : i < 13) : q_C g m_Wo_outcome false (q_R 1 15 0 0) [.ref 3, .ref a, .ref (7 + 5 * q), .int (nI i)] hp (q_ret (some (.int (wo_r (wo_o (c_k (w_c w q) i) (c_f (w_c w q) i) (vl (c_v (w_c w q) i)) (w_z w (c_v (w_c w q) i)))))) hp) := by
  refine q_C.of hG (by decide) (Nat.le_of_ble_eq_true rfl) ?_
  obtain ⟨h_w, h_z, -, -, h_cs⟩ := hw
  obtain ⟨h_s, h_p, h_v⟩ := hs
  obtain ⟨h_c, h_cs2, h_ck, h_cv, h_cf⟩ := h_cs q hq
  obtain ⟨c1, c2, c3, c4⟩ := hok.2.2.2 q hq
  obtain ⟨d1, d2, d3, d4⟩ := c4 i hi
  obtain ⟨z1, z2, -⟩ := hok.2.2.1 _ d3
  have v1 := hvl _ d3
  have hcl : (nI i).toNatClampNeg = i := nI_clamp (by omega)
  have hin : vp_in (nI i) 13 := vp_in_nI hi (by decide)
  have hcl2 : (nI (c_v (w_c w q) i)).toNatClampNeg = c_v (w_c w q) i := nI_clamp (by omega)
  have hin2 : vp_in (nI (c_v (w_c w q) i)) 5 := vp_in_nI d3 (by decide)
  refine q_aload_n d_Wo_outcome_0 rfl rfl ?_
  refine q_get d_Wo_outcome_1 f_Wo_62 h_c rfl ?_
  refine q_iload_n d_Wo_outcome_4 rfl ?_
  refine q_iald d_Wo_outcome_5 h_cv rfl hin ?_
  rw [hcl]
  refine q_istore d_Wo_outcome_6 (by decide) rfl ?_
  refine q_aload_n d_Wo_outcome_8 rfl rfl ?_
  refine q_iload_n d_Wo_outcome_9 rfl ?_
  refine q_aload_n d_Wo_outcome_10 rfl rfl ?_
  refine q_get d_Wo_outcome_11 f_Wo_52 h_s rfl ?_
  refine q_iload d_Wo_outcome_14 rfl ?_
  refine q_iald d_Wo_outcome_16 h_v rfl hin2 ?_
  rw [hcl2]
  refine q_aload_n d_Wo_outcome_17 rfl rfl ?_
  refine q_get d_Wo_outcome_18 f_Wo_9 h_w rfl ?_
  refine q_iload d_Wo_outcome_21 rfl ?_
  refine q_iald d_Wo_outcome_23 h_z rfl hin2 ?_
  rw [hcl2]
  refine x_callV d_Wo_outcome_24 l_Wo_65 i_Co_outcome v_Co_outcome rfl h_c (c_Co_outcome hG h_c h_ck h_cf hi) rfl rfl (Nat.le_of_ble_eq_true rfl) (Nat.le_of_ble_eq_true rfl) (Nat.le_of_ble_eq_true rfl) (Nat.le_of_ble_eq_true rfl) ?_
  refine q_iret d_Wo_outcome_27 rfl ?_ (Nat.le_of_ble_eq_true rfl) (Nat.le_of_ble_eq_true rfl) (by decide)
  exact ⟨by rw [wo_o_is (by omega) (by omega) (by omega) (by omega) z1], rfl⟩
/-- can process q step to j -/
def w_can (w : w_T) (pl vl : Nat → Nat) (q j : Nat) : Bool := (c_s (w_c w q) (pl q)).testBit j && (wo_o (c_k (w_c w q) j) (c_f (w_c w q) j) (vl (c_v (w_c w q) j)) (w_z w (c_v (w_c w q) j))).isSome
/-- the places 1 to k to which it can, as bits -/
def w_op (w : w_T) (pl vl : Nat → Nat) (q : Nat) : Nat → Nat
  | 0 => 0
  | k + 1 => if w_can w pl vl q (k + 1) then w_op w pl vl q k ||| 2 ^ (k + 1) else w_op w pl vl q k
theorem wo_r_m1 {o : Option Nat} (h : ∀ y, o = some y → y < 2 ^ 31) : wo_r o = -1 ↔ o.isSome = false := by
  cases o with
  | none => exact ⟨fun _ => rfl, fun _ => rfl⟩
  | some y => exact ⟨fun q => absurd q (tb_m1 (h y rfl)), fun q => by cases q⟩
set_option maxRecDepth 10000 in
set_option maxHeartbeats 1000000 in
theorem l_Wo_openPlaces (hG : q_GG g) {hp : List va_E} {w : w_T} {a q : Nat} {pl vl : Nat → Nat} (hok : w_ok w) (hw : w_A w hp) (hs : s_A a pl vl hp) (hvl : ∀ v, v < 5 → vl v < w_z w v) (hq : q < 6) (hT : c_s (w_c w q) (pl q) < 2 ^ 31) : ∀ (m k : Nat), k + 1 + m = c_n (w_c w q) → q_J g m_Wo_openPlaces false (q_R 2 34 0 0) (q_ret (some (.int (nI (w_op w pl vl q (c_n (w_c w q) - 1))))) hp) 26 [some (.ref 3), some (.ref a), some (.int (nI q)), some (.ref (7 + 5 * q)), some (.int (nI (c_s (w_c w q) (pl q)))), some (.int (nI (w_op w pl vl q k))), some (.int (nI (k + 1)))] [] hp 0 0 false := by
  have h_w := hw.1
  have h_s := hs.1
  have h_c := (hw.2.2.2.2 q hq).1
  obtain ⟨c1, c2, c3, c4⟩ := hok.2.2.2 q hq
  intro m
  induction m with
  | zero =>
    intro k hk
    have hk2 : c_n (w_c w q) = k + 1 := by omega
    refine q_iload d_Wo_openPlaces_26 rfl ?_
    refine q_aload_n d_Wo_openPlaces_28 rfl rfl ?_
    refine q_get d_Wo_openPlaces_29 f_Wo_38 h_c rfl ?_
    refine q_icmp_ge (tgt := 72) d_Wo_openPlaces_32 (by decide) (fun b32 => ?_) (fun b32 => ?_)
    · skip
      refine q_iload d_Wo_openPlaces_72 rfl ?_
      refine q_iret d_Wo_openPlaces_74 rfl ?_ (Nat.le_of_ble_eq_true rfl) (Nat.le_of_ble_eq_true rfl) (by decide)
      exact ⟨by rw [show c_n (w_c w q) - 1 = k by omega], rfl⟩
    · skip
      exact absurd (by rw [hk2]; exact nI_le (Nat.le_refl _) (by omega)) b32
  | succ m ih =>
    intro k hk
    obtain ⟨d1, d2, d3, d4⟩ := c4 (k + 1) (by omega)
    obtain ⟨z1, z2, -⟩ := hok.2.2.1 _ d3
    have v1 := hvl _ d3
    have hm1 := wo_r_m1 (o := wo_o (c_k (w_c w q) (k + 1)) (c_f (w_c w q) (k + 1)) (vl (c_v (w_c w q) (k + 1))) (w_z w (c_v (w_c w q) (k + 1)))) (fun y hy => by
      have : y < 6 := by
        unfold wo_o at hy
        repeat' split at hy
        all_goals first | (cases hy; omega) | (cases hy)
      omega)
    refine q_iload d_Wo_openPlaces_26 rfl ?_
    refine q_aload_n d_Wo_openPlaces_28 rfl rfl ?_
    refine q_get d_Wo_openPlaces_29 f_Wo_38 h_c rfl ?_
    refine q_icmp_ge (tgt := 72) d_Wo_openPlaces_32 (by decide) (fun b32 => ?_) (fun b32 => ?_)
    · skip
      exact absurd b32 (nI_ge (show k + 1 < c_n (w_c w q) by omega) (by omega))
    · skip
      refine q_iload d_Wo_openPlaces_35 rfl ?_
      refine q_iload d_Wo_openPlaces_37 rfl ?_
      refine q_ishr d_Wo_openPlaces_39 ?_
      refine q_iconst (v := 1) d_Wo_openPlaces_40 (by decide) ?_
      refine q_iand d_Wo_openPlaces_41 ?_
      refine q_if_eq (tgt := 66) d_Wo_openPlaces_42 (by decide) (fun b42 => ?_) (fun b42 => ?_)
      · skip
        have b42 := (tb_1 hT (by omega)).mp b42
        have hop : w_op w pl vl q (k + 1) = w_op w pl vl q k := by simp [w_op, w_can, b42]
        refine q_iinc d_Wo_openPlaces_66 rfl (show _ + Int32.ofInt 1 = _ + 1 from rfl) (by decide) rfl ?_
        refine q_goto (tgt := 26) d_Wo_openPlaces_69 (by decide) ?_
        rw [nI_1]
        rw [← hop]
        exact ih (k + 1) (by omega)
      · skip
        have b42 := q_bt (fun z => b42 ((tb_1 hT (by omega)).mpr z))
        refine q_aload_n d_Wo_openPlaces_45 rfl rfl ?_
        refine q_aload_n d_Wo_openPlaces_46 rfl rfl ?_
        refine q_aload_n d_Wo_openPlaces_47 rfl rfl ?_
        refine q_iload d_Wo_openPlaces_48 rfl ?_
        refine x_callV d_Wo_openPlaces_50 l_Wo_58 i_Wo_outcome v_Wo_outcome rfl h_w (c_Wo_outcome hG hok hw hs hvl hq (by omega)) rfl rfl (Nat.le_of_ble_eq_true rfl) (Nat.le_of_ble_eq_true rfl) (Nat.le_of_ble_eq_true rfl) (Nat.le_of_ble_eq_true rfl) ?_
        refine q_iconst (v := (-1)) d_Wo_openPlaces_53 (by decide) ?_
        refine q_icmp_eq (tgt := 66) d_Wo_openPlaces_54 (by decide) (fun b54 => ?_) (fun b54 => ?_)
        · skip
          rw [hm1] at b54
          have hop : w_op w pl vl q (k + 1) = w_op w pl vl q k := by simp [w_op, w_can, b54]
          refine q_iinc d_Wo_openPlaces_66 rfl (show _ + Int32.ofInt 1 = _ + 1 from rfl) (by decide) rfl ?_
          refine q_goto (tgt := 26) d_Wo_openPlaces_69 (by decide) ?_
          rw [nI_1]
          rw [← hop]
          exact ih (k + 1) (by omega)
        · skip
          rw [hm1] at b54
          have b54 := q_bt b54
          have hop : w_op w pl vl q (k + 1) = w_op w pl vl q k ||| 2 ^ (k + 1) := by simp [w_op, w_can, b42, b54]
          refine q_iload d_Wo_openPlaces_57 rfl ?_
          refine q_iconst (v := 1) d_Wo_openPlaces_59 (by decide) ?_
          refine q_iload d_Wo_openPlaces_60 rfl ?_
          refine q_ishl d_Wo_openPlaces_62 ?_
          rw [tb_2 (k + 1) (by omega)]
          refine q_ior d_Wo_openPlaces_63 ?_
          rw [tb_or, ← hop]
          refine q_istore d_Wo_openPlaces_64 (by decide) rfl ?_
          refine q_iinc d_Wo_openPlaces_66 rfl (show _ + Int32.ofInt 1 = _ + 1 from rfl) (by decide) rfl ?_
          refine q_goto (tgt := 26) d_Wo_openPlaces_69 (by decide) ?_
          rw [nI_1]
          exact ih (k + 1) (by omega)
set_option maxRecDepth 10000 in
set_option maxHeartbeats 1000000 in
theorem c_Wo_openPlaces (hG : q_GG g) {hp : List va_E} {w : w_T} {a q : Nat} {pl vl : Nat → Nat} (hok : w_ok w) (hw : w_A w hp) (hs : s_A a pl vl hp) (hvl : ∀ v, v < 5 → vl v < w_z w v) (hpl : pl q < 13) (hq : q < 6) : q_C g m_Wo_openPlaces false (q_R 2 34 0 0) [.ref 3, .ref a, .int (nI q)] hp (q_ret (some (.int (nI (w_op w pl vl q (c_n (w_c w q) - 1))))) hp) := by
  refine q_C.of hG (by decide) (Nat.le_of_ble_eq_true rfl) ?_
  obtain ⟨h_w, h_z, -, h_r, h_cs⟩ := id hw
  obtain ⟨h_s, h_p, h_v⟩ := id hs
  obtain ⟨h_c, h_cs2, -⟩ := h_cs q hq
  obtain ⟨c1, c2, c3, c4⟩ := hok.2.2.2 q hq
  have hT := (c4 (pl q) hpl).1
  have hin : vp_in (nI q) 6 := vp_in_nI hq (by decide)
  have hcl : (nI q).toNatClampNeg = q := nI_clamp (by omega)
  have hin2 : vp_in (nI (pl q)) 13 := vp_in_nI hpl (by decide)
  have hcl2 : (nI (pl q)).toNatClampNeg = pl q := nI_clamp (by omega)
  refine q_aload_n d_Wo_openPlaces_0 rfl rfl ?_
  refine q_get d_Wo_openPlaces_1 f_Wo_20 h_w rfl ?_
  refine q_iload_n d_Wo_openPlaces_4 rfl ?_
  refine q_aald d_Wo_openPlaces_5 h_r rfl hin (cr_at hq) ?_
  refine q_astore_n d_Wo_openPlaces_6 rfl rfl (by decide) rfl ?_
  refine q_aload_n d_Wo_openPlaces_7 rfl rfl ?_
  refine q_get d_Wo_openPlaces_8 f_Wo_55 h_c rfl ?_
  refine q_aload_n d_Wo_openPlaces_11 rfl rfl ?_
  refine q_get d_Wo_openPlaces_12 f_Wo_47 h_s rfl ?_
  refine q_iload_n d_Wo_openPlaces_15 rfl ?_
  refine q_iald d_Wo_openPlaces_16 h_p rfl hin ?_
  rw [hcl]
  refine q_iald d_Wo_openPlaces_17 h_cs2 rfl hin2 ?_
  rw [hcl2]
  refine q_istore d_Wo_openPlaces_18 (by decide) rfl ?_
  refine q_iconst (v := 0) d_Wo_openPlaces_20 (by decide) ?_
  refine q_istore d_Wo_openPlaces_21 (by decide) rfl ?_
  refine q_iconst (v := 1) d_Wo_openPlaces_23 (by decide) ?_
  refine q_istore d_Wo_openPlaces_24 (by decide) rfl ?_
  exact l_Wo_openPlaces hG hok hw hs hvl hq (by omega) (c_n (w_c w q) - 1) 0 (by omega)
end C7
