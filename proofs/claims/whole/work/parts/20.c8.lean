/-! World: a step, ends, numbers of states, changes -/
section C8
variable {g : q_G}
theorem u_nI {f : Nat → Nat} {m k y : Nat} {x : Int32} (hm : m = k) (hx : x = nI y) : upd (fun j => nI (f j)) m x = fun j => nI (va_up f k y j) := by
  subst hm; subst hx
  funext j
  unfold upd va_up
  split <;> rfl
set_option maxRecDepth 100000 in
theorem mm_1 : Jvm.Cond.methodLink "StuckSearch$World" 72 Lib.Math.max.name ∈ q_gw := q_i 468 (by rfl)
set_option maxRecDepth 100000 in
theorem mm_2 : Jvm.Cond.static Lib.Math.max.name ∈ q_gw := q_i 469 (by rfl)
set_option maxRecDepth 100000 in
theorem mm_3 : Jvm.Cond.initialized "java/lang/Math" ∈ q_gw := q_i 19 (by rfl)
set_option maxRecDepth 100000 in
theorem mm_4 : Jvm.Cond.code Lib.Math.max.name Lib.Math.max.code 2 (some .int) ∈ q_gw := q_i 470 (by rfl)
theorem mx_1 {z : Nat} (h : 1 ≤ z) (h2 : z < 2 ^ 31) : (if (1 : Int32) < nI z then nI z else 1) = nI z := by
  by_cases hz : z = 1
  · subst hz; rfl
  · have : (1 : Int32) < nI z := nI_lt (a := 1) (by omega) h2
    rw [if_pos this]
set_option maxRecDepth 10000 in
set_option maxHeartbeats 1000000 in
theorem c_Wo_go (hG : q_GG g) {hp : List va_E} {w : w_T} {a q i y : Nat} {pl vl : Nat → Nat} (ha : 37 ≤ a) (hok : w_ok w) (hw : w_A w hp) (hs : s_A a pl vl hp) (hvl : ∀ v, v < 5 → vl v < w_z w v) (hq : q < 6) (hi : i < 13) (hy : wo_o (c_k (w_c w q) i) (c_f (w_c w q) i) (vl (c_v (w_c w q) i)) (w_z w (c_v (w_c w q) i)) = some y) : q_C g m_Wo_go true (q_R 2 34 0 0) [.ref 3, .ref a, .int (nI q), .int (nI i)] hp (q_ret none ((hp.set (a + 2) (a_N 5 (va_up vl (c_v (w_c w q) i) y))).set (a + 1) (a_N 6 (va_up pl q i)))) := by
  refine q_C.of hG (by decide) (Nat.le_of_ble_eq_true rfl) ?_
  obtain ⟨h_w, h_z, -, h_r, h_cs⟩ := id hw
  obtain ⟨h_s, h_p, h_v⟩ := id hs
  obtain ⟨h_c, h_cs2, h_ck, h_cv, h_cf⟩ := h_cs q hq
  obtain ⟨c1, c2, c3, c4⟩ := hok.2.2.2 q hq
  obtain ⟨d1, d2, d3, d4⟩ := c4 i hi
  have hcl : (nI i).toNatClampNeg = i := nI_clamp (by omega)
  have hin : vp_in (nI i) 13 := vp_in_nI hi (by decide)
  have hclq : (nI q).toNatClampNeg = q := nI_clamp (by omega)
  have hinq : vp_in (nI q) 6 := vp_in_nI hq (by decide)
  have hcl2 : (nI (c_v (w_c w q) i)).toNatClampNeg = c_v (w_c w q) i := nI_clamp (by omega)
  have hin2 : vp_in (nI (c_v (w_c w q) i)) 5 := vp_in_nI d3 (by decide)
  refine q_aload_n d_Wo_go_0 rfl rfl ?_
  refine q_get d_Wo_go_1 f_Wo_20 h_w rfl ?_
  refine q_iload_n d_Wo_go_4 rfl ?_
  refine q_aald d_Wo_go_5 h_r rfl hinq (cr_at hq) ?_
  refine q_astore d_Wo_go_6 rfl (by decide) rfl ?_
  refine q_aload_n d_Wo_go_8 rfl rfl ?_
  refine q_get d_Wo_go_9 f_Wo_52 h_s rfl ?_
  refine q_aload d_Wo_go_12 rfl rfl ?_
  refine q_get d_Wo_go_14 f_Wo_62 h_c rfl ?_
  refine q_iload_n d_Wo_go_17 rfl ?_
  refine q_iald d_Wo_go_18 h_cv rfl hin ?_
  rw [hcl]
  refine q_aload_n d_Wo_go_19 rfl rfl ?_
  refine q_aload_n d_Wo_go_20 rfl rfl ?_
  refine q_aload d_Wo_go_21 rfl rfl ?_
  refine q_iload_n d_Wo_go_23 rfl ?_
  refine x_callV d_Wo_go_24 l_Wo_58 i_Wo_outcome v_Wo_outcome rfl h_w (c_Wo_outcome hG hok hw hs hvl hq hi) rfl rfl (Nat.le_of_ble_eq_true rfl) (Nat.le_of_ble_eq_true rfl) (Nat.le_of_ble_eq_true rfl) (Nat.le_of_ble_eq_true rfl) ?_
  rw [hy]
  refine x_iast d_Wo_go_27 h_v rfl hin2 (fun hp1 e1 h_v => ?_)
  have h_s := q_keep e1 h_s (by omega)
  have h_p := q_keep e1 h_p (by omega)
  rw [u_nI hcl2 (show wo_r (some y) = nI y from rfl)] at e1 h_v
  refine q_aload_n d_Wo_go_28 rfl rfl ?_
  refine q_get d_Wo_go_29 f_Wo_47 h_s rfl ?_
  refine q_iload_n d_Wo_go_32 rfl ?_
  refine q_iload_n d_Wo_go_33 rfl ?_
  refine x_iast d_Wo_go_34 h_p rfl hinq (fun hp2 e2 h_p => ?_)
  have h_s := q_keep e2 h_s (by omega)
  have h_v := q_keep e2 h_v (by omega)
  rw [u_nI hclq rfl] at e2 h_p
  refine q_vret d_Wo_go_35 rfl ?_ (Nat.le_of_ble_eq_true rfl) (Nat.le_of_ble_eq_true rfl) (by decide)
  exact ⟨rfl, by subst e1; subst e2; rfl⟩
def w_ae (w : w_T) (pl : Nat → Nat) : Nat → Bool
  | 0 => true
  | q + 1 => w_ae w pl q && (c_e (w_c w q)).testBit (pl q)
theorem w_ae_f {w : w_T} {pl : Nat → Nat} {q : Nat} (h : (c_e (w_c w q)).testBit (pl q) = false) : ∀ n, q < n → w_ae w pl n = false := by
  intro n
  induction n with
  | zero => intro h; omega
  | succ n ih =>
    intro hn
    by_cases e : q = n
    · subst e; simp [w_ae, h]
    · simp [w_ae, ih (by omega)]
set_option maxRecDepth 10000 in
set_option maxHeartbeats 1000000 in
theorem l_Wo_allAtEnds (hG : q_GG g) {hp : List va_E} {w : w_T} {a : Nat} {pl vl : Nat → Nat} (hok : w_ok w) (hw : w_A w hp) (hs : s_A a pl vl hp) (hpl : ∀ q, q < 6 → pl q < 13) : ∀ (k q : Nat), q + k = w_p w → w_ae w pl q = true → q_J g m_Wo_allAtEnds false (q_R 1 14 0 0) (q_ret (some (.int (if w_ae w pl (w_p w) then 1 else 0))) hp) 2 [some (.ref 3), some (.ref a), some (.int (nI q))] [] hp 0 0 false := by
  have hp6 := hok.2.1
  obtain ⟨h_w, h_z, -, h_r, h_cs⟩ := id hw
  obtain ⟨h_s, h_p, h_v⟩ := id hs
  intro k
  induction k with
  | zero =>
    intro q hq hae
    have hq : q = w_p w := by omega
    subst hq
    refine q_iload_n d_Wo_allAtEnds_2 rfl ?_
    refine q_aload_n d_Wo_allAtEnds_3 rfl rfl ?_
    refine q_get d_Wo_allAtEnds_4 f_Wo_35 h_w rfl ?_
    refine q_icmp_ge (tgt := 36) d_Wo_allAtEnds_7 (by decide) (fun b7 => ?_) (fun b7 => ?_)
    · skip
      refine q_iconst (v := 1) d_Wo_allAtEnds_36 (by decide) ?_
      refine q_zret d_Wo_allAtEnds_37 rfl (by decide) ?_ (Nat.le_of_ble_eq_true rfl) (Nat.le_of_ble_eq_true rfl) (by decide)
      exact ⟨by rw [hae]; rfl, rfl⟩
    · skip
      exact absurd (nI_le (Nat.le_refl _) (by omega)) b7
  | succ k ih =>
    intro q hq hae
    obtain ⟨h_c, -⟩ := h_cs q (by omega)
    obtain ⟨c1, c2, c3, c4⟩ := hok.2.2.2 q (by omega)
    have hp13 := hpl q (by omega)
    have hcl : (nI q).toNatClampNeg = q := nI_clamp (by omega)
    have hin : vp_in (nI q) 6 := vp_in_nI (by omega) (by decide)
    refine q_iload_n d_Wo_allAtEnds_2 rfl ?_
    refine q_aload_n d_Wo_allAtEnds_3 rfl rfl ?_
    refine q_get d_Wo_allAtEnds_4 f_Wo_35 h_w rfl ?_
    refine q_icmp_ge (tgt := 36) d_Wo_allAtEnds_7 (by decide) (fun b7 => ?_) (fun b7 => ?_)
    · skip
      exact absurd b7 (nI_ge (show q < w_p w by omega) (by omega))
    · skip
      refine q_aload_n d_Wo_allAtEnds_10 rfl rfl ?_
      refine q_get d_Wo_allAtEnds_11 f_Wo_20 h_w rfl ?_
      refine q_iload_n d_Wo_allAtEnds_14 rfl ?_
      refine q_aald d_Wo_allAtEnds_15 h_r rfl hin (cr_at (by omega)) ?_
      refine q_aload_n d_Wo_allAtEnds_16 rfl rfl ?_
      refine q_get d_Wo_allAtEnds_17 f_Wo_47 h_s rfl ?_
      refine q_iload_n d_Wo_allAtEnds_20 rfl ?_
      refine q_iald d_Wo_allAtEnds_21 h_p rfl hin ?_
      rw [hcl]
      refine x_callV d_Wo_allAtEnds_22 l_Wo_68 i_Co_isEnd v_Co_isEnd rfl h_c (c_Co_isEnd hG h_c) rfl rfl (Nat.le_of_ble_eq_true rfl) (Nat.le_of_ble_eq_true rfl) (Nat.le_of_ble_eq_true rfl) (Nat.le_of_ble_eq_true rfl) ?_
      refine q_if_ne (tgt := 30) d_Wo_allAtEnds_25 (by decide) (fun b25 => ?_) (fun b25 => ?_)
      · skip
        have hb : (c_e (w_c w q)).testBit (pl q) = true := q_bt (fun z => b25 (if_pos ((tb_1 (by omega) (by omega)).mpr z)))
        refine q_iinc d_Wo_allAtEnds_30 rfl (show _ + Int32.ofInt 1 = _ + 1 from rfl) (by decide) rfl ?_
        refine q_goto (tgt := 2) d_Wo_allAtEnds_33 (by decide) ?_
        rw [nI_1]
        exact ih (q + 1) (by omega) (by simp [w_ae, hae, hb])
      · skip
        have hb : (c_e (w_c w q)).testBit (pl q) = false := by
          by_cases z : (nI (c_e (w_c w q)) >>> (nI (pl q) &&& 31)) &&& 1 = 0
          · exact (tb_1 (by omega) (by omega)).mp z
          · rw [if_neg z] at b25
            exact absurd b25 (by decide)
        refine q_iconst (v := 0) d_Wo_allAtEnds_28 (by decide) ?_
        refine q_zret d_Wo_allAtEnds_29 rfl (by decide) ?_ (Nat.le_of_ble_eq_true rfl) (Nat.le_of_ble_eq_true rfl) (by decide)
        exact ⟨by rw [w_ae_f hb _ (by omega)]; rfl, rfl⟩
set_option maxRecDepth 10000 in
set_option maxHeartbeats 1000000 in
theorem c_Wo_allAtEnds (hG : q_GG g) {hp : List va_E} {w : w_T} {a : Nat} {pl vl : Nat → Nat} (hok : w_ok w) (hw : w_A w hp) (hs : s_A a pl vl hp) (hpl : ∀ q, q < 6 → pl q < 13) : q_C g m_Wo_allAtEnds false (q_R 1 14 0 0) [.ref 3, .ref a] hp (q_ret (some (.int (if w_ae w pl (w_p w) then 1 else 0))) hp) := by
  refine q_C.of hG (by decide) (Nat.le_of_ble_eq_true rfl) ?_
  refine q_iconst (v := 0) d_Wo_allAtEnds_0 (by decide) ?_
  refine q_istore_n d_Wo_allAtEnds_1 rfl (by decide) rfl ?_
  exact l_Wo_allAtEnds hG hok hw hs hpl (w_p w) 0 (by omega) rfl
def w_u1 (w : w_T) (pl : Nat → Nat) : Nat → Nat
  | 0 => 0
  | q + 1 => w_u1 w pl q * c_n (w_c w q) + pl q
def w_u2 (w : w_T) (pl vl : Nat → Nat) : Nat → Nat
  | 0 => w_u1 w pl (w_p w)
  | v + 1 => w_u2 w pl vl v * w_z w v + vl v
/-- a state's number -/
abbrev w_u (w : w_T) (pl vl : Nat → Nat) : Nat := w_u2 w pl vl 5
set_option maxRecDepth 10000 in
set_option maxHeartbeats 1000000 in
theorem l_Wo_num2 {hp : List va_E} {w : w_T} {a : Nat} {pl vl : Nat → Nat} (hw : w_A w hp) (hs : s_A a pl vl hp) : ∀ (k v : Nat), v + k = 5 → q_J g m_Wo_numberOf false (q_R 0 0 0 0) (q_ret (some (.int (nI (w_u w pl vl)))) hp) 39 [some (.ref 3), some (.ref a), some (.int (nI (w_u2 w pl vl v))), some (.int (nI v))] [] hp 0 0 false := by
  obtain ⟨h_w, h_z, -, h_r, h_cs⟩ := id hw
  obtain ⟨h_s, h_p, h_v⟩ := id hs
  intro k
  induction k with
  | zero =>
    intro v hv
    have hv : v = 5 := by omega
    subst hv
    refine q_iload_n d_Wo_numberOf_39 rfl ?_
    refine q_iconst (v := 5) d_Wo_numberOf_40 (by decide) ?_
    refine q_icmp_ge (tgt := 66) d_Wo_numberOf_41 (by decide) (fun b41 => ?_) (fun b41 => ?_)
    · skip
      refine q_iload_n d_Wo_numberOf_66 rfl ?_
      refine q_iret d_Wo_numberOf_67 rfl ?_ (Nat.le_of_ble_eq_true rfl) (Nat.le_of_ble_eq_true rfl) (by decide)
      exact ⟨rfl, rfl⟩
    · skip
      exact absurd (nI_le (Nat.le_refl 5) (by decide)) b41
  | succ k ih =>
    intro v hv
    have hcl : (nI v).toNatClampNeg = v := nI_clamp (by omega)
    have hin : vp_in (nI v) 5 := vp_in_nI (by omega) (by decide)
    refine q_iload_n d_Wo_numberOf_39 rfl ?_
    refine q_iconst (v := 5) d_Wo_numberOf_40 (by decide) ?_
    refine q_icmp_ge (tgt := 66) d_Wo_numberOf_41 (by decide) (fun b41 => ?_) (fun b41 => ?_)
    · skip
      exact absurd b41 (nI_ge (show v < 5 by omega) (by decide))
    · skip
      refine q_iload_n d_Wo_numberOf_44 rfl ?_
      refine q_aload_n d_Wo_numberOf_45 rfl rfl ?_
      refine q_get d_Wo_numberOf_46 f_Wo_9 h_w rfl ?_
      refine q_iload_n d_Wo_numberOf_49 rfl ?_
      refine q_iald d_Wo_numberOf_50 h_z rfl hin ?_
      rw [hcl]
      refine q_imul d_Wo_numberOf_51 ?_
      refine q_aload_n d_Wo_numberOf_52 rfl rfl ?_
      refine q_get d_Wo_numberOf_53 f_Wo_52 h_s rfl ?_
      refine q_iload_n d_Wo_numberOf_56 rfl ?_
      refine q_iald d_Wo_numberOf_57 h_v rfl hin ?_
      rw [hcl]
      refine q_iadd d_Wo_numberOf_58 ?_
      rw [pk_mul, nI_add]
      refine q_istore_n d_Wo_numberOf_59 rfl (by decide) rfl ?_
      refine q_iinc d_Wo_numberOf_60 rfl (show _ + Int32.ofInt 1 = _ + 1 from rfl) (by decide) rfl ?_
      refine q_goto (tgt := 39) d_Wo_numberOf_63 (by decide) ?_
      rw [nI_1]
      exact ih (v + 1) (by omega)
set_option maxRecDepth 10000 in
set_option maxHeartbeats 1000000 in
theorem l_Wo_num1 {hp : List va_E} {w : w_T} {a : Nat} {pl vl : Nat → Nat} (hp6 : w_p w ≤ 6) (hw : w_A w hp) (hs : s_A a pl vl hp) : ∀ (k q : Nat), q + k = w_p w → q_J g m_Wo_numberOf false (q_R 0 0 0 0) (q_ret (some (.int (nI (w_u w pl vl)))) hp) 4 [some (.ref 3), some (.ref a), some (.int (nI (w_u1 w pl q))), some (.int (nI q))] [] hp 0 0 false := by
  obtain ⟨h_w, h_z, -, h_r, h_cs⟩ := id hw
  obtain ⟨h_s, h_p, h_v⟩ := id hs
  intro k
  induction k with
  | zero =>
    intro q hq
    have hq : q = w_p w := by omega
    subst hq
    refine q_iload_n d_Wo_numberOf_4 rfl ?_
    refine q_aload_n d_Wo_numberOf_5 rfl rfl ?_
    refine q_get d_Wo_numberOf_6 f_Wo_35 h_w rfl ?_
    refine q_icmp_ge (tgt := 37) d_Wo_numberOf_9 (by decide) (fun b9 => ?_) (fun b9 => ?_)
    · skip
      refine q_iconst (v := 0) d_Wo_numberOf_37 (by decide) ?_
      refine q_istore_n d_Wo_numberOf_38 rfl (by decide) rfl ?_
      exact l_Wo_num2 hw hs 5 0 (by omega)
    · skip
      exact absurd (nI_le (Nat.le_refl _) (by omega)) b9
  | succ k ih =>
    intro q hq
    obtain ⟨h_c, -⟩ := h_cs q (by omega)
    have hcl : (nI q).toNatClampNeg = q := nI_clamp (by omega)
    have hin : vp_in (nI q) 6 := vp_in_nI (by omega) (by decide)
    refine q_iload_n d_Wo_numberOf_4 rfl ?_
    refine q_aload_n d_Wo_numberOf_5 rfl rfl ?_
    refine q_get d_Wo_numberOf_6 f_Wo_35 h_w rfl ?_
    refine q_icmp_ge (tgt := 37) d_Wo_numberOf_9 (by decide) (fun b9 => ?_) (fun b9 => ?_)
    · skip
      exact absurd b9 (nI_ge (show q < w_p w by omega) (by omega))
    · skip
      refine q_iload_n d_Wo_numberOf_12 rfl ?_
      refine q_aload_n d_Wo_numberOf_13 rfl rfl ?_
      refine q_get d_Wo_numberOf_14 f_Wo_20 h_w rfl ?_
      refine q_iload_n d_Wo_numberOf_17 rfl ?_
      refine q_aald d_Wo_numberOf_18 h_r rfl hin (cr_at (by omega)) ?_
      refine q_get d_Wo_numberOf_19 f_Wo_38 h_c rfl ?_
      refine q_imul d_Wo_numberOf_22 ?_
      refine q_aload_n d_Wo_numberOf_23 rfl rfl ?_
      refine q_get d_Wo_numberOf_24 f_Wo_47 h_s rfl ?_
      refine q_iload_n d_Wo_numberOf_27 rfl ?_
      refine q_iald d_Wo_numberOf_28 h_p rfl hin ?_
      rw [hcl]
      refine q_iadd d_Wo_numberOf_29 ?_
      rw [pk_mul, nI_add]
      refine q_istore_n d_Wo_numberOf_30 rfl (by decide) rfl ?_
      refine q_iinc d_Wo_numberOf_31 rfl (show _ + Int32.ofInt 1 = _ + 1 from rfl) (by decide) rfl ?_
      refine q_goto (tgt := 4) d_Wo_numberOf_34 (by decide) ?_
      rw [nI_1]
      exact ih (q + 1) (by omega)
set_option maxRecDepth 10000 in
set_option maxHeartbeats 1000000 in
theorem c_Wo_numberOf (hG : q_GG g) {hp : List va_E} {w : w_T} {a : Nat} {pl vl : Nat → Nat} (hp6 : w_p w ≤ 6) (hw : w_A w hp) (hs : s_A a pl vl hp) : q_C g m_Wo_numberOf false (q_R 0 0 0 0) [.ref 3, .ref a] hp (q_ret (some (.int (nI (w_u w pl vl)))) hp) := by
  refine q_C.of hG (by decide) (Nat.le_of_ble_eq_true rfl) ?_
  refine q_iconst (v := 0) d_Wo_numberOf_0 (by decide) ?_
  refine q_istore_n d_Wo_numberOf_1 rfl (by decide) rfl ?_
  refine q_iconst (v := 0) d_Wo_numberOf_2 (by decide) ?_
  refine q_istore_n d_Wo_numberOf_3 rfl (by decide) rfl ?_
  exact l_Wo_num1 hp6 hw hs (w_p w) 0 (by omega)
end C8
