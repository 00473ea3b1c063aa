/-! World: a state from its number; changes of the world -/
section C9
variable {g : q_G}
/-- a counter that goes down to -1 -/
def wo_c : Nat → Int32
  | 0 => -1
  | r + 1 => nI r
theorem wo_c_m (r : Nat) : nI r + (-1) = wo_c r := by
  cases r with
  | zero => decide
  | succ r => exact pk_m1 r
def w_r2 (w : w_T) (n : Nat) : Nat → Nat
  | 0 => n
  | k + 1 => w_r2 w n k / w_z w (4 - k)
def w_dv (w : w_T) (n j : Nat) : Nat := w_r2 w n (4 - j) % w_z w j
def w_r1 (w : w_T) (n : Nat) : Nat → Nat
  | 0 => w_r2 w n 5
  | k + 1 => w_r1 w n k / c_n (w_c w (w_p w - 1 - k))
def w_dp (w : w_T) (n q : Nat) : Nat := w_r1 w n (w_p w - 1 - q) % c_n (w_c w q)
theorem w_r2_le (w : w_T) (n k : Nat) : w_r2 w n k ≤ n := by
  induction k with
  | zero => exact Nat.le_refl _
  | succ k ih => exact Nat.le_trans (Nat.div_le_self _ _) ih
theorem w_r1_le (w : w_T) (n k : Nat) : w_r1 w n k ≤ n := by
  induction k with
  | zero => exact w_r2_le w n 5
  | succ k ih => exact Nat.le_trans (Nat.div_le_self _ _) ih
/-- a row whose places from r to m - 1 have been set anew -/
def w_dn (r m : Nat) (d : Nat → Nat) (f : Nat → Int32) : Nat → Int32 := fun j => if r ≤ j ∧ j < m then nI (d j) else f j
theorem w_dn_s {r m k : Nat} {d : Nat → Nat} {f : Nat → Int32} {x : Int32} (hr : r < m) (hk : k = r) (hx : x = nI (d r)) : upd (w_dn (r + 1) m d f) k x = w_dn r m d f := by
  subst hk; subst hx
  funext j
  unfold upd w_dn
  by_cases h : j = k
  · subst h; simp [hr]
  · have : k + 1 ≤ j ↔ k ≤ j := by omega
    simp [h, this]
theorem w_dn_m {m : Nat} {d : Nat → Nat} {f : Nat → Int32} : w_dn m m d f = f := by
  funext j
  unfold w_dn
  rw [if_neg (by omega)]
set_option maxRecDepth 10000 in
set_option maxHeartbeats 1000000 in
theorem l_Wo_pnB {hpb : List va_E} {w : w_T} {n a : Nat} {pl : Nat → Int32} (ha : 37 ≤ a) (hn : n < 2 ^ 31) (hok : w_ok w) : ∀ (r : Nat), r ≤ w_p w → ∀ (hp0 : List va_E) (z5 : Option Value), hp0[3]? = some (o_Wo (w_n w) (w_p w)) → hp0[6]? = some a_Cr → (∀ q, q < 6 → hp0[7 + 5 * q]? = some (o_Co (7 + 5 * q) (nI (c_n (w_c w q))) (nI (c_e (w_c w q))))) → hp0[a]? = some (o_St a) → hp0[a + 1]? = some (a_I 6 (w_dn r (w_p w) (w_dp w n) pl)) → hp0 = hpb.set (a + 1) (a_I 6 (w_dn r (w_p w) (w_dp w n) pl)) → q_J g m_Wo_putNumbered true (q_R 1 13 0 0) (q_ret none (hpb.set (a + 1) (a_I 6 (w_dn 0 (w_p w) (w_dp w n) pl)))) 53 [some (.ref 3), some (.int (nI n)), some (.ref a), some (.int (nI (w_r1 w n (w_p w - r)))), some (.int (wo_c r)), z5] [] hp0 0 0 true := by
  have hp6 := hok.2.1
  intro r
  induction r with
  | zero =>
    intro hr hp0 z5 h_w h_r h_cs h_s h_p e0
    refine q_iload d_Wo_putNumbered_53 rfl ?_
    refine q_if_lt (tgt := 96) d_Wo_putNumbered_55 (by decide) (fun b55 => ?_) (fun b55 => ?_)
    · skip
      refine q_vret d_Wo_putNumbered_96 rfl ?_ (Nat.le_of_ble_eq_true rfl) (Nat.le_of_ble_eq_true rfl) (by decide)
      exact ⟨rfl, e0⟩
    · skip
      exact absurd (by decide) b55
  | succ r ih =>
    intro hr hp0 z5 h_w h_r h_cs h_s h_p e0
    rw [show wo_c (r + 1) = nI r from rfl]
    have h_c := h_cs r (by omega)
    obtain ⟨c1, c2, -⟩ := hok.2.2.2 r (by omega)
    have hcl : (nI r).toNatClampNeg = r := nI_clamp (by omega)
    have hin : vp_in (nI r) 6 := vp_in_nI (by omega) (by decide)
    have hne : ¬ nI (c_n (w_c w r)) = 0 := nI_ne0 (by omega) (by omega)
    have hle := w_r1_le w n (w_p w - (r + 1))
    have hrm : nI (w_r1 w n (w_p w - (r + 1))) - nI (w_r1 w n (w_p w - (r + 1))) / nI (c_n (w_c w r)) * nI (c_n (w_c w r)) = nI (w_r1 w n (w_p w - (r + 1)) % c_n (w_c w r)) := pk_rem (by omega) (by omega) (by omega)
    have hdv : nI (w_r1 w n (w_p w - (r + 1))) / nI (c_n (w_c w r)) = nI (w_r1 w n (w_p w - r)) := by
      rw [pk_div (by omega) (by omega) (by omega), show w_p w - r = (w_p w - (r + 1)) + 1 by omega]
      show _ = nI (w_r1 w n (w_p w - (r + 1)) / c_n (w_c w (w_p w - 1 - (w_p w - (r + 1)))))
      rw [show w_p w - 1 - (w_p w - (r + 1)) = r by omega]
    have hd : nI (w_r1 w n (w_p w - (r + 1)) % c_n (w_c w r)) = nI (w_dp w n r) := by
      unfold w_dp
      rw [show w_p w - 1 - r = w_p w - (r + 1) by omega]
    refine q_iload d_Wo_putNumbered_53 rfl ?_
    refine q_if_lt (tgt := 96) d_Wo_putNumbered_55 (by decide) (fun b55 => ?_) (fun b55 => ?_)
    · skip
      exact absurd b55 (nI_pos (by omega))
    · skip
      refine q_iconst (v := 1) d_Wo_putNumbered_58 (by decide) ?_
      refine q_aload_n d_Wo_putNumbered_59 rfl rfl ?_
      refine q_get d_Wo_putNumbered_60 f_Wo_20 h_w rfl ?_
      refine q_iload d_Wo_putNumbered_63 rfl ?_
      refine q_aald d_Wo_putNumbered_65 h_r rfl hin (cr_at (by omega)) ?_
      refine q_get d_Wo_putNumbered_66 f_Wo_38 h_c rfl ?_
      refine x_max d_Wo_putNumbered_69 mm_1 mm_2 mm_3 mm_4 (by decide) (Nat.le_of_ble_eq_true rfl) (by decide) (by decide) ?_
      rw [mx_1 c1 (by omega)]
      refine q_istore d_Wo_putNumbered_72 (by decide) rfl ?_
      refine q_aload_n d_Wo_putNumbered_74 rfl rfl ?_
      refine q_get d_Wo_putNumbered_75 f_Wo_47 h_s rfl ?_
      refine q_iload d_Wo_putNumbered_78 rfl ?_
      refine q_iload_n d_Wo_putNumbered_80 rfl ?_
      refine q_iload d_Wo_putNumbered_81 rfl ?_
      refine q_irem d_Wo_putNumbered_83 hne ?_
      rw [hrm]
      refine x_iast d_Wo_putNumbered_84 h_p rfl hin (fun hp1 e1 h_p => ?_)
      have h_w := q_keep e1 h_w (by omega)
      have h_s := q_keep e1 h_s (by omega)
      rw [w_dn_s (show r < _ by omega) hcl hd] at e1 h_p
      refine q_iload_n d_Wo_putNumbered_85 rfl ?_
      refine q_iload d_Wo_putNumbered_86 rfl ?_
      refine q_idiv d_Wo_putNumbered_88 hne ?_
      rw [hdv]
      refine q_istore_n d_Wo_putNumbered_89 rfl (by decide) rfl ?_
      refine q_iinc d_Wo_putNumbered_90 rfl (show _ + Int32.ofInt (-1) = _ + (-1) from rfl) (by decide) rfl ?_
      refine q_goto (tgt := 53) d_Wo_putNumbered_93 (by decide) ?_
      rw [wo_c_m]
      have h_cs : ∀ q, q < 6 → hp1[7 + 5 * q]? = some (o_Co (7 + 5 * q) (nI (c_n (w_c w q))) (nI (c_e (w_c w q)))) := fun q hq => q_keep e1 (h_cs q hq) (by omega)
      have h_r := q_keep e1 h_r (by omega)
      exact ih (by omega) hp1 _ h_w h_r h_cs h_s h_p (by rw [e1, e0, List.set_set])
set_option maxRecDepth 10000 in
set_option maxHeartbeats 1000000 in
theorem l_Wo_pnA {hp : List va_E} {w : w_T} {n a : Nat} {pl vl : Nat → Int32} (ha : 37 ≤ a) (hn : n < 2 ^ 31) (hok : w_ok w) (hw : w_A w hp) (h_p : hp[a + 1]? = some (a_I 6 pl)) : ∀ (r : Nat), r ≤ 5 → ∀ (hp0 : List va_E) (z5 : Option Value), hp0[3]? = some (o_Wo (w_n w) (w_p w)) → hp0[4]? = some (a_N 5 (w_z w)) → hp0[a]? = some (o_St a) → hp0[a + 2]? = some (a_I 5 (w_dn r 5 (w_dv w n) vl)) → hp0 = hp.set (a + 2) (a_I 5 (w_dn r 5 (w_dv w n) vl)) → q_J g m_Wo_putNumbered true (q_R 1 13 0 0) (q_ret none ((hp.set (a + 2) (a_I 5 (w_dn 0 5 (w_dv w n) vl))).set (a + 1) (a_I 6 (w_dn 0 (w_p w) (w_dp w n) pl)))) 5 [some (.ref 3), some (.int (nI n)), some (.ref a), some (.int (nI (w_r2 w n (5 - r)))), some (.int (wo_c r)), z5] [] hp0 0 0 true := by
  have hp6 := hok.2.1
  have hcn : nI (w_p w) - 1 = wo_c (w_p w) := by rw [← wo_c_m]; exact Int32.sub_eq_add_neg ..
  intro r
  induction r with
  | zero =>
    intro hr hp0 z5 h_w h_z h_s h_v e0
    refine q_iload d_Wo_putNumbered_5 rfl ?_
    refine q_if_lt (tgt := 45) d_Wo_putNumbered_7 (by decide) (fun b7 => ?_) (fun b7 => ?_)
    · skip
      refine q_aload_n d_Wo_putNumbered_45 rfl rfl ?_
      refine q_get d_Wo_putNumbered_46 f_Wo_35 h_w rfl ?_
      refine q_iconst (v := 1) d_Wo_putNumbered_49 (by decide) ?_
      refine q_isub d_Wo_putNumbered_50 ?_
      rw [hcn]
      refine q_istore d_Wo_putNumbered_51 (by decide) rfl ?_
      rw [show w_r2 w n (5 - 0) = w_r1 w n (w_p w - w_p w) by rw [Nat.sub_self]; rfl]
      refine l_Wo_pnB ha hn hok (w_p w) (Nat.le_refl _) _ _ ?_ ?_ ?_ ?_ ?_ ?_
      · exact h_w
      · rw [e0]; exact q_keep rfl hw.2.2.2.1 (by omega)
      · intro q hq
        rw [e0]; exact q_keep rfl (hw.2.2.2.2 q hq).1 (by omega)
      · exact h_s
      · rw [e0, w_dn_m]; exact q_keep rfl h_p (by omega)
      · rw [e0, w_dn_m]; exact (q_same (q_keep rfl h_p (by omega))).symm
    · skip
      exact absurd (by decide) b7
  | succ r ih =>
    intro hr hp0 z5 h_w h_z h_s h_v e0
    rw [show wo_c (r + 1) = nI r from rfl]
    obtain ⟨z1, z2, -⟩ := hok.2.2.1 r (by omega)
    have hcl : (nI r).toNatClampNeg = r := nI_clamp (by omega)
    have hin : vp_in (nI r) 5 := vp_in_nI (by omega) (by decide)
    have hne : ¬ nI (w_z w r) = 0 := nI_ne0 (by omega) (by omega)
    have hle := w_r2_le w n (5 - (r + 1))
    have hrm : nI (w_r2 w n (5 - (r + 1))) - nI (w_r2 w n (5 - (r + 1))) / nI (w_z w r) * nI (w_z w r) = nI (w_r2 w n (5 - (r + 1)) % w_z w r) := pk_rem (by omega) (by omega) (by omega)
    have hdv : nI (w_r2 w n (5 - (r + 1))) / nI (w_z w r) = nI (w_r2 w n (5 - r)) := by
      rw [pk_div (by omega) (by omega) (by omega), show 5 - r = (5 - (r + 1)) + 1 by omega]
      show _ = nI (w_r2 w n (5 - (r + 1)) / w_z w (4 - (5 - (r + 1))))
      rw [show 4 - (5 - (r + 1)) = r by omega]
    have hd : nI (w_r2 w n (5 - (r + 1)) % w_z w r) = nI (w_dv w n r) := by
      unfold w_dv
      rw [show 4 - r = 5 - (r + 1) by omega]
    refine q_iload d_Wo_putNumbered_5 rfl ?_
    refine q_if_lt (tgt := 45) d_Wo_putNumbered_7 (by decide) (fun b7 => ?_) (fun b7 => ?_)
    · skip
      exact absurd b7 (nI_pos (by omega))
    · skip
      refine q_iconst (v := 1) d_Wo_putNumbered_10 (by decide) ?_
      refine q_aload_n d_Wo_putNumbered_11 rfl rfl ?_
      refine q_get d_Wo_putNumbered_12 f_Wo_9 h_w rfl ?_
      refine q_iload d_Wo_putNumbered_15 rfl ?_
      refine q_iald d_Wo_putNumbered_17 h_z rfl hin ?_
      rw [hcl]
      refine x_max d_Wo_putNumbered_18 mm_1 mm_2 mm_3 mm_4 (by decide) (Nat.le_of_ble_eq_true rfl) (by decide) (by decide) ?_
      rw [mx_1 z1 (by omega)]
      refine q_istore d_Wo_putNumbered_21 (by decide) rfl ?_
      refine q_aload_n d_Wo_putNumbered_23 rfl rfl ?_
      refine q_get d_Wo_putNumbered_24 f_Wo_52 h_s rfl ?_
      refine q_iload d_Wo_putNumbered_27 rfl ?_
      refine q_iload_n d_Wo_putNumbered_29 rfl ?_
      refine q_iload d_Wo_putNumbered_30 rfl ?_
      refine q_irem d_Wo_putNumbered_32 hne ?_
      rw [hrm]
      refine x_iast d_Wo_putNumbered_33 h_v rfl hin (fun hp1 e1 h_v => ?_)
      have h_w := q_keep e1 h_w (by omega)
      have h_z := q_keep e1 h_z (by omega)
      have h_s := q_keep e1 h_s (by omega)
      rw [w_dn_s (show r < _ by omega) hcl hd] at e1 h_v
      refine q_iload_n d_Wo_putNumbered_34 rfl ?_
      refine q_iload d_Wo_putNumbered_35 rfl ?_
      refine q_idiv d_Wo_putNumbered_37 hne ?_
      rw [hdv]
      refine q_istore_n d_Wo_putNumbered_38 rfl (by decide) rfl ?_
      refine q_iinc d_Wo_putNumbered_39 rfl (show _ + Int32.ofInt (-1) = _ + (-1) from rfl) (by decide) rfl ?_
      refine q_goto (tgt := 5) d_Wo_putNumbered_42 (by decide) ?_
      rw [wo_c_m]
      exact ih (by omega) hp1 _ h_w h_z h_s h_v (by rw [e1, e0, List.set_set])
set_option maxRecDepth 10000 in
set_option maxHeartbeats 1000000 in
theorem c_Wo_putNumbered (hG : q_GG g) {hp : List va_E} {w : w_T} {n a : Nat} {pl vl : Nat → Int32} (ha : 37 ≤ a) (hn : n < 2 ^ 31) (hok : w_ok w) (hw : w_A w hp) (h_s : hp[a]? = some (o_St a)) (h_p : hp[a + 1]? = some (a_I 6 pl)) (h_v : hp[a + 2]? = some (a_I 5 vl)) : q_C g m_Wo_putNumbered true (q_R 1 13 0 0) [.ref 3, .int (nI n), .ref a] hp (q_ret none ((hp.set (a + 2) (a_I 5 (w_dn 0 5 (w_dv w n) vl))).set (a + 1) (a_I 6 (w_dn 0 (w_p w) (w_dp w n) pl)))) := by
  refine q_C.of hG (by decide) (Nat.le_of_ble_eq_true rfl) ?_
  refine q_iload_n d_Wo_putNumbered_0 rfl ?_
  refine q_istore_n d_Wo_putNumbered_1 rfl (by decide) rfl ?_
  refine q_iconst (v := 4) d_Wo_putNumbered_2 (by decide) ?_
  refine q_istore d_Wo_putNumbered_3 (by decide) rfl ?_
  refine q_wrote ?_
  exact l_Wo_pnA ha hn hok hw h_p 5 (Nat.le_refl _) hp none hw.1 hw.2.1 h_s (by rw [w_dn_m]; exact h_v) (by rw [w_dn_m]; exact (q_same h_v).symm)
set_option maxRecDepth 10000 in
set_option maxHeartbeats 1000000 in
theorem c_Wo_addVariable (hG : q_GG g) {hp : List va_E} {n pp x y : Nat} {z f : Nat → Nat} (h_w : hp[3]? = some (o_Wo n pp)) (h_z : hp[4]? = some (a_N 5 z)) (h_f : hp[5]? = some (a_N 5 f)) (hn : n < 5) : q_C g m_Wo_addVariable true (q_R 0 0 0 0) [.ref 3, .int (nI x), .int (nI y)] hp (q_ret none (((hp.set 4 (a_N 5 (va_up z n x))).set 5 (a_N 5 (va_up f n y))).set 3 (o_Wo (n + 1) pp))) := by
  refine q_C.of hG (by decide) (Nat.le_of_ble_eq_true rfl) ?_
  have hcl : (nI n).toNatClampNeg = n := nI_clamp (by omega)
  have hin : vp_in (nI n) 5 := vp_in_nI hn (by decide)
  refine q_aload_n d_Wo_addVariable_0 rfl rfl ?_
  refine q_get d_Wo_addVariable_1 f_Wo_9 h_w rfl ?_
  refine q_aload_n d_Wo_addVariable_4 rfl rfl ?_
  refine q_get d_Wo_addVariable_5 f_Wo_31 h_w rfl ?_
  refine q_iload_n d_Wo_addVariable_8 rfl ?_
  refine x_iast d_Wo_addVariable_9 h_z rfl hin (fun hp1 e1 h_z => ?_)
  have h_w := q_keep e1 h_w (by omega)
  have h_f := q_keep e1 h_f (by omega)
  rw [u_nI hcl rfl] at e1 h_z
  refine q_aload_n d_Wo_addVariable_10 rfl rfl ?_
  refine q_get d_Wo_addVariable_11 f_Wo_15 h_w rfl ?_
  refine q_aload_n d_Wo_addVariable_14 rfl rfl ?_
  refine q_get d_Wo_addVariable_15 f_Wo_31 h_w rfl ?_
  refine q_iload_n d_Wo_addVariable_18 rfl ?_
  refine x_iast d_Wo_addVariable_19 h_f rfl hin (fun hp2 e2 h_f => ?_)
  have h_w := q_keep e2 h_w (by omega)
  have h_z := q_keep e2 h_z (by omega)
  rw [u_nI hcl rfl] at e2 h_f
  refine q_aload_n d_Wo_addVariable_20 rfl rfl ?_
  refine q_dup d_Wo_addVariable_21 rfl ?_
  refine q_get d_Wo_addVariable_22 f_Wo_31 h_w rfl ?_
  refine q_iconst (v := 1) d_Wo_addVariable_25 (by decide) ?_
  refine q_iadd d_Wo_addVariable_26 ?_
  rw [nI_1]
  refine x_put d_Wo_addVariable_27 f_Wo_31 h_w (Nat.le_of_ble_eq_true rfl) rfl rfl (fun hp3 e3 h_w => ?_)
  have h_z := q_keep e3 h_z (by omega)
  have h_f := q_keep e3 h_f (by omega)
  refine q_vret d_Wo_addVariable_30 rfl ?_ (Nat.le_of_ble_eq_true rfl) (Nat.le_of_ble_eq_true rfl) (by decide)
  exact ⟨rfl, by subst e1; subst e2; subst e3; rfl⟩
set_option maxRecDepth 10000 in
set_option maxHeartbeats 1000000 in
theorem c_Wo_removeAll (hG : q_GG g) {hp : List va_E} {n pp : Nat} {z f : Nat → Int32} (h_w : hp[3]? = some (o_Wo n pp)) (h_z : hp[4]? = some (a_I 5 z)) (h_f : hp[5]? = some (a_I 5 f)) : q_C g m_Wo_removeAll true (q_R 1 16 0 0) [.ref 3] hp (q_ret none (((hp.set 4 (a_I 5 (fun j => if j < 5 then 1 else z j))).set 5 (a_I 5 (fun j => if j < 5 then 0 else f j))).set 3 (o_Wo 0 0))) := by
  refine q_C.of hG (by decide) (Nat.le_of_ble_eq_true rfl) ?_
  refine q_aload_n d_Wo_removeAll_0 rfl rfl ?_
  refine q_get d_Wo_removeAll_1 f_Wo_9 h_w rfl ?_
  refine q_iconst (v := 1) d_Wo_removeAll_4 (by decide) ?_
  refine x_callS d_Wo_removeAll_5 l_Wo_24 s_Ar_fillI (c_Ar_fillI hG h_z (by decide)) rfl rfl (Nat.le_of_ble_eq_true rfl) (Nat.le_of_ble_eq_true rfl) (Nat.le_of_ble_eq_true rfl) (Nat.le_of_ble_eq_true rfl) ?_
  have h_w := q_keep (y := a_I 5 (fun j => if j < 5 then 1 else z j)) (hp' := hp.set 4 (a_I 5 (fun j => if j < 5 then 1 else z j))) rfl h_w (by omega)
  have h_f := q_keep (y := a_I 5 (fun j => if j < 5 then 1 else z j)) (hp' := hp.set 4 (a_I 5 (fun j => if j < 5 then 1 else z j))) rfl h_f (by omega)
  refine q_aload_n d_Wo_removeAll_8 rfl rfl ?_
  refine q_get d_Wo_removeAll_9 f_Wo_15 h_w rfl ?_
  refine q_iconst (v := 0) d_Wo_removeAll_12 (by decide) ?_
  refine x_callS d_Wo_removeAll_13 l_Wo_24 s_Ar_fillI (c_Ar_fillI hG h_f (by decide)) rfl rfl (Nat.le_of_ble_eq_true rfl) (Nat.le_of_ble_eq_true rfl) (Nat.le_of_ble_eq_true rfl) (Nat.le_of_ble_eq_true rfl) ?_
  have h_w := q_keep (y := a_I 5 (fun j => if j < 5 then 0 else f j)) (hp' := (hp.set 4 (a_I 5 (fun j => if j < 5 then 1 else z j))).set 5 (a_I 5 (fun j => if j < 5 then 0 else f j))) rfl h_w (by omega)
  refine q_aload_n d_Wo_removeAll_16 rfl rfl ?_
  refine q_iconst (v := 0) d_Wo_removeAll_17 (by decide) ?_
  refine x_put d_Wo_removeAll_18 f_Wo_31 h_w (Nat.le_of_ble_eq_true rfl) rfl rfl (fun hp1 e1 h_w => ?_)
  refine q_aload_n d_Wo_removeAll_21 rfl rfl ?_
  refine q_iconst (v := 0) d_Wo_removeAll_22 (by decide) ?_
  refine x_put d_Wo_removeAll_23 f_Wo_35 h_w (Nat.le_of_ble_eq_true rfl) rfl rfl (fun hp2 e2 h_w => ?_)
  refine q_vret d_Wo_removeAll_26 rfl ?_ (Nat.le_of_ble_eq_true rfl) (Nat.le_of_ble_eq_true rfl) (by decide)
  exact ⟨rfl, by subst e1; subst e2; simp [List.set_set]; rfl⟩
end C9
