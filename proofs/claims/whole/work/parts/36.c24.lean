/-! Search: all that fall -/
section C24
variable {g : q_G}
section
variable {w : w_T} {pl pl' vl vl' : Nat → Nat}
theorem pf_congr {q j : Nat} (h : ∀ q, q < w_p w → pl q = pl' q) (hv : ∀ v, v < 5 → vl v = vl' v) (m : Nat) : ∀ k, pf w pl vl q j k m = pf w pl' vl' q j k m := by
  intro k
  induction k with
  | zero => rfl
  | succ k ih =>
    show (pf w pl vl q j k m || (_ && decide (m = w_u w (va_up pl q k) vl))) = (pf w pl' vl' q j k m || (_ && decide (m = w_u w (va_up pl' q k) vl')))
    rw [ih, show w_u w (va_up pl q k) vl = w_u w (va_up pl' q k) vl' from u2_congr (up_congr h) hv 5 (Nat.le_refl _)]
theorem pv_congr {q j : Nat} (hok : w_ok w) (h : ∀ q, q < w_p w → pl q = pl' q) (hv : ∀ v, v < 5 → vl v = vl' v) (hq : q < w_p w) (hj : j < 13) (m : Nat) : ∀ b, pv w pl vl q j b m = pv w pl' vl' q j b m := by
  have hc := ((hok.2.2.2 q (by have := hok.2.1; omega)).2.2.2 j hj).2.2.1
  intro b
  induction b with
  | zero => rfl
  | succ b ih =>
    show (pv w pl vl q j b m || (decide (_ = some (vl (c_v (w_c w q) j))) && pf w pl (va_up vl (c_v (w_c w q) j) b) q j _ m)) = (pv w pl' vl' q j b m || (decide (_ = some (vl' (c_v (w_c w q) j))) && pf w pl' (va_up vl' (c_v (w_c w q) j) b) q j _ m))
    rw [ih, hv _ hc, pf_congr h (up_congr hv) m]
theorem pb_congr (hok : w_ok w) (h : ∀ q, q < w_p w → pl q = pl' q) (hv : ∀ v, v < 5 → vl v = vl' v) (h13 : ∀ q, q < w_p w → pl q < 13) (m : Nat) : ∀ q, q ≤ w_p w → pb w pl vl q m = pb w pl' vl' q m := by
  intro q
  induction q with
  | zero => intro _; rfl
  | succ q ih =>
    intro hq
    show (pb w pl vl q m || (decide (pl q ≠ 0) && pv w pl vl q (pl q) _ m)) = (pb w pl' vl' q m || (decide (pl' q ≠ 0) && pv w pl' vl' q (pl' q) _ m))
    rw [ih (by omega), pv_congr hok h hv hq (h13 q hq) m, h q hq]
end
/-- what comes to a number by one step -/
def N_pr (w : w_T) (n : Nat) : Nat → Bool := pb w (w_pl w n (fun _ => 0)) (w_vv w n (fun _ => 0)) (w_p w)
set_option maxRecDepth 10000 in
set_option maxHeartbeats 2000000 in
theorem l_Se_lb (hG : q_GG g) {w : w_T} {R St Fa Wa : Nat → Bool} {pl vl : Nat → Nat} {o : Nat × Nat × Nat × Nat} {hpb : List va_E} (hok : w_ok w) (hfz : w_fz w) (hN : w_q w ≤ 30000) (hs : s_ok w pl vl) : ∀ (k q : Nat), q + k = w_p w → ∀ (z3 : Option Value) (hp : List va_E), S_A w R St (fa_u R Fa (pb w pl vl q)) (wa_u R Fa Wa (pb w pl vl q)) pl vl o hp → F_S hpb hp → q_J g m_Se_lookBack true (q_R 4 80 0 0) (q_ho none (fun hp2 => S_A w R St (fa_u R Fa (pb w pl vl (w_p w))) (wa_u R Fa Wa (pb w pl vl (w_p w))) pl vl o hp2 ∧ F_S hpb hp2)) 14 [some (.ref 67), some (.int (nI (w_u w pl vl))), some (.int (nI q)), z3] [] hp 0 0 true := by
  have hp6 := hok.2.1
  intro k
  induction k with
  | zero =>
    intro q hq z3 hp h hF
    have h_s := h.2.1
    have h_w := h.1.1
    refine q_iload_n d_Se_lookBack_14 rfl ?_
    refine q_aload_n d_Se_lookBack_15 rfl rfl ?_
    refine q_get d_Se_lookBack_16 f_Se_41 h_s rfl ?_
    refine q_get d_Se_lookBack_19 f_Se_107 h_w rfl ?_
    refine q_icmp_ge (tgt := 52) d_Se_lookBack_22 (by decide) (fun b22 => ?_) (fun b22 => ?_)
    · skip
      refine q_vret d_Se_lookBack_52 rfl ?_ (Nat.le_of_ble_eq_true rfl) (Nat.le_of_ble_eq_true rfl) (by decide)
      refine ⟨hp, rfl, rfl, ?_, hF⟩
      rw [show w_p w = q by omega]
      exact h
    · skip
      exact absurd (nI_le (by omega) (by omega)) b22
  | succ k ih =>
    intro q hq z3 hp h hF
    have h_s := h.2.1
    have h_w := h.1.1
    have h_n := h.2.2.2.2.2.2.1.1
    have h_pl := h.2.2.2.2.2.2.1.2.1
    have h13 := hs.2.1 q (by omega)
    have hclq : (nI q).toNatClampNeg = q := nI_clamp (by omega)
    have hinq : vp_in (nI q) 6 := vp_in_nI (by omega) (by decide)
    refine q_iload_n d_Se_lookBack_14 rfl ?_
    refine q_aload_n d_Se_lookBack_15 rfl rfl ?_
    refine q_get d_Se_lookBack_16 f_Se_41 h_s rfl ?_
    refine q_get d_Se_lookBack_19 f_Se_107 h_w rfl ?_
    refine q_icmp_ge (tgt := 52) d_Se_lookBack_22 (by decide) (fun b22 => ?_) (fun b22 => ?_)
    · skip
      exact absurd b22 (nI_ge (by omega) (by omega))
    · skip
      refine q_aload_n d_Se_lookBack_25 rfl rfl ?_
      refine q_get d_Se_lookBack_26 f_Se_30 h_s rfl ?_
      refine q_get d_Se_lookBack_29 f_Se_148 h_n rfl ?_
      refine q_iload_n d_Se_lookBack_32 rfl ?_
      refine q_iald d_Se_lookBack_33 h_pl rfl hinq ?_
      rw [hclq]
      refine q_istore_n d_Se_lookBack_34 rfl (by decide) rfl ?_
      refine q_iload_n d_Se_lookBack_35 rfl ?_
      refine q_if_eq (tgt := 46) d_Se_lookBack_36 (by decide) (fun b36 => ?_) (fun b36 => ?_)
      · skip
        have h0 : pl q = 0 := (nI_eq (b := 0) (by omega) (by decide)).mp b36
        refine q_iinc d_Se_lookBack_46 rfl (show _ + Int32.ofInt 1 = _ + 1 from rfl) (by decide) rfl ?_
        rw [nI_1]
        refine q_goto (tgt := 14) d_Se_lookBack_49 (by decide) ?_
        refine ih (q + 1) (by omega) _ hp (h.same (fun m => ?_)) hF
        show pb w pl vl q m = (pb w pl vl q m || (decide (pl q ≠ 0) && _))
        rw [decide_eq_false (fun e => e h0), Bool.false_and, Bool.or_false]
      · skip
        have h0 : ¬ pl q = 0 := fun e => b36 (by rw [e]; rfl)
        refine q_aload_n d_Se_lookBack_39 rfl rfl ?_
        refine q_iload_n d_Se_lookBack_40 rfl ?_
        refine q_iload_n d_Se_lookBack_41 rfl ?_
        refine q_iload_n d_Se_lookBack_42 rfl ?_
        refine x_callVr d_Se_lookBack_43 l_Se_151 i_Se_undoAct v_Se_undoAct rfl h_s (c_Se_undoAct hG (q := q) (j := pl q) hok hN hfz hs (by omega) (by omega) (hs.1 q (by omega)) rfl h) rfl rfl (Nat.le_of_ble_eq_true rfl) (Nat.le_of_ble_eq_true rfl) (Nat.le_of_ble_eq_true rfl) (Nat.le_of_ble_eq_true rfl) (fun hp1 h1 => ?_)
        refine q_iinc d_Se_lookBack_46 rfl (show _ + Int32.ofInt 1 = _ + 1 from rfl) (by decide) rfl ?_
        rw [nI_1]
        refine q_goto (tgt := 14) d_Se_lookBack_49 (by decide) ?_
        refine ih (q + 1) (by omega) _ hp1 (h1.1.comp.same (fun m => ?_)) (hF.trans h1.2)
        show (pb w pl vl q m || _) = (pb w pl vl q m || (decide (pl q ≠ 0) && _))
        rw [decide_eq_true h0, Bool.true_and]
set_option maxRecDepth 10000 in
set_option maxHeartbeats 2000000 in
theorem c_Se_lookBack (hG : q_GG g) {w : w_T} {R St Fa Wa : Nat → Bool} {pl vl : Nat → Nat} {o : Nat × Nat × Nat × Nat} {hp : List va_E} {n : Nat} (hok : w_ok w) (hfz : w_fz w) (hN : w_q w ≤ 30000) (hn : n < w_q w) (h13 : ∀ q, q < 6 → pl q < 13) (h : S_A w R St Fa Wa pl vl o hp) : q_C g m_Se_lookBack true (q_R 4 80 0 0) [.ref 67, .int (nI n)] hp (q_ho none (fun hp2 => S_A w R St (fa_u R Fa (N_pr w n)) (wa_u R Fa Wa (N_pr w n)) (w_pl w n pl) (w_vv w n vl) o hp2 ∧ F_S hp hp2)) := by
  refine q_C.of hG (by decide) (Nat.le_of_ble_eq_true rfl) ?_
  have h_s := h.2.1
  have h_w := h.1.1
  refine q_aload_n d_Se_lookBack_0 rfl rfl ?_
  refine q_get d_Se_lookBack_1 f_Se_41 h_s rfl ?_
  refine q_iload_n d_Se_lookBack_4 rfl ?_
  refine q_aload_n d_Se_lookBack_5 rfl rfl ?_
  refine q_get d_Se_lookBack_6 f_Se_30 h_s rfl ?_
  refine x_callVr d_Se_lookBack_9 l_Se_100 i_Wo_putNumbered v_Wo_putNumbered rfl h_w (k_put hG hok (by omega) h) rfl rfl (Nat.le_of_ble_eq_true rfl) (Nat.le_of_ble_eq_true rfl) (Nat.le_of_ble_eq_true rfl) (Nat.le_of_ble_eq_true rfl) (fun hp1 h1 => ?_)
  refine q_iconst (v := 0) d_Se_lookBack_12 (by decide) ?_
  refine q_istore_n d_Se_lookBack_13 rfl (by decide) rfl ?_
  have hs := w_pl_ok (n := n) (vl := vl) hok h13
  have hu := w_pl_u (pl := pl) (vl := vl) hn
  have hl := l_Se_lb (g := g) (R := R) (Wa := Wa) (St := St) (Fa := Fa) (o := o) (pl := w_pl w n pl) (vl := w_vv w n vl) (hpb := hp) hG hok hfz hN hs (w_p w) 0 (by omega) none hp1 h1.1.emp h1.2
  have e3 : N_pr w n = pb w (w_pl w n pl) (w_vv w n vl) (w_p w) := funext fun m => (pb_congr hok (pl_0 w n pl) (vv_0 w n vl) (fun q hq => hs.2.1 q (by have := hok.2.1; omega)) m _ (Nat.le_refl _)).symm
  rw [hu] at hl
  rw [e3]
  exact hl
set_option maxRecDepth 10000 in
set_option maxHeartbeats 2000000 in
theorem c_Se_standingState (hG : q_GG g) {w : w_T} {R St Fa Wa : Nat → Bool} {pl vl : Nat → Nat} {o : Nat × Nat × Nat × Nat} {hp : List va_E} {k : Nat} (hok : w_ok w) (hk : k < cn St 30016) (h : S_A w R St Fa Wa pl vl o hp) : q_C g m_Se_standingState true (q_R 3 60 0 0) [.ref 67, .int (nI k)] hp (q_rel (Z := Nat × List va_E) (fun _ => some (.ref 76)) (fun z => z.2) (fun z => (z.1 < 30016 ∧ St z.1 = true ∧ cn St z.1 = k) ∧ S_A w R St Fa Wa (w_pl w z.1 pl) (w_vv w z.1 vl) o z.2 ∧ F_S hp z.2)) := by
  refine q_C.of hG (by decide) (Nat.le_of_ble_eq_true rfl) ?_
  have h_s := h.2.1
  have h_w := h.1.1
  obtain ⟨lt, h_t⟩ := h.2.2.2.1.ob
  refine q_aload_n d_Se_standingState_0 rfl rfl ?_
  refine q_get d_Se_standingState_1 f_Se_41 h_s rfl ?_
  refine q_aload_n d_Se_standingState_4 rfl rfl ?_
  refine q_get d_Se_standingState_5 f_Se_18 h_s rfl ?_
  refine q_iload_n d_Se_standingState_8 rfl ?_
  refine x_callVr d_Se_standingState_9 l_Se_96 i_Ss_nth v_Ss_nth rfl h_t (k_nth hG h.2.2.2.1 hk) rfl rfl (Nat.le_of_ble_eq_true rfl) (Nat.le_of_ble_eq_true rfl) (Nat.le_of_ble_eq_true rfl) (Nat.le_of_ble_eq_true rfl) (fun n hn => ?_)
  refine q_aload_n d_Se_standingState_12 rfl rfl ?_
  refine q_get d_Se_standingState_13 f_Se_30 h_s rfl ?_
  refine x_callVr (stk := [.ref 76, .int (nI n), .ref 3]) d_Se_standingState_16 l_Se_100 i_Wo_putNumbered v_Wo_putNumbered rfl h_w (k_put hG hok (by omega) h) rfl rfl (Nat.le_of_ble_eq_true rfl) (Nat.le_of_ble_eq_true rfl) (Nat.le_of_ble_eq_true rfl) (Nat.le_of_ble_eq_true rfl) (fun hp1 h1 => ?_)
  have h_s := h1.1.2.1
  refine q_aload_n d_Se_standingState_19 rfl rfl ?_
  refine q_get d_Se_standingState_20 f_Se_30 h_s rfl ?_
  refine q_aret d_Se_standingState_23 rfl rfl ?_ (Nat.le_of_ble_eq_true rfl) (Nat.le_of_ble_eq_true rfl) (by decide)
  exact ⟨(n, hp1), rfl, rfl, hn, h1⟩
end C24
