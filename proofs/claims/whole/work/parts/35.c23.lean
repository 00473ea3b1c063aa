/-! Search: back -/
section C23
variable {g : q_G}
def fa_u (R Fa X : Nat → Bool) : Nat → Bool := fun m => Fa m || (X m && R m)
def wa_u (R Fa Wa X : Nat → Bool) : Nat → Bool := fun m => Wa m || ((X m && R m) && !Fa m)
abbrev uni (X Y : Nat → Bool) : Nat → Bool := fun m => X m || Y m
abbrev emp : Nat → Bool := fun _ => false
theorem S_A.comp {w : w_T} {R St Fa Wa X Y : Nat → Bool} {pl vl : Nat → Nat} {o : Nat × Nat × Nat × Nat} {hp : List va_E} (h : S_A w R St (fa_u R (fa_u R Fa X) Y) (wa_u R (fa_u R Fa X) (wa_u R Fa Wa X) Y) pl vl o hp) : S_A w R St (fa_u R Fa (uni X Y)) (wa_u R Fa Wa (uni X Y)) pl vl o hp := by
  refine h.eq (fun _ _ => rfl) (fun _ _ => rfl) (fun m _ => ?_) (fun m _ => ?_)
  · unfold fa_u uni
    cases Fa m <;> cases X m <;> cases Y m <;> cases R m <;> rfl
  · unfold wa_u fa_u uni
    cases Wa m <;> cases Fa m <;> cases X m <;> cases Y m <;> cases R m <;> rfl
theorem S_A.emp {w : w_T} {R St Fa Wa : Nat → Bool} {pl vl : Nat → Nat} {o : Nat × Nat × Nat × Nat} {hp : List va_E} (h : S_A w R St Fa Wa pl vl o hp) : S_A w R St (fa_u R Fa emp) (wa_u R Fa Wa emp) pl vl o hp := by
  refine h.eq (fun _ _ => rfl) (fun _ _ => rfl) (fun m _ => ?_) (fun m _ => ?_)
  · show Fa m = (Fa m || (false && R m))
    rw [Bool.false_and, Bool.or_false]
  · show Wa m = (Wa m || ((false && R m) && !Fa m))
    rw [Bool.false_and, Bool.false_and, Bool.or_false]
theorem S_A.same {w : w_T} {R St Fa Wa X Y : Nat → Bool} {pl vl : Nat → Nat} {o : Nat × Nat × Nat × Nat} {hp : List va_E} (h : S_A w R St (fa_u R Fa X) (wa_u R Fa Wa X) pl vl o hp) (e : ∀ m, X m = Y m) : S_A w R St (fa_u R Fa Y) (wa_u R Fa Wa Y) pl vl o hp := by
  have : X = Y := funext e
  rw [← this]
  exact h
set_option maxRecDepth 10000 in
set_option maxHeartbeats 2000000 in
theorem c_Se_fall (hG : q_GG g) {w : w_T} {R St Fa Wa : Nat → Bool} {pl vl : Nat → Nat} {o : Nat × Nat × Nat × Nat} {hp : List va_E} {n : Nat} (h : S_A w R St Fa Wa pl vl o hp) (hn : n < 30000) : q_C g m_Se_fall true (q_R 1 20 0 0) [.ref 67, .int (nI n)] hp (q_ho none (fun hp2 => S_A w R St (fa_u R Fa (fun m => decide (m = n))) (wa_u R Fa Wa (fun m => decide (m = n))) pl vl o hp2 ∧ F_S hp hp2)) := by
  refine q_C.of hG (by decide) (Nat.le_of_ble_eq_true rfl) ?_
  have h_s := h.2.1
  obtain ⟨lr, h_r⟩ := h.2.2.1.ob
  obtain ⟨lf, h_f⟩ := h.2.2.2.2.1.ob
  refine q_aload_n d_Se_fall_0 rfl rfl ?_
  refine q_get d_Se_fall_1 f_Se_12 h_s rfl ?_
  refine q_iload_n d_Se_fall_4 rfl ?_
  refine x_callV d_Se_fall_5 l_Se_119 i_Ss_contains v_Ss_contains rfl h_r (k_contains hG h.2.2.1 hn) rfl rfl (Nat.le_of_ble_eq_true rfl) (Nat.le_of_ble_eq_true rfl) (Nat.le_of_ble_eq_true rfl) (Nat.le_of_ble_eq_true rfl) ?_
  refine q_if_eq (tgt := 38) d_Se_fall_8 (by decide) (fun b8 => ?_) (fun b8 => ?_)
  · skip
    have hR : R n = false := by
      by_cases q : R n = true
      · rw [if_pos q] at b8; exact absurd b8 (by decide)
      · exact Bool.eq_false_iff.mpr q
    refine q_vret d_Se_fall_38 rfl ?_ (Nat.le_of_ble_eq_true rfl) (Nat.le_of_ble_eq_true rfl) (by decide)
    refine ⟨hp, rfl, rfl, h.eq (fun _ _ => rfl) (fun _ _ => rfl) (fun m _ => ?_) (fun m _ => ?_), F_S.refl hp⟩
    · unfold fa_u
      by_cases q : m = n
      · subst q; simp_all
      · simp [q]
    · unfold wa_u
      by_cases q : m = n
      · subst q; simp_all
      · simp [q]
  · skip
    have hR : R n = true := by
      by_cases q : R n = true
      · exact q
      · rw [if_neg q] at b8; exact absurd rfl b8
    refine q_aload_n d_Se_fall_11 rfl rfl ?_
    refine q_get d_Se_fall_12 f_Se_21 h_s rfl ?_
    refine q_iload_n d_Se_fall_15 rfl ?_
    refine x_callV d_Se_fall_16 l_Se_119 i_Ss_contains v_Ss_contains rfl h_f (k_contains hG h.2.2.2.2.1 hn) rfl rfl (Nat.le_of_ble_eq_true rfl) (Nat.le_of_ble_eq_true rfl) (Nat.le_of_ble_eq_true rfl) (Nat.le_of_ble_eq_true rfl) ?_
    refine q_if_ne (tgt := 38) d_Se_fall_19 (by decide) (fun b19 => ?_) (fun b19 => ?_)
    · skip
      have hFa : Fa n = true := by
        by_cases q : Fa n = true
        · exact q
        · rw [if_neg q] at b19; exact absurd rfl b19
      refine q_vret d_Se_fall_38 rfl ?_ (Nat.le_of_ble_eq_true rfl) (Nat.le_of_ble_eq_true rfl) (by decide)
      refine ⟨hp, rfl, rfl, h.eq (fun _ _ => rfl) (fun _ _ => rfl) (fun m _ => ?_) (fun m _ => ?_), F_S.refl hp⟩
      · unfold fa_u
        by_cases q : m = n
        · subst q; simp_all
        · simp [q]
      · unfold wa_u
        by_cases q : m = n
        · subst q; simp_all
        · simp [q]
    · skip
      have hFa : Fa n = false := by
        by_cases q : Fa n = true
        · rw [if_pos q] at b19; exact absurd b19 (by decide)
        · exact Bool.eq_false_iff.mpr q
      refine q_aload_n d_Se_fall_22 rfl rfl ?_
      refine q_get d_Se_fall_23 f_Se_21 h_s rfl ?_
      refine q_iload_n d_Se_fall_26 rfl ?_
      refine x_callVr d_Se_fall_27 l_Se_123 i_Ss_add v_Ss_add rfl h_f (k_add hG h.2.2.2.2.1 hn) rfl rfl (Nat.le_of_ble_eq_true rfl) (Nat.le_of_ble_eq_true rfl) (Nat.le_of_ble_eq_true rfl) (Nat.le_of_ble_eq_true rfl) (fun hp1 h1 => ?_)
      have g1 := h.fa h1.2 h1.1
      have h_s := g1.2.1
      obtain ⟨lw, h_wa⟩ := g1.2.2.2.2.2.1.ob
      refine q_aload_n d_Se_fall_30 rfl rfl ?_
      refine q_get d_Se_fall_31 f_Se_24 h_s rfl ?_
      refine q_iload_n d_Se_fall_34 rfl ?_
      refine x_callVr d_Se_fall_35 l_Se_123 i_Ss_add v_Ss_add rfl h_wa (k_add hG g1.2.2.2.2.2.1 hn) rfl rfl (Nat.le_of_ble_eq_true rfl) (Nat.le_of_ble_eq_true rfl) (Nat.le_of_ble_eq_true rfl) (Nat.le_of_ble_eq_true rfl) (fun hp2 h2 => ?_)
      have g2 := g1.wa h2.2 h2.1
      refine q_vret d_Se_fall_38 rfl ?_ (Nat.le_of_ble_eq_true rfl) (Nat.le_of_ble_eq_true rfl) (by decide)
      refine ⟨hp2, rfl, rfl, g2.eq (fun _ _ => rfl) (fun _ _ => rfl) (fun m _ => ?_) (fun m _ => ?_), (h1.2.s (by omega)).trans (h2.2.s (by omega))⟩
      · unfold fa_u
        by_cases q : m = n
        · subst q; simp [hR]
        · simp [q]
      · unfold wa_u
        by_cases q : m = n
        · subst q; simp [hR, hFa]
        · simp [q]
/-- from where a step to the place j can have come, of the places below k -/
def pf (w : w_T) (pl vl : Nat → Nat) (q j : Nat) : Nat → Nat → Bool
  | 0 => fun _ => false
  | k + 1 => fun m => pf w pl vl q j k m || ((c_s (w_c w q) k).testBit j && decide (m = w_u w (va_up pl q k) vl))
/-- and with which values -/
def pv (w : w_T) (pl vl : Nat → Nat) (q j : Nat) : Nat → Nat → Bool
  | 0 => fun _ => false
  | b + 1 => fun m => pv w pl vl q j b m || (decide (wo_o (c_k (w_c w q) j) (c_f (w_c w q) j) b (w_z w (c_v (w_c w q) j)) = some (vl (c_v (w_c w q) j))) && pf w pl (va_up vl (c_v (w_c w q) j) b) q j (c_n (w_c w q)) m)
/-- of all processes below p -/
def pb (w : w_T) (pl vl : Nat → Nat) : Nat → Nat → Bool
  | 0 => fun _ => false
  | q + 1 => fun m => pb w pl vl q m || (decide (pl q ≠ 0) && pv w pl vl q (pl q) (w_z w (c_v (w_c w q) (pl q))) m)
theorem s_st1 {w : w_T} {pl vl : Nat → Nat} {q k : Nat} (hq : q < w_p w) : w_u w (va_up pl q k) vl + pl q * w_pw w q = w_u w pl vl + k * w_pw w q := by
  have h1 := s_p_up (w := w) (pl := pl) (q := q) (j := k) (w_p w)
  rw [if_pos hq, if_pos hq] at h1
  rw [s_u, s_u]
  omega
theorem s_st2 {w : w_T} {pl vl : Nat → Nat} {v y : Nat} (hv : v < 5) : w_u w pl (va_up vl v y) + vl v * w_vw w v = w_u w pl vl + y * w_vw w v := by
  have h2 := s_v_up (w := w) (vl := vl) (q := v) (j := y) 5
  rw [if_pos hv, if_pos hv] at h2
  rw [s_u, s_u]
  omega
theorem s_int1 {n n' i j b : Nat} (h : n' + i * b = n + j * b) : nI n + (nI j - nI i) * nI b = nI n' := by
  have e : nI n' + nI i * nI b = nI n + nI j * nI b := by
    rw [pk_mul, pk_mul, nI_add, nI_add, h]
  grind
theorem up_ok1 {w : w_T} {pl vl : Nat → Nat} {q k : Nat} (hok : w_ok w) (hs : s_ok w pl vl) (hq : q < w_p w) (hk : k < c_n (w_c w q)) : s_ok w (va_up pl q k) vl := by
  have a := hok.2.2.2 q (by have := hok.2.1; omega)
  have b : k < 13 := by have := a.2.1; omega
  refine ⟨fun q' hq' => ?_, fun q' hq' => ?_, hs.2.2⟩
  · unfold va_up
    split
    · next e => rw [e]; exact hk
    · exact hs.1 q' hq'
  · unfold va_up
    split
    · exact b
    · exact hs.2.1 q' hq'
theorem up_ok2 {w : w_T} {pl vl : Nat → Nat} {v y : Nat} (hs : s_ok w pl vl) (hy : y < w_z w v) : s_ok w pl (va_up vl v y) := by
  refine ⟨hs.1, hs.2.1, fun v' hv => ?_⟩
  unfold va_up
  split
  · next e => rw [e]; exact hy
  · exact hs.2.2 v' hv
set_option maxRecDepth 10000 in
set_option maxHeartbeats 2000000 in
theorem l_Se_us (hG : q_GG g) {w : w_T} {R St Fa Wa : Nat → Bool} {pl vl : Nat → Nat} {o : Nat × Nat × Nat × Nat} {pa va : Nat → Nat} {q j : Nat} {hpb : List va_E} (hok : w_ok w) (hN : w_q w ≤ 30000) (hs : s_ok w pa va) (hq : q < w_p w) (hj : j < 13) (hpj : pa q = j) : ∀ (k r : Nat), r + k = c_n (w_c w q) → ∀ (hp : List va_E), S_A w R St (fa_u R Fa (pf w pa va q j r)) (wa_u R Fa Wa (pf w pa va q j r)) pl vl o hp → F_S hpb hp → q_J g m_Se_undoStep true (q_R 2 40 0 0) (q_ho none (fun hp2 => S_A w R St (fa_u R Fa (pf w pa va q j (c_n (w_c w q)))) (wa_u R Fa Wa (pf w pa va q j (c_n (w_c w q)))) pl vl o hp2 ∧ F_S hpb hp2)) 14 [some (.ref 67), some (.int (nI (w_u w pa va))), some (.int (nI q)), some (.int (nI j)), some (.ref (7 + 5 * q)), some (.int (nI r))] [] hp 0 0 true := by
  have hp6 := hok.2.1
  obtain ⟨c1, c2, c3, c4⟩ := hok.2.2.2 q (by omega)
  intro k
  induction k with
  | zero =>
    intro r hr hp h hF
    have h_c := (h.1.2.2.2.2 q (by omega)).1
    refine q_iload d_Se_undoStep_14 rfl ?_
    refine q_aload d_Se_undoStep_16 rfl rfl ?_
    refine q_get d_Se_undoStep_18 f_Se_114 h_c rfl ?_
    refine q_icmp_ge (tgt := 62) d_Se_undoStep_21 (by decide) (fun b21 => ?_) (fun b21 => ?_)
    · skip
      refine q_vret d_Se_undoStep_62 rfl ?_ (Nat.le_of_ble_eq_true rfl) (Nat.le_of_ble_eq_true rfl) (by decide)
      refine ⟨hp, rfl, rfl, ?_, hF⟩
      rw [show c_n (w_c w q) = r by omega]
      exact h
    · skip
      exact absurd (nI_le (by omega) (by omega)) b21
  | succ k ih =>
    intro r hr hp h hF
    have h_s := h.2.1
    have hC := h.1.2.2.2.2 q (by omega)
    have h_c := hC.1
    have h_cs := hC.2.1
    have hst := (c4 r (by omega)).1
    obtain ⟨⟨fp, h_pw, hfp⟩, -⟩ := h.2.2.2.2.2.2.2
    have hclr : (nI r).toNatClampNeg = r := nI_clamp (by omega)
    have hinr : vp_in (nI r) 13 := vp_in_nI (by omega) (by decide)
    have hclq : (nI q).toNatClampNeg = q := nI_clamp (by omega)
    have hinq : vp_in (nI q) 6 := vp_in_nI (by omega) (by decide)
    have hpw := hfp _ hq
    refine q_iload d_Se_undoStep_14 rfl ?_
    refine q_aload d_Se_undoStep_16 rfl rfl ?_
    refine q_get d_Se_undoStep_18 f_Se_114 h_c rfl ?_
    refine q_icmp_ge (tgt := 62) d_Se_undoStep_21 (by decide) (fun b21 => ?_) (fun b21 => ?_)
    · skip
      exact absurd b21 (nI_ge (by omega) (by omega))
    · skip
      refine q_aload d_Se_undoStep_24 rfl rfl ?_
      refine q_get d_Se_undoStep_26 f_Se_160 h_c rfl ?_
      refine q_iload d_Se_undoStep_29 rfl ?_
      refine q_iald d_Se_undoStep_31 h_cs rfl hinr ?_
      rw [hclr]
      refine q_iload_n d_Se_undoStep_32 rfl ?_
      refine q_ishr d_Se_undoStep_33 ?_
      refine q_iconst (v := 1) d_Se_undoStep_34 (by decide) ?_
      refine q_iand d_Se_undoStep_35 ?_
      refine q_if_eq (tgt := 56) d_Se_undoStep_36 (by decide) (fun b36 => ?_) (fun b36 => ?_)
      · skip
        rw [tb_1 (by omega) (by omega)] at b36
        refine q_iinc d_Se_undoStep_56 rfl (show _ + Int32.ofInt 1 = _ + 1 from rfl) (by decide) rfl ?_
        rw [nI_1]
        refine q_goto (tgt := 14) d_Se_undoStep_59 (by decide) ?_
        refine ih (r + 1) (by omega) hp (h.same (fun m => ?_)) hF
        show pf w pa va q j r m = (pf w pa va q j r m || ((c_s (w_c w q) r).testBit j && _))
        rw [b36, Bool.false_and, Bool.or_false]
      · skip
        rw [tb_1 (by omega) (by omega), Bool.not_eq_false] at b36
        refine q_aload_n d_Se_undoStep_39 rfl rfl ?_
        refine q_iload_n d_Se_undoStep_40 rfl ?_
        refine q_iload d_Se_undoStep_41 rfl ?_
        refine q_iload_n d_Se_undoStep_43 rfl ?_
        refine q_isub d_Se_undoStep_44 ?_
        refine q_aload_n d_Se_undoStep_45 rfl rfl ?_
        refine q_get d_Se_undoStep_46 f_Se_34 h_s rfl ?_
        refine q_iload_n d_Se_undoStep_49 rfl ?_
        refine q_iald d_Se_undoStep_50 h_pw rfl hinq ?_
        rw [hclq, hpw]
        refine q_imul d_Se_undoStep_51 ?_
        refine q_iadd d_Se_undoStep_52 ?_
        rw [s_int1 (by rw [← hpj]; exact s_st1 hq)]
        refine x_callVr d_Se_undoStep_53 l_Se_163 i_Se_fall v_Se_fall rfl h_s (c_Se_fall hG h (n := w_u w (va_up pa q r) va) (by have := s_lt (up_ok1 (k := r) hok hs hq (by omega)); omega)) rfl rfl (Nat.le_of_ble_eq_true rfl) (Nat.le_of_ble_eq_true rfl) (Nat.le_of_ble_eq_true rfl) (Nat.le_of_ble_eq_true rfl) (fun hp1 h1 => ?_)
        refine q_iinc d_Se_undoStep_56 rfl (show _ + Int32.ofInt 1 = _ + 1 from rfl) (by decide) rfl ?_
        rw [nI_1]
        refine q_goto (tgt := 14) d_Se_undoStep_59 (by decide) ?_
        refine ih (r + 1) (by omega) hp1 (h1.1.comp.same (fun m => ?_)) (hF.trans h1.2)
        show (pf w pa va q j r m || decide (m = _)) = (pf w pa va q j r m || ((c_s (w_c w q) r).testBit j && _))
        rw [b36, Bool.true_and]
set_option maxRecDepth 10000 in
set_option maxHeartbeats 2000000 in
theorem c_Se_undoStep (hG : q_GG g) {w : w_T} {R St Fa Wa : Nat → Bool} {pl vl : Nat → Nat} {o : Nat × Nat × Nat × Nat} {pa va : Nat → Nat} {q j : Nat} {hp : List va_E} (hok : w_ok w) (hN : w_q w ≤ 30000) (hs : s_ok w pa va) (hq : q < w_p w) (hj : j < 13) (hpj : pa q = j) (h : S_A w R St Fa Wa pl vl o hp) : q_C g m_Se_undoStep true (q_R 2 40 0 0) [.ref 67, .int (nI (w_u w pa va)), .int (nI q), .int (nI j)] hp (q_ho none (fun hp2 => S_A w R St (fa_u R Fa (pf w pa va q j (c_n (w_c w q)))) (wa_u R Fa Wa (pf w pa va q j (c_n (w_c w q)))) pl vl o hp2 ∧ F_S hp hp2)) := by
  refine q_C.of hG (by decide) (Nat.le_of_ble_eq_true rfl) ?_
  have hp6 := hok.2.1
  have h_s := h.2.1
  have h_w := h.1.1
  have h_cr := h.1.2.2.2.1
  have hinq : vp_in (nI q) 6 := vp_in_nI (by omega) (by decide)
  refine q_aload_n d_Se_undoStep_0 rfl rfl ?_
  refine q_get d_Se_undoStep_1 f_Se_41 h_s rfl ?_
  refine q_get d_Se_undoStep_4 f_Se_110 h_w rfl ?_
  refine q_iload_n d_Se_undoStep_7 rfl ?_
  refine q_aald d_Se_undoStep_8 h_cr rfl hinq (cr_at (by omega)) ?_
  refine q_astore d_Se_undoStep_9 rfl (by decide) rfl ?_
  refine q_iconst (v := 0) d_Se_undoStep_11 (by decide) ?_
  refine q_istore d_Se_undoStep_12 (by decide) rfl ?_
  refine q_wrote ?_
  exact l_Se_us hG hok hN hs hq hj hpj (c_n (w_c w q)) 0 (by omega) hp h.emp (F_S.refl hp)
theorem wr_eq {o : Option Nat} {y : Nat} (hy : y < 2 ^ 31 ∧ ∀ x, o = some x → x < 2 ^ 31) : wo_r o = nI y ↔ o = some y := by
  cases o with
  | none => exact ⟨fun q => absurd q.symm (tb_m1 hy.1), fun q => by cases q⟩
  | some x =>
    refine ⟨fun q => ?_, fun q => by cases q; rfl⟩
    rw [(nI_eq (hy.2 x rfl) hy.1).mp q]
set_option maxRecDepth 10000 in
set_option maxHeartbeats 2000000 in
theorem l_Se_ua (hG : q_GG g) {w : w_T} {R St Fa Wa : Nat → Bool} {pl vl : Nat → Nat} {o : Nat × Nat × Nat × Nat} {q j : Nat} {hpb : List va_E} (hok : w_ok w) (hN : w_q w ≤ 30000) (hfz : w_fz w) (hs : s_ok w pl vl) (hq : q < w_p w) (hj1 : 1 ≤ j) (hj : j < c_n (w_c w q)) (hpj : pl q = j) : ∀ (k b : Nat), b + k = w_z w (c_v (w_c w q) j) → ∀ (hp : List va_E), S_A w R St (fa_u R Fa (pv w pl vl q j b)) (wa_u R Fa Wa (pv w pl vl q j b)) pl vl o hp → F_S hpb hp → q_J g m_Se_undoAct true (q_R 3 60 0 0) (q_ho none (fun hp2 => S_A w R St (fa_u R Fa (pv w pl vl q j (w_z w (c_v (w_c w q) j)))) (wa_u R Fa Wa (pv w pl vl q j (w_z w (c_v (w_c w q) j)))) pl vl o hp2 ∧ F_S hpb hp2)) 47 [some (.ref 67), some (.int (nI (w_u w pl vl))), some (.int (nI q)), some (.int (nI j)), some (.ref (7 + 5 * q)), some (.int (nI (c_v (w_c w q) j))), some (.int (nI (vl (c_v (w_c w q) j)))), some (.int (nI (w_z w (c_v (w_c w q) j)))), some (.int (nI b))] [] hp 0 0 true := by
  have hp6 := hok.2.1
  obtain ⟨c1, c2, c3, c4⟩ := hok.2.2.2 q (by omega)
  have hjc := hj
  have hj : j < 13 := by omega
  obtain ⟨d1, d2, d3, d4⟩ := c4 j hj
  obtain ⟨z1, z2, -⟩ := hok.2.2.1 _ d3
  have v1 := hs.2.2 _ d3
  have hff := hfz q hq j hj1 hjc
  intro k
  induction k with
  | zero =>
    intro b hb hp h hF
    refine q_iload d_Se_undoAct_47 rfl ?_
    refine q_iload d_Se_undoAct_49 rfl ?_
    refine q_icmp_ge (tgt := 96) d_Se_undoAct_51 (by decide) (fun b51 => ?_) (fun b51 => ?_)
    · skip
      refine q_vret d_Se_undoAct_96 rfl ?_ (Nat.le_of_ble_eq_true rfl) (Nat.le_of_ble_eq_true rfl) (by decide)
      refine ⟨hp, rfl, rfl, ?_, hF⟩
      rw [show w_z w (c_v (w_c w q) j) = b by omega]
      exact h
    · skip
      exact absurd (nI_le (by omega) (by omega)) b51
  | succ k ih =>
    intro b hb hp h hF
    have h_s := h.2.1
    have hC := h.1.2.2.2.2 q (by omega)
    have h_c := hC.1
    have h_ck := hC.2.2.1
    have h_cf := hC.2.2.2.2
    have hwr : vl (c_v (w_c w q) j) < 2 ^ 31 ∧ ∀ x, wo_o (c_k (w_c w q) j) (c_f (w_c w q) j) b (w_z w (c_v (w_c w q) j)) = some x → x < 2 ^ 31 := ⟨by omega, fun x hx => by have := wo_o_lt hff (show b < _ by omega) hx; omega⟩
    obtain ⟨-, ⟨fv, h_vw, hfv⟩⟩ := h.2.2.2.2.2.2.2
    have hclv : (nI (c_v (w_c w q) j)).toNatClampNeg = c_v (w_c w q) j := nI_clamp (by omega)
    have hinv : vp_in (nI (c_v (w_c w q) j)) 5 := vp_in_nI d3 (by decide)
    have hvw := hfv _ d3
    refine q_iload d_Se_undoAct_47 rfl ?_
    refine q_iload d_Se_undoAct_49 rfl ?_
    refine q_icmp_ge (tgt := 96) d_Se_undoAct_51 (by decide) (fun b51 => ?_) (fun b51 => ?_)
    · skip
      exact absurd b51 (nI_ge (by omega) (by omega))
    · skip
      refine q_aload d_Se_undoAct_54 rfl rfl ?_
      refine q_iload_n d_Se_undoAct_56 rfl ?_
      refine q_iload d_Se_undoAct_57 rfl ?_
      refine q_iload d_Se_undoAct_59 rfl ?_
      refine x_callV d_Se_undoAct_61 l_Se_154 i_Co_outcome v_Co_outcome rfl h_c (c_Co_outcome hG h_c h_ck h_cf hj) rfl rfl (Nat.le_of_ble_eq_true rfl) (Nat.le_of_ble_eq_true rfl) (Nat.le_of_ble_eq_true rfl) (Nat.le_of_ble_eq_true rfl) ?_
      rw [wo_o_is (by omega) (by omega) (by omega) (by omega) (by omega)]
      refine q_iload d_Se_undoAct_64 rfl ?_
      refine q_icmp_ne (tgt := 90) d_Se_undoAct_66 (by decide) (fun b66 => ?_) (fun b66 => ?_)
      · skip
        rw [wr_eq hwr] at b66
        refine q_iinc d_Se_undoAct_90 rfl (show _ + Int32.ofInt 1 = _ + 1 from rfl) (by decide) rfl ?_
        rw [nI_1]
        refine q_goto (tgt := 47) d_Se_undoAct_93 (by decide) ?_
        refine ih (b + 1) (by omega) hp (h.same (fun m => ?_)) hF
        show pv w pl vl q j b m = (pv w pl vl q j b m || (decide _ && _))
        rw [decide_eq_false b66, Bool.false_and, Bool.or_false]
      · skip
        rw [wr_eq hwr] at b66
        refine q_aload_n d_Se_undoAct_69 rfl rfl ?_
        refine q_iload_n d_Se_undoAct_70 rfl ?_
        refine q_iload d_Se_undoAct_71 rfl ?_
        refine q_iload d_Se_undoAct_73 rfl ?_
        refine q_isub d_Se_undoAct_75 ?_
        refine q_aload_n d_Se_undoAct_76 rfl rfl ?_
        refine q_get d_Se_undoAct_77 f_Se_38 h_s rfl ?_
        refine q_iload d_Se_undoAct_80 rfl ?_
        refine q_iald d_Se_undoAct_82 h_vw rfl hinv ?_
        rw [hclv, hvw]
        refine q_imul d_Se_undoAct_83 ?_
        refine q_iadd d_Se_undoAct_84 ?_
        rw [s_int1 (s_st2 (pl := pl) d3)]
        refine q_iload_n d_Se_undoAct_85 rfl ?_
        refine q_iload_n d_Se_undoAct_86 rfl ?_
        refine x_callVr d_Se_undoAct_87 l_Se_157 i_Se_undoStep v_Se_undoStep rfl h_s (c_Se_undoStep hG (pa := pl) (va := va_up vl (c_v (w_c w q) j) b) hok hN (up_ok2 hs (by omega)) hq hj hpj h) rfl rfl (Nat.le_of_ble_eq_true rfl) (Nat.le_of_ble_eq_true rfl) (Nat.le_of_ble_eq_true rfl) (Nat.le_of_ble_eq_true rfl) (fun hp1 h1 => ?_)
        refine q_iinc d_Se_undoAct_90 rfl (show _ + Int32.ofInt 1 = _ + 1 from rfl) (by decide) rfl ?_
        rw [nI_1]
        refine q_goto (tgt := 47) d_Se_undoAct_93 (by decide) ?_
        refine ih (b + 1) (by omega) hp1 (h1.1.comp.same (fun m => ?_)) (hF.trans h1.2)
        show (pv w pl vl q j b m || _) = (pv w pl vl q j b m || (decide _ && _))
        rw [decide_eq_true b66, Bool.true_and]
set_option maxRecDepth 10000 in
set_option maxHeartbeats 2000000 in
theorem c_Se_undoAct (hG : q_GG g) {w : w_T} {R St Fa Wa : Nat → Bool} {pl vl : Nat → Nat} {o : Nat × Nat × Nat × Nat} {q j : Nat} {hp : List va_E} (hok : w_ok w) (hN : w_q w ≤ 30000) (hfz : w_fz w) (hs : s_ok w pl vl) (hq : q < w_p w) (hj1 : 1 ≤ j) (hj : j < c_n (w_c w q)) (hpj : pl q = j) (h : S_A w R St Fa Wa pl vl o hp) : q_C g m_Se_undoAct true (q_R 3 60 0 0) [.ref 67, .int (nI (w_u w pl vl)), .int (nI q), .int (nI j)] hp (q_ho none (fun hp2 => S_A w R St (fa_u R Fa (pv w pl vl q j (w_z w (c_v (w_c w q) j)))) (wa_u R Fa Wa (pv w pl vl q j (w_z w (c_v (w_c w q) j)))) pl vl o hp2 ∧ F_S hp hp2)) := by
  refine q_C.of hG (by decide) (Nat.le_of_ble_eq_true rfl) ?_
  have hp6 := hok.2.1
  obtain ⟨c1, c2, c3, c4⟩ := hok.2.2.2 q (by omega)
  obtain ⟨d1, d2, d3, d4⟩ := c4 j (by omega)
  have h_s := h.2.1
  have h_w := h.1.1
  have h_z := h.1.2.1
  have h_cr := h.1.2.2.2.1
  have hC := h.1.2.2.2.2 q (by omega)
  have h_c := hC.1
  have h_cv := hC.2.2.2.1
  have h_n := h.2.2.2.2.2.2.1.1
  have h_vl := h.2.2.2.2.2.2.1.2.2
  have hinq : vp_in (nI q) 6 := vp_in_nI (by omega) (by decide)
  have hclj : (nI j).toNatClampNeg = j := nI_clamp (by omega)
  have hinj : vp_in (nI j) 13 := vp_in_nI (by omega) (by decide)
  have hclv : (nI (c_v (w_c w q) j)).toNatClampNeg = c_v (w_c w q) j := nI_clamp (by omega)
  have hinv : vp_in (nI (c_v (w_c w q) j)) 5 := vp_in_nI d3 (by decide)
  refine q_aload_n d_Se_undoAct_0 rfl rfl ?_
  refine q_get d_Se_undoAct_1 f_Se_41 h_s rfl ?_
  refine q_get d_Se_undoAct_4 f_Se_110 h_w rfl ?_
  refine q_iload_n d_Se_undoAct_7 rfl ?_
  refine q_aald d_Se_undoAct_8 h_cr rfl hinq (cr_at (by omega)) ?_
  refine q_astore d_Se_undoAct_9 rfl (by decide) rfl ?_
  refine q_aload d_Se_undoAct_11 rfl rfl ?_
  refine q_get d_Se_undoAct_13 f_Se_138 h_c rfl ?_
  refine q_iload_n d_Se_undoAct_16 rfl ?_
  refine q_iald d_Se_undoAct_17 h_cv rfl hinj ?_
  rw [hclj]
  refine q_istore d_Se_undoAct_18 (by decide) rfl ?_
  refine q_aload_n d_Se_undoAct_20 rfl rfl ?_
  refine q_get d_Se_undoAct_21 f_Se_30 h_s rfl ?_
  refine q_get d_Se_undoAct_24 f_Se_145 h_n rfl ?_
  refine q_iload d_Se_undoAct_27 rfl ?_
  refine q_iald d_Se_undoAct_29 h_vl rfl hinv ?_
  rw [hclv]
  refine q_istore d_Se_undoAct_30 (by decide) rfl ?_
  refine q_aload_n d_Se_undoAct_32 rfl rfl ?_
  refine q_get d_Se_undoAct_33 f_Se_41 h_s rfl ?_
  refine q_get d_Se_undoAct_36 f_Se_104 h_w rfl ?_
  refine q_iload d_Se_undoAct_39 rfl ?_
  refine q_iald d_Se_undoAct_41 h_z rfl hinv ?_
  rw [hclv]
  refine q_istore d_Se_undoAct_42 (by decide) rfl ?_
  refine q_iconst (v := 0) d_Se_undoAct_44 (by decide) ?_
  refine q_istore d_Se_undoAct_45 (by decide) rfl ?_
  refine q_wrote ?_
  exact l_Se_ua hG hok hN hfz hs hq hj1 hj hpj (w_z w (c_v (w_c w q) j)) 0 (by omega) hp h.emp (F_S.refl hp)
end C23
