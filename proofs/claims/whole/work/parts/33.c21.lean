/-! Search: a state looked at -/
section C21
variable {g : q_G}
def spa (w : w_T) (pl vl : Nat → Nat) : Nat → Nat → Bool
  | 0 => fun _ => false
  | q + 1 => fun m => spa w pl vl q m || sp w pl vl q (c_n (w_c w q) - 1) m
def w_st (w : w_T) (pl vl : Nat → Nat) : Nat → Bool
  | 0 => true
  | q + 1 => w_st w pl vl q && decide (w_op w pl vl q (c_n (w_c w q) - 1) = 0)
theorem sp_0 {w : w_T} {pl vl : Nat → Nat} {q : Nat} : ∀ k, (∀ j, 1 ≤ j → j ≤ k → w_can w pl vl q j = false) → ∀ m, sp w pl vl q k m = false := by
  intro k
  induction k with
  | zero => intro _ m; rfl
  | succ k ih =>
    intro h m
    show (sp w pl vl q k m || (w_can w pl vl q (k + 1) && _)) = false
    rw [ih (fun j a b => h j a (by omega)), h (k + 1) (by omega) (Nat.le_refl _)]
    rfl
/-- the state of a number -/
def w_pl (w : w_T) (n : Nat) (pl : Nat → Nat) : Nat → Nat := fun j => if j < w_p w then w_dp w n j else pl j
def w_vv (w : w_T) (n : Nat) (vl : Nat → Nat) : Nat → Nat := fun j => if j < 5 then w_dv w n j else vl j
theorem w_dn_N {m : Nat} {d f : Nat → Nat} : w_dn 0 m d (fun j => nI (f j)) = fun j => nI (if j < m then d j else f j) := by
  funext j
  unfold w_dn
  by_cases h : j < m
  · rw [if_pos ⟨Nat.zero_le _, h⟩, if_pos h]
  · rw [if_neg (fun q => h q.2), if_neg h]
theorem w_pl_ok {w : w_T} {n : Nat} {pl vl : Nat → Nat} (hok : w_ok w) (h13 : ∀ q, q < 6 → pl q < 13) : s_ok w (w_pl w n pl) (w_vv w n vl) := by
  refine d_ok hok (fun q hq => if_pos hq) (fun v hv => if_pos hv) (fun q hq => ?_)
  show (if q < w_p w then w_dp w n q else pl q) < 13
  split
  · have := hok.2.2.2 q hq
    have h := Nat.mod_lt (w_r1 w n (w_p w - 1 - q)) (show 0 < c_n (w_c w q) by have := this.1; omega)
    have := this.2.1
    unfold w_dp
    omega
  · exact h13 q hq
theorem w_pl_u {w : w_T} {n : Nat} {pl vl : Nat → Nat} (hn : n < w_q w) : w_u w (w_pl w n pl) (w_vv w n vl) = n := d_u hn (fun q hq => if_pos hq) (fun v hv => if_pos hv)
theorem u1_congr {w : w_T} {pl pl' : Nat → Nat} (h : ∀ q, q < w_p w → pl q = pl' q) : ∀ r, r ≤ w_p w → w_u1 w pl r = w_u1 w pl' r := by
  intro r
  induction r with
  | zero => intro _; rfl
  | succ r ih =>
    intro hr
    show w_u1 w pl r * _ + pl r = w_u1 w pl' r * _ + pl' r
    rw [ih (by omega), h r (by omega)]
theorem u2_congr {w : w_T} {pl pl' vl vl' : Nat → Nat} (h : ∀ q, q < w_p w → pl q = pl' q) (hv : ∀ v, v < 5 → vl v = vl' v) : ∀ r, r ≤ 5 → w_u2 w pl vl r = w_u2 w pl' vl' r := by
  intro r
  induction r with
  | zero => intro _; exact u1_congr h _ (Nat.le_refl _)
  | succ r ih =>
    intro hr
    show w_u2 w pl vl r * _ + vl r = w_u2 w pl' vl' r * _ + vl' r
    rw [ih (by omega), hv r (by omega)]
theorem up_congr {f f' : Nat → Nat} {n k y : Nat} (h : ∀ q, q < n → f q = f' q) : ∀ q, q < n → va_up f k y q = va_up f' k y q := by
  intro q hq
  unfold va_up
  rw [h q hq]
theorem can_congr {w : w_T} {pl pl' vl vl' : Nat → Nat} (hok : w_ok w) (h : ∀ q, q < w_p w → pl q = pl' q) (hv : ∀ v, v < 5 → vl v = vl' v) {q j : Nat} (hq : q < w_p w) (hj : j < 13) : w_can w pl vl q j = w_can w pl' vl' q j := by
  have := ((hok.2.2.2 q (by have := hok.2.1; omega)).2.2.2 j hj).2.2.1
  unfold w_can
  rw [h q hq, hv _ this]
theorem nx_congr {w : w_T} {pl pl' vl vl' : Nat → Nat} (hok : w_ok w) (h : ∀ q, q < w_p w → pl q = pl' q) (hv : ∀ v, v < 5 → vl v = vl' v) {q j : Nat} (hq : q < w_p w) (hj : j < 13) : w_nx w pl vl q j = w_nx w pl' vl' q j := by
  have := ((hok.2.2.2 q (by have := hok.2.1; omega)).2.2.2 j hj).2.2.1
  unfold w_nx w_oc
  rw [hv _ this]
  exact u2_congr (up_congr h) (up_congr hv) 5 (Nat.le_refl _)
theorem sp_congr {w : w_T} {pl pl' vl vl' : Nat → Nat} (hok : w_ok w) (h : ∀ q, q < w_p w → pl q = pl' q) (hv : ∀ v, v < 5 → vl v = vl' v) {q : Nat} (hq : q < w_p w) (m : Nat) : ∀ k, k < 13 → sp w pl vl q k m = sp w pl' vl' q k m := by
  intro k
  induction k with
  | zero => intro _; rfl
  | succ k ih =>
    intro hk
    show (sp w pl vl q k m || (w_can w pl vl q (k + 1) && decide (m = w_nx w pl vl q (k + 1)))) = (sp w pl' vl' q k m || (w_can w pl' vl' q (k + 1) && decide (m = w_nx w pl' vl' q (k + 1))))
    rw [ih (by omega), can_congr hok h hv hq hk, nx_congr hok h hv hq hk]
theorem op_congr {w : w_T} {pl pl' vl vl' : Nat → Nat} (hok : w_ok w) (h : ∀ q, q < w_p w → pl q = pl' q) (hv : ∀ v, v < 5 → vl v = vl' v) {q : Nat} (hq : q < w_p w) : ∀ k, k < 13 → w_op w pl vl q k = w_op w pl' vl' q k := by
  intro k
  induction k with
  | zero => intro _; rfl
  | succ k ih =>
    intro hk
    unfold w_op
    rw [ih (by omega), can_congr hok h hv hq hk]
theorem spa_congr {w : w_T} {pl pl' vl vl' : Nat → Nat} (hok : w_ok w) (h : ∀ q, q < w_p w → pl q = pl' q) (hv : ∀ v, v < 5 → vl v = vl' v) (m : Nat) : ∀ q, q ≤ w_p w → spa w pl vl q m = spa w pl' vl' q m := by
  intro q
  induction q with
  | zero => intro _; rfl
  | succ q ih =>
    intro hq
    have := (hok.2.2.2 q (by have := hok.2.1; omega)).2.1
    show (spa w pl vl q m || sp w pl vl q _ m) = (spa w pl' vl' q m || sp w pl' vl' q _ m)
    rw [ih (by omega), sp_congr hok h hv hq m _ (by omega)]
theorem st_congr {w : w_T} {pl pl' vl vl' : Nat → Nat} (hok : w_ok w) (h : ∀ q, q < w_p w → pl q = pl' q) (hv : ∀ v, v < 5 → vl v = vl' v) : ∀ q, q ≤ w_p w → w_st w pl vl q = w_st w pl' vl' q := by
  intro q
  induction q with
  | zero => intro _; rfl
  | succ q ih =>
    intro hq
    have := (hok.2.2.2 q (by have := hok.2.1; omega)).2.1
    show (w_st w pl vl q && decide (w_op w pl vl q _ = 0)) = (w_st w pl' vl' q && decide (w_op w pl' vl' q _ = 0))
    rw [ih (by omega), op_congr hok h hv hq _ (by omega)]
theorem ae_congr {w : w_T} {pl pl' : Nat → Nat} (h : ∀ q, q < w_p w → pl q = pl' q) : ∀ q, q ≤ w_p w → w_ae w pl q = w_ae w pl' q := by
  intro q
  induction q with
  | zero => intro _; rfl
  | succ q ih =>
    intro hq
    unfold w_ae
    rw [ih (by omega), h q (by omega)]
/-- of a number: what its steps come to, whether it stands, whether all are at ends -/
def N_sc (w : w_T) (n : Nat) : Nat → Bool := spa w (w_pl w n (fun _ => 0)) (w_vv w n (fun _ => 0)) (w_p w)
def N_st (w : w_T) (n : Nat) : Bool := w_st w (w_pl w n (fun _ => 0)) (w_vv w n (fun _ => 0)) (w_p w)
def N_ae (w : w_T) (n : Nat) : Bool := w_ae w (w_pl w n (fun _ => 0)) (w_p w)
theorem pl_0 (w : w_T) (n : Nat) (pl : Nat → Nat) : ∀ q, q < w_p w → w_pl w n pl q = w_pl w n (fun _ => 0) q := fun q hq => by
  unfold w_pl
  rw [if_pos hq, if_pos hq]
theorem vv_0 (w : w_T) (n : Nat) (vl : Nat → Nat) : ∀ v, v < 5 → w_vv w n vl v = w_vv w n (fun _ => 0) v := fun v hv => by
  unfold w_vv
  rw [if_pos hv, if_pos hv]
theorem k_put (hG : q_GG g) {w : w_T} {R St Fa Wa : Nat → Bool} {pl vl : Nat → Nat} {o : Nat × Nat × Nat × Nat} {hp : List va_E} {n : Nat} (hok : w_ok w) (hn : n < 2 ^ 31) (h : S_A w R St Fa Wa pl vl o hp) : q_C g m_Wo_putNumbered true (q_R 1 13 0 0) [.ref 3, .int (nI n), .ref 76] hp (q_ho none (fun hp2 => S_A w R St Fa Wa (w_pl w n pl) (w_vv w n vl) o hp2 ∧ F_S hp hp2)) := by
  have hs := h.2.2.2.2.2.2.1
  refine (c_Wo_putNumbered hG (by omega) hn hok h.1 hs.1 hs.2.1 hs.2.2).post ?_
  intro r hp' ⟨e1, e2⟩
  subst e1; subst e2
  rw [w_dn_N, w_dn_N]
  refine ⟨_, rfl, rfl, h.seen (fun k hk => by rw [List.getElem?_set_ne (by omega), List.getElem?_set_ne (by omega)]) ⟨q_keep rfl (q_keep rfl hs.1 (by omega)) (by omega), q_self (q_keep rfl hs.2.1 (by omega)), q_keep rfl (q_self hs.2.2) (by omega)⟩, (F_S.set _ (by omega)).trans (F_S.set _ (by omega))⟩
set_option maxRecDepth 10000 in
set_option maxHeartbeats 2000000 in
theorem l_Se_laE (hG : q_GG g) {w : w_T} {R0 St Fa W0 : Nat → Bool} {pl vl : Nat → Nat} {o : Nat × Nat × Nat × Nat} {hpb hp : List va_E} {z3 z4 : Option Value} (hok : w_ok w) (hs : s_ok w pl vl) (hn : w_u w pl vl < 30000) (h : S_A w R0 St Fa W0 pl vl o hp) (hF : F_S hpb hp) : q_J g m_Se_lookAhead true (q_R 3 60 0 0) (q_ho none (fun hp2 => S_A w R0 (if w_st w pl vl (w_p w) then sc_add St (w_u w pl vl) else St) Fa W0 pl vl (if w_st w pl vl (w_p w) then (o.1 + 1, o.2.1 + (if w_ae w pl (w_p w) then 1 else 0), o.2.2.1, o.2.2.2) else o) hp2 ∧ F_S hpb hp2)) 62 [some (.ref 67), some (.int (nI (w_u w pl vl))), some (.int (if w_st w pl vl (w_p w) then 1 else 0)), z3, z4] [] hp 0 0 true := by
  have h_s := h.2.1
  have h_w := h.1.1
  have h_n := h.2.2.2.2.2.2.1.1
  obtain ⟨lt, h_t⟩ := h.2.2.2.1.ob
  refine q_iload_n d_Se_lookAhead_62 rfl ?_
  refine q_if_eq (tgt := 112) d_Se_lookAhead_63 (by decide) (fun b63 => ?_) (fun b63 => ?_)
  · skip
    have hst : ¬ w_st w pl vl (w_p w) = true := fun q => by rw [if_pos q] at b63; exact absurd b63 (by decide)
    refine q_vret d_Se_lookAhead_112 rfl ?_ (Nat.le_of_ble_eq_true rfl) (Nat.le_of_ble_eq_true rfl) (by decide)
    refine ⟨hp, rfl, rfl, ?_, hF⟩
    rw [if_neg hst, if_neg hst]
    exact h
  · skip
    have hst : w_st w pl vl (w_p w) = true := by
      by_cases q : w_st w pl vl (w_p w) = true
      · exact q
      · rw [if_neg q] at b63; exact absurd rfl b63
    refine q_aload_n d_Se_lookAhead_66 rfl rfl ?_
    refine q_get d_Se_lookAhead_67 f_Se_18 h_s rfl ?_
    refine q_iload_n d_Se_lookAhead_70 rfl ?_
    refine x_callVr d_Se_lookAhead_71 l_Se_123 i_Ss_add v_Ss_add rfl h_t (k_add hG h.2.2.2.1 hn) rfl rfl (Nat.le_of_ble_eq_true rfl) (Nat.le_of_ble_eq_true rfl) (Nat.le_of_ble_eq_true rfl) (Nat.le_of_ble_eq_true rfl) (fun hp9 h9 => ?_)
    have g1 := h.st h9.2 h9.1
    have h_s := g1.2.1
    refine q_aload_n d_Se_lookAhead_74 rfl rfl ?_
    refine q_dup d_Se_lookAhead_75 rfl ?_
    refine q_get d_Se_lookAhead_76 f_Se_58 h_s rfl ?_
    refine q_iconst (v := 1) d_Se_lookAhead_79 (by decide) ?_
    refine q_iadd d_Se_lookAhead_80 ?_
    refine x_put d_Se_lookAhead_81 f_Se_58 h_s (Nat.le_of_ble_eq_true rfl) rfl rfl (fun hp1 e1 h_s => ?_)
    rw [nI_1] at e1 h_s
    have g2 : S_A w R0 (sc_add St (w_u w pl vl)) Fa W0 pl vl (o.1 + 1, o.2.1, o.2.2.1, o.2.2.2) hp1 := by rw [e1]; exact g1.se
    have h_s := g2.2.1
    have h_w := g2.1.1
    refine q_aload_n d_Se_lookAhead_84 rfl rfl ?_
    refine q_dup d_Se_lookAhead_85 rfl ?_
    refine q_get d_Se_lookAhead_86 f_Se_62 h_s rfl ?_
    refine q_aload_n d_Se_lookAhead_89 rfl rfl ?_
    refine q_get d_Se_lookAhead_90 f_Se_41 h_s rfl ?_
    refine q_aload_n d_Se_lookAhead_93 rfl rfl ?_
    refine q_get d_Se_lookAhead_94 f_Se_30 h_s rfl ?_
    refine x_callV d_Se_lookAhead_97 l_Se_134 i_Wo_allAtEnds v_Wo_allAtEnds rfl h_w (c_Wo_allAtEnds hG hok g2.1 g2.2.2.2.2.2.2.1 hs.2.1) rfl rfl (Nat.le_of_ble_eq_true rfl) (Nat.le_of_ble_eq_true rfl) (Nat.le_of_ble_eq_true rfl) (Nat.le_of_ble_eq_true rfl) ?_
    refine q_if_eq (tgt := 107) d_Se_lookAhead_100 (by decide) (fun b100 => ?_) (fun b100 => ?_)
    · skip
      have hae : ¬ w_ae w pl (w_p w) = true := fun q => by rw [if_pos q] at b100; exact absurd b100 (by decide)
      refine q_iconst (v := 0) d_Se_lookAhead_107 (by decide) ?_
      refine q_iadd d_Se_lookAhead_108 ?_
      refine x_put d_Se_lookAhead_109 f_Se_62 h_s (Nat.le_of_ble_eq_true rfl) rfl rfl (fun hp2 e2 h_s => ?_)
      refine q_vret d_Se_lookAhead_112 rfl ?_ (Nat.le_of_ble_eq_true rfl) (Nat.le_of_ble_eq_true rfl) (by decide)
      refine ⟨_, rfl, rfl, ?_, hF.trans ((h9.2.s (by omega)).trans ?_)⟩
      · rw [if_pos hst, if_pos hst, if_neg hae]
        rw [e2, show (nI (o.1 + 1, o.2.1, o.2.2.1, o.2.2.2).2.1 + 0 : Int32) = nI (o.2.1 + 0) from nI_add o.2.1 0]
        exact g2.se (o' := (o.1 + 1, o.2.1 + 0, o.2.2.1, o.2.2.2))
      · rw [e2, e1]
        exact (F_S.set _ (by omega)).trans (F_S.set _ (by omega))
    · skip
      have hae : w_ae w pl (w_p w) = true := by
        by_cases q : w_ae w pl (w_p w) = true
        · exact q
        · rw [if_neg q] at b100; exact absurd rfl b100
      refine q_iconst (v := 1) d_Se_lookAhead_103 (by decide) ?_
      refine q_goto (tgt := 108) d_Se_lookAhead_104 (by decide) ?_
      refine q_iadd d_Se_lookAhead_108 ?_
      refine x_put d_Se_lookAhead_109 f_Se_62 h_s (Nat.le_of_ble_eq_true rfl) rfl rfl (fun hp3 e3 h_s => ?_)
      refine q_vret d_Se_lookAhead_112 rfl ?_ (Nat.le_of_ble_eq_true rfl) (Nat.le_of_ble_eq_true rfl) (by decide)
      refine ⟨_, rfl, rfl, ?_, hF.trans ((h9.2.s (by omega)).trans ?_)⟩
      · rw [if_pos hst, if_pos hst, if_pos hae]
        rw [e3, show (nI (o.1 + 1, o.2.1, o.2.2.1, o.2.2.2).2.1 + 1 : Int32) = nI (o.2.1 + 1) from nI_add o.2.1 1]
        exact g2.se (o' := (o.1 + 1, o.2.1 + 1, o.2.2.1, o.2.2.2))
      · rw [e3, e1]
        exact (F_S.set _ (by omega)).trans (F_S.set _ (by omega))
set_option maxRecDepth 10000 in
set_option maxHeartbeats 2000000 in
theorem l_Se_la (hG : q_GG g) {w : w_T} {R St Fa Wa : Nat → Bool} {pl vl : Nat → Nat} {o : Nat × Nat × Nat × Nat} {hpb : List va_E} (hok : w_ok w) (hfz : w_fz w) (hN : w_q w ≤ 30000) (hs : s_ok w pl vl) : ∀ (k q : Nat), q + k = w_p w → ∀ (z4 : Option Value) (hp : List va_E), S_A w (fun m => R m || spa w pl vl q m) St Fa (fun m => Wa m || (spa w pl vl q m && !R m)) pl vl o hp → F_S hpb hp → q_J g m_Se_lookAhead true (q_R 3 60 0 0) (q_ho none (fun hp2 => S_A w (fun m => R m || spa w pl vl (w_p w) m) (if w_st w pl vl (w_p w) then sc_add St (w_u w pl vl) else St) Fa (fun m => Wa m || (spa w pl vl (w_p w) m && !R m)) pl vl (if w_st w pl vl (w_p w) then (o.1 + 1, o.2.1 + (if w_ae w pl (w_p w) then 1 else 0), o.2.2.1, o.2.2.2) else o) hp2 ∧ F_S hpb hp2)) 16 [some (.ref 67), some (.int (nI (w_u w pl vl))), some (.int (if w_st w pl vl q then 1 else 0)), some (.int (nI q)), z4] [] hp 0 0 true := by
  have hp6 := hok.2.1
  have hn : w_u w pl vl < 30000 := by have := s_lt hs; omega
  intro k
  induction k with
  | zero =>
    intro q hq z4 hp h hF
    have h_s := h.2.1
    have h_w := h.1.1
    refine q_iload_n d_Se_lookAhead_16 rfl ?_
    refine q_aload_n d_Se_lookAhead_17 rfl rfl ?_
    refine q_get d_Se_lookAhead_18 f_Se_41 h_s rfl ?_
    refine q_get d_Se_lookAhead_21 f_Se_107 h_w rfl ?_
    refine q_icmp_ge (tgt := 62) d_Se_lookAhead_24 (by decide) (fun b24 => ?_) (fun b24 => ?_)
    · skip
      have e : q = w_p w := by omega
      subst e
      exact l_Se_laE hG hok hs hn h hF
    · skip
      exact absurd (nI_le (by omega) (by omega)) b24
  | succ k ih =>
    intro q hq z4 hp h hF
    have h_s := h.2.1
    have h_w := h.1.1
    have h_n := h.2.2.2.2.2.2.1.1
    obtain ⟨c1, c2, c3, c4⟩ := hok.2.2.2 q (by omega)
    have hop : w_op w pl vl q (c_n (w_c w q) - 1) < 2 ^ 31 := by
      have := w_op_lt w pl vl q (c_n (w_c w q) - 1)
      have : 2 ^ (c_n (w_c w q) - 1 + 1) ≤ 2 ^ 13 := Nat.pow_le_pow_right (by decide) (by omega)
      omega
    refine q_iload_n d_Se_lookAhead_16 rfl ?_
    refine q_aload_n d_Se_lookAhead_17 rfl rfl ?_
    refine q_get d_Se_lookAhead_18 f_Se_41 h_s rfl ?_
    refine q_get d_Se_lookAhead_21 f_Se_107 h_w rfl ?_
    refine q_icmp_ge (tgt := 62) d_Se_lookAhead_24 (by decide) (fun b24 => ?_) (fun b24 => ?_)
    · skip
      exact absurd b24 (nI_ge (by omega) (by omega))
    · skip
      refine q_aload_n d_Se_lookAhead_27 rfl rfl ?_
      refine q_get d_Se_lookAhead_28 f_Se_41 h_s rfl ?_
      refine q_aload_n d_Se_lookAhead_31 rfl rfl ?_
      refine q_get d_Se_lookAhead_32 f_Se_30 h_s rfl ?_
      refine q_iload_n d_Se_lookAhead_35 rfl ?_
      refine x_callV d_Se_lookAhead_36 l_Se_126 i_Wo_openPlaces v_Wo_openPlaces rfl h_w (c_Wo_openPlaces hG hok h.1 h.2.2.2.2.2.2.1 hs.2.2 (hs.2.1 q (by omega)) (by omega)) rfl rfl (Nat.le_of_ble_eq_true rfl) (Nat.le_of_ble_eq_true rfl) (Nat.le_of_ble_eq_true rfl) (Nat.le_of_ble_eq_true rfl) ?_
      refine q_istore d_Se_lookAhead_39 (by decide) rfl ?_
      refine q_iload d_Se_lookAhead_41 rfl ?_
      refine q_if_eq (tgt := 56) d_Se_lookAhead_43 (by decide) (fun b43 => ?_) (fun b43 => ?_)
      · skip
        have h0 : w_op w pl vl q (c_n (w_c w q) - 1) = 0 := (nI_eq (b := 0) hop (by decide)).mp b43
        refine q_iinc d_Se_lookAhead_56 rfl (show _ + Int32.ofInt 1 = _ + 1 from rfl) (by decide) rfl ?_
        rw [nI_1]
        refine q_goto (tgt := 16) d_Se_lookAhead_59 (by decide) ?_
        have hst : w_st w pl vl (q + 1) = w_st w pl vl q := by
          show (w_st w pl vl q && decide _) = _
          rw [decide_eq_true h0, Bool.and_true]
        have hsp := sp_0 (w := w) (pl := pl) (vl := vl) (q := q) (c_n (w_c w q) - 1) (w_op_0.mp h0)
        rw [← hst]
        refine ih (q + 1) (by omega) _ hp (h.eq (fun m _ => ?_) (fun _ _ => rfl) (fun _ _ => rfl) (fun m _ => ?_)) hF
        · show (R m || spa w pl vl q m) = (R m || (spa w pl vl q m || sp w pl vl q _ m))
          rw [hsp, Bool.or_false]
        · show (Wa m || (spa w pl vl q m && !R m)) = (Wa m || ((spa w pl vl q m || sp w pl vl q _ m) && !R m))
          rw [hsp, Bool.or_false]
      · skip
        have h0 : ¬ w_op w pl vl q (c_n (w_c w q) - 1) = 0 := fun e => b43 (by rw [e]; rfl)
        refine q_iconst (v := 0) d_Se_lookAhead_46 (by decide) ?_
        refine q_istore_n d_Se_lookAhead_47 rfl (by decide) rfl ?_
        refine q_aload_n d_Se_lookAhead_48 rfl rfl ?_
        refine q_iload_n d_Se_lookAhead_49 rfl ?_
        refine q_iload_n d_Se_lookAhead_50 rfl ?_
        refine q_iload d_Se_lookAhead_51 rfl ?_
        refine x_callVr d_Se_lookAhead_53 l_Se_130 i_Se_reachAll v_Se_reachAll rfl h_s (c_Se_reachAll hG hok hfz hN hs (show q < w_p w by omega) h) rfl rfl (Nat.le_of_ble_eq_true rfl) (Nat.le_of_ble_eq_true rfl) (Nat.le_of_ble_eq_true rfl) (Nat.le_of_ble_eq_true rfl) (fun hp1 h1 => ?_)
        refine q_iinc d_Se_lookAhead_56 rfl (show _ + Int32.ofInt 1 = _ + 1 from rfl) (by decide) rfl ?_
        rw [nI_1]
        refine q_goto (tgt := 16) d_Se_lookAhead_59 (by decide) ?_
        have hst : w_st w pl vl (q + 1) = false := by
          show (w_st w pl vl q && decide _) = _
          rw [decide_eq_false h0, Bool.and_false]
        have ih := ih (q + 1) (by omega) (some (.int (nI (w_op w pl vl q (c_n (w_c w q) - 1))))) hp1 (h1.1.eq (fun m _ => ?_) (fun _ _ => rfl) (fun _ _ => rfl) (fun m _ => ?_)) (hF.trans h1.2)
        · rw [hst, show (if false = true then (1 : Int32) else 0) = 0 from rfl] at ih
          exact ih
        · show ((R m || spa w pl vl q m) || sp w pl vl q _ m) = (R m || (spa w pl vl q m || sp w pl vl q _ m))
          rw [Bool.or_assoc]
        · show ((Wa m || (spa w pl vl q m && !R m)) || (sp w pl vl q (c_n (w_c w q) - 1) m && !(R m || spa w pl vl q m))) = (Wa m || ((spa w pl vl q m || sp w pl vl q (c_n (w_c w q) - 1) m) && !R m))
          cases Wa m <;> cases R m <;> cases spa w pl vl q m <;> cases sp w pl vl q (c_n (w_c w q) - 1) m <;> rfl
set_option maxRecDepth 10000 in
set_option maxHeartbeats 2000000 in
theorem c_Se_lookAhead (hG : q_GG g) {w : w_T} {R St Fa Wa : Nat → Bool} {pl vl : Nat → Nat} {o : Nat × Nat × Nat × Nat} {hp : List va_E} {n : Nat} (hok : w_ok w) (hfz : w_fz w) (hN : w_q w ≤ 30000) (hn : n < w_q w) (h13 : ∀ q, q < 6 → pl q < 13) (h : S_A w R St Fa Wa pl vl o hp) : q_C g m_Se_lookAhead true (q_R 3 60 0 0) [.ref 67, .int (nI n)] hp (q_ho none (fun hp2 => S_A w (fun m => R m || N_sc w n m) (if N_st w n then sc_add St n else St) Fa (fun m => Wa m || (N_sc w n m && !R m)) (w_pl w n pl) (w_vv w n vl) (if N_st w n then (o.1 + 1, o.2.1 + (if N_ae w n then 1 else 0), o.2.2.1, o.2.2.2) else o) hp2 ∧ F_S hp hp2)) := by
  refine q_C.of hG (by decide) (Nat.le_of_ble_eq_true rfl) ?_
  have h_s := h.2.1
  have h_w := h.1.1
  refine q_aload_n d_Se_lookAhead_0 rfl rfl ?_
  refine q_get d_Se_lookAhead_1 f_Se_41 h_s rfl ?_
  refine q_iload_n d_Se_lookAhead_4 rfl ?_
  refine q_aload_n d_Se_lookAhead_5 rfl rfl ?_
  refine q_get d_Se_lookAhead_6 f_Se_30 h_s rfl ?_
  refine x_callVr d_Se_lookAhead_9 l_Se_100 i_Wo_putNumbered v_Wo_putNumbered rfl h_w (k_put hG hok (by omega) h) rfl rfl (Nat.le_of_ble_eq_true rfl) (Nat.le_of_ble_eq_true rfl) (Nat.le_of_ble_eq_true rfl) (Nat.le_of_ble_eq_true rfl) (fun hp1 h1 => ?_)
  refine q_iconst (v := 1) d_Se_lookAhead_12 (by decide) ?_
  refine q_istore_n d_Se_lookAhead_13 rfl (by decide) rfl ?_
  refine q_iconst (v := 0) d_Se_lookAhead_14 (by decide) ?_
  refine q_istore_n d_Se_lookAhead_15 rfl (by decide) rfl ?_
  have hs := w_pl_ok (n := n) (vl := vl) hok h13
  have hu := w_pl_u (pl := pl) (vl := vl) hn
  have hl := l_Se_la (g := g) (R := R) (Wa := Wa) (St := St) (Fa := Fa) (o := o) (pl := w_pl w n pl) (vl := w_vv w n vl) (hpb := hp) hG hok hfz hN hs (w_p w) 0 (by omega) none hp1 (h1.1.eq (fun m _ => ?_) (fun _ _ => rfl) (fun _ _ => rfl) (fun m _ => ?_)) h1.2
  · have e1 : N_st w n = w_st w (w_pl w n pl) (w_vv w n vl) (w_p w) := (st_congr hok (pl_0 w n pl) (vv_0 w n vl) _ (Nat.le_refl _)).symm
    have e2 : N_ae w n = w_ae w (w_pl w n pl) (w_p w) := (ae_congr (pl_0 w n pl) _ (Nat.le_refl _)).symm
    have e3 : N_sc w n = spa w (w_pl w n pl) (w_vv w n vl) (w_p w) := funext fun m => (spa_congr hok (pl_0 w n pl) (vv_0 w n vl) m _ (Nat.le_refl _)).symm
    rw [hu] at hl
    rw [e1, e2, e3]
    exact hl
  · show R m = (R m || false)
    rw [Bool.or_false]
  · show Wa m = (Wa m || (false && _))
    rw [Bool.false_and, Bool.or_false]
end C21
