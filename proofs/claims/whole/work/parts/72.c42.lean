/-! constructors, 2 -/
section C42
section
variable {g : q_G} {M : q_Me} {fr : Bool} {rm : Room} {P : Outcome → List va_E → Prop} {pc : Nat} {ls : List (Option Value)} {st : List Value} {hp : List va_E} {c s : Nat} {w : Bool}
theorem x_callSe {N : q_Me} {fr' : Bool} {rm' : Room} {idx n : Nat} {as stk : List Value} {v : Option Value} {hp2 : List va_E} (hd : decode M.2.1 pc = .ok (.invokestatic idx, 3)) (hl : q_ML M.1.cls idx N n) (hsta : Jvm.Cond.static N.1 ∈ q_gw) (hC : q_C g N fr' rm' as hp (q_ret v hp2)) (hn : as.length = n) (hstk : stk = as.reverse ++ st) (hd' : rm'.frames + 1 ≤ rm.frames) (hN : (st.map fun v => v.category).sum + (N.2.2.1 + 11) + rm'.locals ≤ rm.locals) (hmc : c + rm'.cells ≤ rm.cells) (hms : s + rm'.slots ≤ rm.slots) (k : ∀ hp', hp' = hp2 → q_J g M fr rm P (pc + 3) ls (v.toList ++ st) hp' (c + rm'.cells) (s + rm'.slots) (w || fr')) : q_J g M fr rm P pc ls stk hp c s w :=
  x_callS hd hl hsta hC hn hstk hd' hN hmc hms (k _ rfl)
end
variable {g : q_G}
def c_00 : c_T := (1, 0, fun _ => 0, fun _ => 0, fun _ => 0, fun _ => 0)
def w_00 : w_T := (0, fun j => if j < 5 then 1 else 0, fun _ => 0, 0, fun _ => c_00)
def cr_g (q : Nat) : Nat → Option Nat := fun j => if j < q then some (7 + 5 * j) else none
theorem cr_g_s (q : Nat) : va_up (cr_g q) q (some (7 + 5 * q)) = cr_g (q + 1) := by
  funext j
  unfold va_up cr_g
  by_cases h : j = q
  · subst h
    rw [if_pos rfl, if_pos (Nat.lt_succ_self _)]
  · rw [if_neg h]
    by_cases k : j < q
    · rw [if_pos k, if_pos (by omega)]
    · rw [if_neg k, if_neg (by omega)]
def W_I (hp0 : List va_E) (q : Nat) (hp : List va_E) : Prop := hp.length = 7 + 5 * q ∧ K_n 3 4 hp0 hp ∧ hp[3]? = some (.inr (2, [.ref 4, .ref 5, .int 0, .ref 6, .int 0])) ∧ hp[4]? = some (a_I 5 (fun j => if j < 5 then 1 else 0)) ∧ hp[5]? = some (a_I 5 (fun _ => 0)) ∧ hp[6]? = some (.inl (4, 6, .inr (.inr (.inr (.inr (cr_g q)))))) ∧ ∀ i, i < q → c_A (7 + 5 * i) c_00 hp
theorem c_A.app {a : Nat} {C : c_T} {hp hp' : List va_E} {x : va_E} (h : c_A a C hp) (e : hp' = hp ++ [x]) : c_A a C hp' := ⟨q_app e h.1, q_app e h.2.1, q_app e h.2.2.1, q_app e h.2.2.2.1, q_app e h.2.2.2.2⟩
theorem c_A.st {a b : Nat} {C : c_T} {hp hp' : List va_E} {x : va_E} (h : c_A a C hp) (e : hp' = hp.set b x) (hb : b < a ∨ a + 4 < b) : c_A a C hp' := ⟨q_keep e h.1 (by omega), q_keep e h.2.1 (by omega), q_keep e h.2.2.1 (by omega), q_keep e h.2.2.2.1 (by omega), q_keep e h.2.2.2.2 (by omega)⟩
theorem c_A.kn {a b L : Nat} {C : c_T} {hp hp' : List va_E} (h : c_A a C hp) (hK : K_n b L hp hp') (hb : a + 4 < b) (hL : a + 4 < L) : c_A a C hp' := ⟨(hK.2.2 _ (by omega) (by omega)).trans h.1, (hK.2.2 _ (by omega) (by omega)).trans h.2.1, (hK.2.2 _ (by omega) (by omega)).trans h.2.2.1, (hK.2.2 _ (by omega) (by omega)).trans h.2.2.2.1, (hK.2.2 _ (by omega) (by omega)).trans h.2.2.2.2⟩
set_option maxRecDepth 10000 in
set_option maxHeartbeats 2000000 in
theorem l_Wo_init (hG : q_GG g) {hp0 : List va_E} : ∀ (k q : Nat), q + k = 6 → ∀ hp, W_I hp0 q hp → q_J g m_Wo_init true (q_R 2 60 33 364) (q_ho none (fun h => W_I hp0 6 h)) 37 [some (.ref 3), some (.int (nI q))] [] hp (3 + 5 * q) (16 + 58 * q) true := by
  intro k
  induction k with
  | zero =>
    intro q hq hp hW
    obtain rfl : q = 6 := by omega
    refine q_iload_n d_Wo_init_37 rfl ?_
    refine q_bipush (v := 6) d_Wo_init_38 (by decide) ?_
    refine q_icmp_ge (tgt := 62) d_Wo_init_40 (by decide) (fun b40 => ?_) (fun b40 => ?_)
    · refine q_vret d_Wo_init_62 rfl ?_ (Nat.le_of_ble_eq_true rfl) (Nat.le_of_ble_eq_true rfl) (by decide)
      exact ⟨_, rfl, rfl, hW⟩
    · exact absurd (show (6 : Int32) ≤ nI 6 by decide) b40
  | succ k ih =>
    intro q hq hp hW
    obtain ⟨hL, hF, h_o, h_n0, h_n1, h_n2, hC⟩ := hW
    have hin : vp_in (nI q) 6 := vp_in_nI (by omega) (by decide)
    have hcl : (nI q).toNatClampNeg = q := nI_clamp (by omega)
    refine q_iload_n d_Wo_init_37 rfl ?_
    refine q_bipush (v := 6) d_Wo_init_38 (by decide) ?_
    refine q_icmp_ge (tgt := 62) d_Wo_init_40 (by decide) (fun b40 => ?_) (fun b40 => ?_)
    · exact absurd b40 (nI_ge (show q < 6 by omega) (by decide))
    refine q_aload_n d_Wo_init_43 rfl rfl ?_
    refine q_get d_Wo_init_44 f_Wo_20 h_o rfl ?_
    refine q_iload_n d_Wo_init_47 rfl ?_
    refine x_new (L := 7 + 5 * q) (fs := [.int 0, .int 0, .null, .null, .null, .null]) d_Wo_init_48 n_Wo_18 rfl (show 3 + 5 * q + 1 ≤ 33 by omega) (show 16 + 58 * q + 6 ≤ 364 by omega) hL (fun hp1 e1 => ?_)
    have h_c := q_apl e1 hL
    have h_o := q_app e1 h_o
    have h_n0 := q_app e1 h_n0
    have h_n1 := q_app e1 h_n1
    have h_n2 := q_app e1 h_n2
    have hC := fun i hi => (hC i hi).app e1
    have hF := K_n.app hF e1
    have hL := q_len e1 hL
    refine q_dup d_Wo_init_51 rfl ?_
    refine x_callIr d_Wo_init_52 l_Wo_30 rfl rfl i_Co_init (c_Co_init hG h_c hL) rfl rfl (Nat.le_of_ble_eq_true rfl) (Nat.le_of_ble_eq_true rfl) (show 3 + 5 * q + 1 + 4 ≤ 33 by omega) (show 16 + 58 * q + 6 + 52 ≤ 364 by omega) (fun hp2 hz => ?_)
    obtain ⟨hK, hL, h_c, m0, m1, m2, m3⟩ := hz
    have h_o := (hK.2.2 _ (by omega) (by omega)).trans h_o
    have h_n0 := (hK.2.2 _ (by omega) (by omega)).trans h_n0
    have h_n1 := (hK.2.2 _ (by omega) (by omega)).trans h_n1
    have h_n2 := (hK.2.2 _ (by omega) (by omega)).trans h_n2
    have hC := fun i hi => (hC i hi).kn hK (show 7 + 5 * i + 4 < 7 + 5 * q by omega) (by omega)
    have hF := K_n.sub hF hK (by omega) (by omega)
    refine x_aast d_Wo_init_55 h_n2 rfl h_c rfl hin (fun hp3 e3 h_n2 => ?_)
    rw [hcl, cr_g_s] at h_n2
    have h_o := q_keep e3 h_o (by omega)
    have h_n0 := q_keep e3 h_n0 (by omega)
    have h_n1 := q_keep e3 h_n1 (by omega)
    have hC2 : c_A (7 + 5 * q) c_00 hp3 := ⟨q_keep e3 h_c (by omega), q_keep e3 m0 (by omega), q_keep e3 m1 (by omega), q_keep e3 m2 (by omega), q_keep e3 m3 (by omega)⟩
    have hC := fun i hi => (hC i hi).st e3 (by omega)
    have hF := K_n.set hF e3 (by omega)
    have hL := q_lns e3 hL
    refine q_iinc d_Wo_init_56 rfl (show _ + Int32.ofInt 1 = _ + 1 from rfl) (by decide) rfl ?_
    refine q_goto (tgt := 37) d_Wo_init_59 (by decide) ?_
    rw [nI_1]
    refine q_more (show 3 + 5 * q + 1 + 4 ≤ 3 + 5 * (q + 1) by omega) (show 16 + 58 * q + 6 + 52 ≤ 16 + 58 * (q + 1) by omega) (ih (q + 1) (by omega) hp3 ⟨by omega, hF, h_o, h_n0, h_n1, h_n2, fun i hi => ?_⟩)
    by_cases h : i = q
    · subst h
      exact hC2
    · exact hC i (by omega)
set_option maxRecDepth 10000 in
set_option maxHeartbeats 2000000 in
theorem k_Wo_init (hG : q_GG g) {hp : List va_E} (h_o : hp[3]? = some (.inr (2, [.null, .null, .int 0, .null, .int 0]))) (hL : hp.length = 4) : q_C g m_Wo_init true (q_R 2 60 33 364) [.ref 3] hp (q_ho none (fun h => W_I hp 6 h)) := by
  refine q_C.of hG (by decide) (Nat.le_of_ble_eq_true rfl) ?_
  have hF : K_n 3 4 hp hp := K_n.rfl hL
  refine q_aload_n d_Wo_init_0 rfl rfl ?_
  refine q_objInit d_Wo_init_1 lo_Wo_3 oi_1 oi_2 (Nat.le_of_ble_eq_true rfl) (Nat.le_of_ble_eq_true rfl) ?_
  refine q_aload_n d_Wo_init_4 rfl rfl ?_
  refine q_iconst (v := 5) d_Wo_init_5 (by decide) ?_
  refine x_newa_i (L := 4) d_Wo_init_6 a_i (by decide) (N := 5) rfl (by decide) (Nat.le_of_ble_eq_true rfl) (Nat.le_of_ble_eq_true rfl) hL (fun hp1 e1 => ?_)
  have h_n0 := q_apl e1 hL
  have h_o := q_app e1 h_o
  have hF := K_n.app hF e1
  have hL := q_len e1 hL
  refine x_putF d_Wo_init_8 f_Wo_9 rfl (fun q h => by cases h; rfl) h_o (Nat.le_of_ble_eq_true rfl) rfl rfl (fun hp2 e2 h_o => ?_)
  have h_n0 := q_keep e2 h_n0 (by omega)
  have hF := K_n.set hF e2 (by omega)
  have hL := q_lns e2 hL
  refine q_aload_n d_Wo_init_11 rfl rfl ?_
  refine q_iconst (v := 5) d_Wo_init_12 (by decide) ?_
  refine x_newa_i (L := 5) d_Wo_init_13 a_i (by decide) (N := 5) rfl (by decide) (Nat.le_of_ble_eq_true rfl) (Nat.le_of_ble_eq_true rfl) hL (fun hp3 e3 => ?_)
  have h_n1 := q_apl e3 hL
  have h_o := q_app e3 h_o
  have h_n0 := q_app e3 h_n0
  have hF := K_n.app hF e3
  have hL := q_len e3 hL
  refine x_putF d_Wo_init_15 f_Wo_15 rfl (fun q h => by cases h; rfl) h_o (Nat.le_of_ble_eq_true rfl) rfl rfl (fun hp4 e4 h_o => ?_)
  have h_n0 := q_keep e4 h_n0 (by omega)
  have h_n1 := q_keep e4 h_n1 (by omega)
  have hF := K_n.set hF e4 (by omega)
  have hL := q_lns e4 hL
  refine q_aload_n d_Wo_init_18 rfl rfl ?_
  refine q_bipush (v := 6) d_Wo_init_19 (by decide) ?_
  refine x_newq (L := 6) (t := 4) d_Wo_init_21 rfl k_Wo_18 a_Co (by decide) (N := 6) rfl (by decide) (Nat.le_of_ble_eq_true rfl) (Nat.le_of_ble_eq_true rfl) hL (fun hp5 e5 => ?_)
  have h_n2 := q_apl e5 hL
  have h_o := q_app e5 h_o
  have h_n0 := q_app e5 h_n0
  have h_n1 := q_app e5 h_n1
  have hF := K_n.app hF e5
  have hL := q_len e5 hL
  refine x_putF d_Wo_init_24 f_Wo_20 rfl (fun q h => by cases h; rfl) h_o (Nat.le_of_ble_eq_true rfl) rfl rfl (fun hp6 e6 h_o => ?_)
  have h_n0 := q_keep e6 h_n0 (by omega)
  have h_n1 := q_keep e6 h_n1 (by omega)
  have h_n2 := q_keep e6 h_n2 (by omega)
  have hF := K_n.set hF e6 (by omega)
  have hL := q_lns e6 hL
  refine q_aload_n d_Wo_init_27 rfl rfl ?_
  refine q_get d_Wo_init_28 f_Wo_9 h_o rfl ?_
  refine q_iconst (v := 1) d_Wo_init_31 (by decide) ?_
  refine x_callSe d_Wo_init_32 l_Wo_24 s_Ar_fillI (c_Ar_fillI hG h_n0 (by decide)) rfl rfl (Nat.le_of_ble_eq_true rfl) (Nat.le_of_ble_eq_true rfl) (Nat.le_of_ble_eq_true rfl) (Nat.le_of_ble_eq_true rfl) (fun hp8 e8 => ?_)
  have h_n0 := e8 ▸ q_self h_n0
  have h_o := q_keep e8 h_o (by omega)
  have h_n1 := q_keep e8 h_n1 (by omega)
  have h_n2 := q_keep e8 h_n2 (by omega)
  have hF := K_n.set hF e8 (by omega)
  have hL := q_lns e8 hL
  refine q_iconst (v := 0) d_Wo_init_35 (by decide) ?_
  refine q_istore_n d_Wo_init_36 rfl (by decide) rfl ?_
  exact l_Wo_init hG 6 0 (by omega) _ ⟨hL, hF, h_o, h_n0, h_n1, h_n2, fun i hi => absurd hi (Nat.not_lt_zero i)⟩
theorem W_I.A {hp0 hp : List va_E} (h : W_I hp0 6 hp) : w_A w_00 hp := by
  obtain ⟨hL, hF, h_o, h4, h5, h6, hC⟩ := h
  refine ⟨h_o, ?_, h5, h6, hC⟩
  rw [h4]
  have e : (fun j => if j < 5 then (1 : Int32) else 0) = fun j => nI (w_z w_00 j) := by
    funext j
    show _ = nI (if j < 5 then 1 else 0)
    split <;> rfl
  rw [e]
def ch_g (q : Nat) : Nat → Option Nat := fun j => if j < q then some (41 + 2 * j) else none
def rw_g (q : Nat) : Nat → Option Nat := fun j => if j < q then some (42 + 2 * j) else none
theorem ch_g_s (q : Nat) : va_up (ch_g q) q (some (41 + 2 * q)) = ch_g (q + 1) := by
  funext j
  unfold va_up ch_g
  by_cases h : j = q
  · subst h
    rw [if_pos rfl, if_pos (Nat.lt_succ_self _)]
  · rw [if_neg h]
    by_cases k : j < q
    · rw [if_pos k, if_pos (by omega)]
    · rw [if_neg k, if_neg (by omega)]
theorem rw_g_s (q : Nat) : va_up (rw_g q) q (some (42 + 2 * q)) = rw_g (q + 1) := by
  funext j
  unfold va_up rw_g
  by_cases h : j = q
  · subst h
    rw [if_pos rfl, if_pos (Nat.lt_succ_self _)]
  · rw [if_neg h]
    by_cases k : j < q
    · rw [if_pos k, if_pos (by omega)]
    · rw [if_neg k, if_neg (by omega)]
def Re_I (hp0 : List va_E) (q : Nat) (hp : List va_E) : Prop := hp.length = 41 + 2 * q ∧ K_n 37 38 hp0 hp ∧ hp[37]? = some (o_Re 0 0 0 (-1)) ∧ hp[38]? = some (.inl (5, 13, .inr (.inr (.inr (.inr (ch_g q)))))) ∧ hp[39]? = some (.inl (5, 13, .inr (.inr (.inr (.inr (rw_g q)))))) ∧ hp[40]? = some (o_Pn (0, 0, 0)) ∧ (∀ i, i < q → hp[41 + 2 * i]? = some (o_Pn (0, 0, 0))) ∧ ∀ i, i < q → hp[42 + 2 * i]? = some (o_Pn (0, 0, 0))
set_option maxRecDepth 10000 in
set_option maxHeartbeats 2000000 in
theorem l_Re_init (hG : q_GG g) {hp0 : List va_E} : ∀ (k q : Nat), q + k = 13 → ∀ hp, Re_I hp0 q hp → q_J g m_Re_init true (q_R 2 60 29 107) (q_ho none (fun h => Re_I hp0 13 h)) 50 [some (.ref 37), some (.ref 1), some (.ref 3), some (.int (nI q))] [] hp (3 + 2 * q) (29 + 6 * q) true := by
  intro k
  induction k with
  | zero =>
    intro q hq hp hW
    obtain rfl : q = 13 := by omega
    refine q_iload_n d_Re_init_50 rfl ?_
    refine q_bipush (v := 12) d_Re_init_51 (by decide) ?_
    refine q_icmp_gt (tgt := 88) d_Re_init_53 (by decide) (fun b53 => ?_) (fun b53 => ?_)
    · refine q_vret d_Re_init_88 rfl ?_ (Nat.le_of_ble_eq_true rfl) (Nat.le_of_ble_eq_true rfl) (by decide)
      exact ⟨_, rfl, rfl, hW⟩
    · exact absurd (show (12 : Int32) < nI 13 by decide) b53
  | succ k ih =>
    intro q hq hp hW
    obtain ⟨hL, hF, h_o, h_ch, h_rw, h_ac, hC, hR⟩ := hW
    have hin : vp_in (nI q) 13 := vp_in_nI (by omega) (by decide)
    have hcl : (nI q).toNatClampNeg = q := nI_clamp (by omega)
    refine q_iload_n d_Re_init_50 rfl ?_
    refine q_bipush (v := 12) d_Re_init_51 (by decide) ?_
    refine q_icmp_gt (tgt := 88) d_Re_init_53 (by decide) (fun b53 => ?_) (fun b53 => ?_)
    · exact absurd b53 (nI_nlt (show q ≤ 12 by omega) (by decide))
    refine q_aload_n d_Re_init_56 rfl rfl ?_
    refine q_get d_Re_init_57 f_Re_11 h_o rfl ?_
    refine q_iload_n d_Re_init_60 rfl ?_
    refine x_new (L := 41 + 2 * q) (fs := [.int 0, .int 0, .int 0]) d_Re_init_61 n_Re_9 rfl (show 3 + 2 * q + 1 ≤ 29 by omega) (show 29 + 6 * q + 3 ≤ 107 by omega) (by omega) (fun hp1 e1 => ?_)
    have h_p := q_apl e1 (show _ = 41 + 2 * q by omega)
    have h_o := q_app e1 h_o
    have h_ch := q_app e1 h_ch
    have h_rw := q_app e1 h_rw
    have h_ac := q_app e1 h_ac
    have hC := fun i hi => q_app e1 (hC i hi)
    have hR := fun i hi => q_app e1 (hR i hi)
    skip
    have hF := K_n.app hF e1
    have hL := q_len e1 hL
    refine q_dup d_Re_init_64 rfl ?_
    refine x_callI d_Re_init_65 l_Re_20 rfl rfl i_Pa_init (c_Pa_init hG) rfl rfl (Nat.le_of_ble_eq_true rfl) (Nat.le_of_ble_eq_true rfl) (show 3 + 2 * q + 1 + 0 ≤ 29 by omega) (show 29 + 6 * q + 3 + 0 ≤ 107 by omega) ?_
    refine x_aast d_Re_init_68 h_ch rfl h_p rfl hin (fun hp2 e2 h_ch => ?_)
    rw [hcl, ch_g_s] at h_ch
    have h_o := q_keep e2 h_o (by omega)
    have h_rw := q_keep e2 h_rw (by omega)
    have h_ac := q_keep e2 h_ac (by omega)
    have hC := fun i hi => q_keep e2 (hC i hi) (by omega)
    have hR := fun i hi => q_keep e2 (hR i hi) (by omega)
    have h_x := q_keep e2 h_p (by omega)
    skip
    have hF := K_n.set hF e2 (by omega)
    have hL := q_lns e2 hL
    refine q_aload_n d_Re_init_69 rfl rfl ?_
    refine q_get d_Re_init_70 f_Re_17 h_o rfl ?_
    refine q_iload_n d_Re_init_73 rfl ?_
    refine x_new (L := 42 + 2 * q) (fs := [.int 0, .int 0, .int 0]) d_Re_init_74 n_Re_9 rfl (show 3 + 2 * q + 1 + 0 + 1 ≤ 29 by omega) (show 29 + 6 * q + 3 + 0 + 3 ≤ 107 by omega) (by omega) (fun hp4 e4 => ?_)
    have h_p := q_apl e4 (show _ = 42 + 2 * q by omega)
    have h_o := q_app e4 h_o
    have h_ch := q_app e4 h_ch
    have h_rw := q_app e4 h_rw
    have h_ac := q_app e4 h_ac
    have hC := fun i hi => q_app e4 (hC i hi)
    have hR := fun i hi => q_app e4 (hR i hi)
    have h_x := q_app e4 h_x
    have hF := K_n.app hF e4
    have hL := q_len e4 hL
    refine q_dup d_Re_init_77 rfl ?_
    refine x_callI d_Re_init_78 l_Re_20 rfl rfl i_Pa_init (c_Pa_init hG) rfl rfl (Nat.le_of_ble_eq_true rfl) (Nat.le_of_ble_eq_true rfl) (show 3 + 2 * q + 1 + 0 + 1 + 0 ≤ 29 by omega) (show 29 + 6 * q + 3 + 0 + 3 + 0 ≤ 107 by omega) ?_
    refine x_aast d_Re_init_81 h_rw rfl h_p rfl hin (fun hp5 e5 h_rw => ?_)
    rw [hcl, rw_g_s] at h_rw
    have h_o := q_keep e5 h_o (by omega)
    have h_ch := q_keep e5 h_ch (by omega)
    have h_ac := q_keep e5 h_ac (by omega)
    have hC := fun i hi => q_keep e5 (hC i hi) (by omega)
    have hR := fun i hi => q_keep e5 (hR i hi) (by omega)
    have h_x := q_keep e5 h_x (by omega)
    have h_y := q_keep e5 h_p (by omega)
    have hF := K_n.set hF e5 (by omega)
    have hL := q_lns e5 hL
    refine q_iinc d_Re_init_82 rfl (show _ + Int32.ofInt 1 = _ + 1 from rfl) (by decide) rfl ?_
    refine q_goto (tgt := 50) d_Re_init_85 (by decide) ?_
    rw [nI_1]
    refine q_more (show 3 + 2 * q + 1 + 0 + 1 + 0 ≤ 3 + 2 * (q + 1) by omega) (show 29 + 6 * q + 3 + 0 + 3 + 0 ≤ 29 + 6 * (q + 1) by omega) (ih (q + 1) (by omega) hp5 ⟨by omega, hF, h_o, h_ch, h_rw, h_ac, fun i hi => ?_, fun i hi => ?_⟩)
    · by_cases h : i = q
      · subst h
        exact h_x
      · exact hC i (by omega)
    · by_cases h : i = q
      · subst h
        exact h_y
      · exact hR i (by omega)
set_option maxRecDepth 10000 in
set_option maxHeartbeats 2000000 in
theorem k_Re_init (hG : q_GG g) {hp : List va_E} (h_o : hp[37]? = some (.inr (4, [.null, .null, .null, .null, .null, .int 0, .int 0, .int 0, .int 0]))) (hL : hp.length = 38) : q_C g m_Re_init true (q_R 2 60 29 107) [.ref 37, .ref 1, .ref 3] hp (q_ho none (fun h => Re_I hp 13 h)) := by
  refine q_C.of hG (by decide) (Nat.le_of_ble_eq_true rfl) ?_
  have hF : K_n 37 38 hp hp := K_n.rfl hL
  refine q_aload_n d_Re_init_0 rfl rfl ?_
  refine q_objInit d_Re_init_1 lo_Re_3 oi_1 oi_2 (Nat.le_of_ble_eq_true rfl) (Nat.le_of_ble_eq_true rfl) ?_
  refine q_aload_n d_Re_init_4 rfl rfl ?_
  refine q_bipush (v := 13) d_Re_init_5 (by decide) ?_
  refine x_newq (L := 38) (t := 5) d_Re_init_7 rfl k_Re_9 a_Pa (by decide) (N := 13) rfl (by decide) (Nat.le_of_ble_eq_true rfl) (Nat.le_of_ble_eq_true rfl) hL (fun hp1 e1 => ?_)
  have h_n0 := q_apl e1 hL
  have h_o := q_app e1 h_o
  have hF := K_n.app hF e1
  have hL := q_len e1 hL
  refine x_putF d_Re_init_10 f_Re_11 rfl (fun q h => by cases h; rfl) h_o (Nat.le_of_ble_eq_true rfl) rfl rfl (fun hp2 e2 h_o => ?_)
  have h_n0 := q_keep e2 h_n0 (by omega)
  have hF := K_n.set hF e2 (by omega)
  have hL := q_lns e2 hL
  refine q_aload_n d_Re_init_13 rfl rfl ?_
  refine q_bipush (v := 13) d_Re_init_14 (by decide) ?_
  refine x_newq (L := 39) (t := 5) d_Re_init_16 rfl k_Re_9 a_Pa (by decide) (N := 13) rfl (by decide) (Nat.le_of_ble_eq_true rfl) (Nat.le_of_ble_eq_true rfl) hL (fun hp3 e3 => ?_)
  have h_n1 := q_apl e3 hL
  have h_o := q_app e3 h_o
  have h_n0 := q_app e3 h_n0
  have hF := K_n.app hF e3
  have hL := q_len e3 hL
  refine x_putF d_Re_init_19 f_Re_17 rfl (fun q h => by cases h; rfl) h_o (Nat.le_of_ble_eq_true rfl) rfl rfl (fun hp4 e4 h_o => ?_)
  have h_n0 := q_keep e4 h_n0 (by omega)
  have h_n1 := q_keep e4 h_n1 (by omega)
  have hF := K_n.set hF e4 (by omega)
  have hL := q_lns e4 hL
  refine q_aload_n d_Re_init_22 rfl rfl ?_
  refine x_new (L := 40) (fs := [.int 0, .int 0, .int 0]) d_Re_init_23 n_Re_9 rfl (Nat.le_of_ble_eq_true rfl) (Nat.le_of_ble_eq_true rfl) hL (fun hp5 e5 => ?_)
  have h_n2 := q_apl e5 hL
  have h_o := q_app e5 h_o
  have h_n0 := q_app e5 h_n0
  have h_n1 := q_app e5 h_n1
  have hF := K_n.app hF e5
  have hL := q_len e5 hL
  refine q_dup d_Re_init_26 rfl ?_
  refine x_callI d_Re_init_27 l_Re_20 rfl rfl i_Pa_init (c_Pa_init hG) rfl rfl (Nat.le_of_ble_eq_true rfl) (Nat.le_of_ble_eq_true rfl) (Nat.le_of_ble_eq_true rfl) (Nat.le_of_ble_eq_true rfl) ?_
  refine x_putF d_Re_init_30 f_Re_21 rfl (fun q h => by cases h; rfl) h_o (Nat.le_of_ble_eq_true rfl) rfl rfl (fun hp6 e6 h_o => ?_)
  have h_n0 := q_keep e6 h_n0 (by omega)
  have h_n1 := q_keep e6 h_n1 (by omega)
  have h_n2 := q_keep e6 h_n2 (by omega)
  have hF := K_n.set hF e6 (by omega)
  have hL := q_lns e6 hL
  refine q_aload_n d_Re_init_33 rfl rfl ?_
  refine q_iconst (v := (-1)) d_Re_init_34 (by decide) ?_
  refine x_put d_Re_init_35 f_Re_25 h_o (Nat.le_of_ble_eq_true rfl) rfl rfl (fun hp7 e7 h_o => ?_)
  have h_n0 := q_keep e7 h_n0 (by omega)
  have h_n1 := q_keep e7 h_n1 (by omega)
  have h_n2 := q_keep e7 h_n2 (by omega)
  have hF := K_n.set hF e7 (by omega)
  have hL := q_lns e7 hL
  refine q_aload_n d_Re_init_38 rfl rfl ?_
  refine q_aload_n d_Re_init_39 rfl rfl ?_
  refine x_putF d_Re_init_40 f_Re_29 rfl (fun q h => by cases h; rfl) h_o (Nat.le_of_ble_eq_true rfl) rfl rfl (fun hp8 e8 h_o => ?_)
  have h_n0 := q_keep e8 h_n0 (by omega)
  have h_n1 := q_keep e8 h_n1 (by omega)
  have h_n2 := q_keep e8 h_n2 (by omega)
  have hF := K_n.set hF e8 (by omega)
  have hL := q_lns e8 hL
  refine q_aload_n d_Re_init_43 rfl rfl ?_
  refine q_aload_n d_Re_init_44 rfl rfl ?_
  refine x_putF d_Re_init_45 f_Re_33 rfl (fun q h => by cases h; rfl) h_o (Nat.le_of_ble_eq_true rfl) rfl rfl (fun hp9 e9 h_o => ?_)
  have h_n0 := q_keep e9 h_n0 (by omega)
  have h_n1 := q_keep e9 h_n1 (by omega)
  have h_n2 := q_keep e9 h_n2 (by omega)
  have hF := K_n.set hF e9 (by omega)
  have hL := q_lns e9 hL
  refine q_iconst (v := 0) d_Re_init_48 (by decide) ?_
  refine q_istore_n d_Re_init_49 rfl (by decide) rfl ?_
  exact l_Re_init hG 13 0 (by omega) _ ⟨hL, hF, h_o, h_n0, h_n1, h_n2, fun i hi => absurd hi (Nat.not_lt_zero i), fun i hi => absurd hi (Nat.not_lt_zero i)⟩
def x_00 : x_S := (0, 0, 0, -1, fun _ => (0, 0, 0), fun _ => (0, 0, 0), (0, 0, 0), c_00)
theorem Re_I.A {hp0 hp : List va_E} (h : Re_I hp0 13 hp) : y_A x_00 hp := by
  obtain ⟨hL, hF, h_o, h_ch, h_rw, h_ac, hC, hR⟩ := h
  exact ⟨h_o, h_ch, h_rw, h_ac, hC, hR⟩
end C42
