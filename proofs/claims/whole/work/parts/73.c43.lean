/-! constructors, 3 -/
section C43
variable {g : q_G}
def B_00 : z_S := (fun _ => false, fun _ => false, fun _ => false, fun _ => false, fun _ => 0, fun _ => 0, 0, 0, 0, 0)
theorem ss_00 {a : Nat} {hp : List va_E} (h1 : hp[a]? = some (.inr (7, [.ref (a + 1), .int 469]))) (h2 : hp[a + 1]? = some (a_J 469 (fun _ => 0))) : ss_A a (fun _ => false) hp :=
  ⟨469, fun _ => 0, h1, h2, fun _ => Nat.two_pow_pos 64, Nat.le_refl _, fun _ _ => rfl, fun m _ => Nat.zero_testBit _⟩
set_option maxRecDepth 10000 in
set_option maxHeartbeats 2000000 in
theorem k_Se_init (hG : q_GG g) {hp : List va_E} (h_o : hp[67]? = some (.inr (6, [.null, .null, .null, .null, .null, .null, .null, .null, .int 0, .int 0, .int 0, .int 0]))) (hL : hp.length = 68) : q_C g m_Se_init true (q_R 2 60 13 1930) [.ref 67, .ref 3] hp (q_ho none (fun h => K_n 67 68 hp h ∧ h.length = 81 ∧ z_A B_00 h)) := by
  refine q_C.of hG (by decide) (Nat.le_of_ble_eq_true rfl) ?_
  have hF : K_n 67 68 hp hp := K_n.rfl hL
  refine q_aload_n d_Se_init_0 rfl rfl ?_
  refine q_objInit d_Se_init_1 lo_Se_3 oi_1 oi_2 (Nat.le_of_ble_eq_true rfl) (Nat.le_of_ble_eq_true rfl) ?_
  refine q_aload_n d_Se_init_4 rfl rfl ?_
  refine x_new (L := 68) (fs := [.null, .int 0]) d_Se_init_5 n_Se_9 rfl (Nat.le_of_ble_eq_true rfl) (Nat.le_of_ble_eq_true rfl) hL (fun hp1 e1 => ?_)
  have h_n0 := q_apl e1 hL
  have h_o := q_app e1 h_o
  have hF := K_n.app hF e1
  have hL := q_len e1 hL
  refine q_dup d_Se_init_8 rfl ?_
  refine x_callIr d_Se_init_9 l_Se_11 rfl rfl i_Ss_init (c_Ss_init hG h_n0 hL) rfl rfl (Nat.le_of_ble_eq_true rfl) (Nat.le_of_ble_eq_true rfl) (Nat.le_of_ble_eq_true rfl) (Nat.le_of_ble_eq_true rfl) (fun hp2 hz => ?_)
  obtain ⟨hK, hL, h_n0, h_n1⟩ := hz
  have h_o := (hK.2.2 _ (by omega) (by omega)).trans h_o
  have hF := K_n.sub hF hK (by omega) (by omega)
  refine x_putF d_Se_init_12 f_Se_12 rfl (fun q h => by cases h; rfl) h_o (Nat.le_of_ble_eq_true rfl) rfl rfl (fun hp3 e3 h_o => ?_)
  have h_n0 := q_keep e3 h_n0 (by omega)
  have h_n1 := q_keep e3 h_n1 (by omega)
  have hF := K_n.set hF e3 (by omega)
  have hL := q_lns e3 hL
  refine q_aload_n d_Se_init_15 rfl rfl ?_
  refine x_new (L := 70) (fs := [.null, .int 0]) d_Se_init_16 n_Se_9 rfl (Nat.le_of_ble_eq_true rfl) (Nat.le_of_ble_eq_true rfl) hL (fun hp4 e4 => ?_)
  have h_n2 := q_apl e4 hL
  have h_o := q_app e4 h_o
  have h_n0 := q_app e4 h_n0
  have h_n1 := q_app e4 h_n1
  have hF := K_n.app hF e4
  have hL := q_len e4 hL
  refine q_dup d_Se_init_19 rfl ?_
  refine x_callIr d_Se_init_20 l_Se_11 rfl rfl i_Ss_init (c_Ss_init hG h_n2 hL) rfl rfl (Nat.le_of_ble_eq_true rfl) (Nat.le_of_ble_eq_true rfl) (Nat.le_of_ble_eq_true rfl) (Nat.le_of_ble_eq_true rfl) (fun hp5 hz => ?_)
  obtain ⟨hK, hL, h_n2, h_n3⟩ := hz
  have h_o := (hK.2.2 _ (by omega) (by omega)).trans h_o
  have h_n0 := (hK.2.2 _ (by omega) (by omega)).trans h_n0
  have h_n1 := (hK.2.2 _ (by omega) (by omega)).trans h_n1
  have hF := K_n.sub hF hK (by omega) (by omega)
  refine x_putF d_Se_init_23 f_Se_18 rfl (fun q h => by cases h; rfl) h_o (Nat.le_of_ble_eq_true rfl) rfl rfl (fun hp6 e6 h_o => ?_)
  have h_n0 := q_keep e6 h_n0 (by omega)
  have h_n1 := q_keep e6 h_n1 (by omega)
  have h_n2 := q_keep e6 h_n2 (by omega)
  have h_n3 := q_keep e6 h_n3 (by omega)
  have hF := K_n.set hF e6 (by omega)
  have hL := q_lns e6 hL
  refine q_aload_n d_Se_init_26 rfl rfl ?_
  refine x_new (L := 72) (fs := [.null, .int 0]) d_Se_init_27 n_Se_9 rfl (Nat.le_of_ble_eq_true rfl) (Nat.le_of_ble_eq_true rfl) hL (fun hp7 e7 => ?_)
  have h_n4 := q_apl e7 hL
  have h_o := q_app e7 h_o
  have h_n0 := q_app e7 h_n0
  have h_n1 := q_app e7 h_n1
  have h_n2 := q_app e7 h_n2
  have h_n3 := q_app e7 h_n3
  have hF := K_n.app hF e7
  have hL := q_len e7 hL
  refine q_dup d_Se_init_30 rfl ?_
  refine x_callIr d_Se_init_31 l_Se_11 rfl rfl i_Ss_init (c_Ss_init hG h_n4 hL) rfl rfl (Nat.le_of_ble_eq_true rfl) (Nat.le_of_ble_eq_true rfl) (Nat.le_of_ble_eq_true rfl) (Nat.le_of_ble_eq_true rfl) (fun hp8 hz => ?_)
  obtain ⟨hK, hL, h_n4, h_n5⟩ := hz
  have h_o := (hK.2.2 _ (by omega) (by omega)).trans h_o
  have h_n0 := (hK.2.2 _ (by omega) (by omega)).trans h_n0
  have h_n1 := (hK.2.2 _ (by omega) (by omega)).trans h_n1
  have h_n2 := (hK.2.2 _ (by omega) (by omega)).trans h_n2
  have h_n3 := (hK.2.2 _ (by omega) (by omega)).trans h_n3
  have hF := K_n.sub hF hK (by omega) (by omega)
  refine x_putF d_Se_init_34 f_Se_21 rfl (fun q h => by cases h; rfl) h_o (Nat.le_of_ble_eq_true rfl) rfl rfl (fun hp9 e9 h_o => ?_)
  have h_n0 := q_keep e9 h_n0 (by omega)
  have h_n1 := q_keep e9 h_n1 (by omega)
  have h_n2 := q_keep e9 h_n2 (by omega)
  have h_n3 := q_keep e9 h_n3 (by omega)
  have h_n4 := q_keep e9 h_n4 (by omega)
  have h_n5 := q_keep e9 h_n5 (by omega)
  have hF := K_n.set hF e9 (by omega)
  have hL := q_lns e9 hL
  refine q_aload_n d_Se_init_37 rfl rfl ?_
  refine x_new (L := 74) (fs := [.null, .int 0]) d_Se_init_38 n_Se_9 rfl (Nat.le_of_ble_eq_true rfl) (Nat.le_of_ble_eq_true rfl) hL (fun hp10 e10 => ?_)
  have h_n6 := q_apl e10 hL
  have h_o := q_app e10 h_o
  have h_n0 := q_app e10 h_n0
  have h_n1 := q_app e10 h_n1
  have h_n2 := q_app e10 h_n2
  have h_n3 := q_app e10 h_n3
  have h_n4 := q_app e10 h_n4
  have h_n5 := q_app e10 h_n5
  have hF := K_n.app hF e10
  have hL := q_len e10 hL
  refine q_dup d_Se_init_41 rfl ?_
  refine x_callIr d_Se_init_42 l_Se_11 rfl rfl i_Ss_init (c_Ss_init hG h_n6 hL) rfl rfl (Nat.le_of_ble_eq_true rfl) (Nat.le_of_ble_eq_true rfl) (Nat.le_of_ble_eq_true rfl) (Nat.le_of_ble_eq_true rfl) (fun hp11 hz => ?_)
  obtain ⟨hK, hL, h_n6, h_n7⟩ := hz
  have h_o := (hK.2.2 _ (by omega) (by omega)).trans h_o
  have h_n0 := (hK.2.2 _ (by omega) (by omega)).trans h_n0
  have h_n1 := (hK.2.2 _ (by omega) (by omega)).trans h_n1
  have h_n2 := (hK.2.2 _ (by omega) (by omega)).trans h_n2
  have h_n3 := (hK.2.2 _ (by omega) (by omega)).trans h_n3
  have h_n4 := (hK.2.2 _ (by omega) (by omega)).trans h_n4
  have h_n5 := (hK.2.2 _ (by omega) (by omega)).trans h_n5
  have hF := K_n.sub hF hK (by omega) (by omega)
  refine x_putF d_Se_init_45 f_Se_24 rfl (fun q h => by cases h; rfl) h_o (Nat.le_of_ble_eq_true rfl) rfl rfl (fun hp12 e12 h_o => ?_)
  have h_n0 := q_keep e12 h_n0 (by omega)
  have h_n1 := q_keep e12 h_n1 (by omega)
  have h_n2 := q_keep e12 h_n2 (by omega)
  have h_n3 := q_keep e12 h_n3 (by omega)
  have h_n4 := q_keep e12 h_n4 (by omega)
  have h_n5 := q_keep e12 h_n5 (by omega)
  have h_n6 := q_keep e12 h_n6 (by omega)
  have h_n7 := q_keep e12 h_n7 (by omega)
  have hF := K_n.set hF e12 (by omega)
  have hL := q_lns e12 hL
  refine q_aload_n d_Se_init_48 rfl rfl ?_
  refine x_new (L := 76) (fs := [.null, .null]) d_Se_init_49 n_Se_27 rfl (Nat.le_of_ble_eq_true rfl) (Nat.le_of_ble_eq_true rfl) hL (fun hp13 e13 => ?_)
  have h_n8 := q_apl e13 hL
  have h_o := q_app e13 h_o
  have h_n0 := q_app e13 h_n0
  have h_n1 := q_app e13 h_n1
  have h_n2 := q_app e13 h_n2
  have h_n3 := q_app e13 h_n3
  have h_n4 := q_app e13 h_n4
  have h_n5 := q_app e13 h_n5
  have h_n6 := q_app e13 h_n6
  have h_n7 := q_app e13 h_n7
  have hF := K_n.app hF e13
  have hL := q_len e13 hL
  refine q_dup d_Se_init_52 rfl ?_
  refine x_callIr d_Se_init_53 l_Se_29 rfl rfl i_St_init (c_St_init hG h_n8 hL) rfl rfl (Nat.le_of_ble_eq_true rfl) (Nat.le_of_ble_eq_true rfl) (Nat.le_of_ble_eq_true rfl) (Nat.le_of_ble_eq_true rfl) (fun hp14 hz => ?_)
  obtain ⟨hK, hL, h_n8, h_n9, h_n10⟩ := hz
  have h_o := (hK.2.2 _ (by omega) (by omega)).trans h_o
  have h_n0 := (hK.2.2 _ (by omega) (by omega)).trans h_n0
  have h_n1 := (hK.2.2 _ (by omega) (by omega)).trans h_n1
  have h_n2 := (hK.2.2 _ (by omega) (by omega)).trans h_n2
  have h_n3 := (hK.2.2 _ (by omega) (by omega)).trans h_n3
  have h_n4 := (hK.2.2 _ (by omega) (by omega)).trans h_n4
  have h_n5 := (hK.2.2 _ (by omega) (by omega)).trans h_n5
  have h_n6 := (hK.2.2 _ (by omega) (by omega)).trans h_n6
  have h_n7 := (hK.2.2 _ (by omega) (by omega)).trans h_n7
  have hF := K_n.sub hF hK (by omega) (by omega)
  refine x_putF d_Se_init_56 f_Se_30 rfl (fun q h => by cases h; rfl) h_o (Nat.le_of_ble_eq_true rfl) rfl rfl (fun hp15 e15 h_o => ?_)
  have h_n0 := q_keep e15 h_n0 (by omega)
  have h_n1 := q_keep e15 h_n1 (by omega)
  have h_n2 := q_keep e15 h_n2 (by omega)
  have h_n3 := q_keep e15 h_n3 (by omega)
  have h_n4 := q_keep e15 h_n4 (by omega)
  have h_n5 := q_keep e15 h_n5 (by omega)
  have h_n6 := q_keep e15 h_n6 (by omega)
  have h_n7 := q_keep e15 h_n7 (by omega)
  have h_n8 := q_keep e15 h_n8 (by omega)
  have h_n9 := q_keep e15 h_n9 (by omega)
  have h_n10 := q_keep e15 h_n10 (by omega)
  have hF := K_n.set hF e15 (by omega)
  have hL := q_lns e15 hL
  refine q_aload_n d_Se_init_59 rfl rfl ?_
  refine q_bipush (v := 6) d_Se_init_60 (by decide) ?_
  refine x_newa_i (L := 79) d_Se_init_62 a_i (by decide) (N := 6) rfl (by decide) (Nat.le_of_ble_eq_true rfl) (Nat.le_of_ble_eq_true rfl) hL (fun hp16 e16 => ?_)
  have h_n11 := q_apl e16 hL
  have h_o := q_app e16 h_o
  have h_n0 := q_app e16 h_n0
  have h_n1 := q_app e16 h_n1
  have h_n2 := q_app e16 h_n2
  have h_n3 := q_app e16 h_n3
  have h_n4 := q_app e16 h_n4
  have h_n5 := q_app e16 h_n5
  have h_n6 := q_app e16 h_n6
  have h_n7 := q_app e16 h_n7
  have h_n8 := q_app e16 h_n8
  have h_n9 := q_app e16 h_n9
  have h_n10 := q_app e16 h_n10
  have hF := K_n.app hF e16
  have hL := q_len e16 hL
  refine x_putF d_Se_init_64 f_Se_34 rfl (fun q h => by cases h; rfl) h_o (Nat.le_of_ble_eq_true rfl) rfl rfl (fun hp17 e17 h_o => ?_)
  have h_n0 := q_keep e17 h_n0 (by omega)
  have h_n1 := q_keep e17 h_n1 (by omega)
  have h_n2 := q_keep e17 h_n2 (by omega)
  have h_n3 := q_keep e17 h_n3 (by omega)
  have h_n4 := q_keep e17 h_n4 (by omega)
  have h_n5 := q_keep e17 h_n5 (by omega)
  have h_n6 := q_keep e17 h_n6 (by omega)
  have h_n7 := q_keep e17 h_n7 (by omega)
  have h_n8 := q_keep e17 h_n8 (by omega)
  have h_n9 := q_keep e17 h_n9 (by omega)
  have h_n10 := q_keep e17 h_n10 (by omega)
  have h_n11 := q_keep e17 h_n11 (by omega)
  have hF := K_n.set hF e17 (by omega)
  have hL := q_lns e17 hL
  refine q_aload_n d_Se_init_67 rfl rfl ?_
  refine q_iconst (v := 5) d_Se_init_68 (by decide) ?_
  refine x_newa_i (L := 80) d_Se_init_69 a_i (by decide) (N := 5) rfl (by decide) (Nat.le_of_ble_eq_true rfl) (Nat.le_of_ble_eq_true rfl) hL (fun hp18 e18 => ?_)
  have h_n12 := q_apl e18 hL
  have h_o := q_app e18 h_o
  have h_n0 := q_app e18 h_n0
  have h_n1 := q_app e18 h_n1
  have h_n2 := q_app e18 h_n2
  have h_n3 := q_app e18 h_n3
  have h_n4 := q_app e18 h_n4
  have h_n5 := q_app e18 h_n5
  have h_n6 := q_app e18 h_n6
  have h_n7 := q_app e18 h_n7
  have h_n8 := q_app e18 h_n8
  have h_n9 := q_app e18 h_n9
  have h_n10 := q_app e18 h_n10
  have h_n11 := q_app e18 h_n11
  have hF := K_n.app hF e18
  have hL := q_len e18 hL
  refine x_putF d_Se_init_71 f_Se_38 rfl (fun q h => by cases h; rfl) h_o (Nat.le_of_ble_eq_true rfl) rfl rfl (fun hp19 e19 h_o => ?_)
  have h_n0 := q_keep e19 h_n0 (by omega)
  have h_n1 := q_keep e19 h_n1 (by omega)
  have h_n2 := q_keep e19 h_n2 (by omega)
  have h_n3 := q_keep e19 h_n3 (by omega)
  have h_n4 := q_keep e19 h_n4 (by omega)
  have h_n5 := q_keep e19 h_n5 (by omega)
  have h_n6 := q_keep e19 h_n6 (by omega)
  have h_n7 := q_keep e19 h_n7 (by omega)
  have h_n8 := q_keep e19 h_n8 (by omega)
  have h_n9 := q_keep e19 h_n9 (by omega)
  have h_n10 := q_keep e19 h_n10 (by omega)
  have h_n11 := q_keep e19 h_n11 (by omega)
  have h_n12 := q_keep e19 h_n12 (by omega)
  have hF := K_n.set hF e19 (by omega)
  have hL := q_lns e19 hL
  refine q_aload_n d_Se_init_74 rfl rfl ?_
  refine q_aload_n d_Se_init_75 rfl rfl ?_
  refine x_putF d_Se_init_76 f_Se_41 rfl (fun q h => by cases h; rfl) h_o (Nat.le_of_ble_eq_true rfl) rfl rfl (fun hp20 e20 h_o => ?_)
  have h_n0 := q_keep e20 h_n0 (by omega)
  have h_n1 := q_keep e20 h_n1 (by omega)
  have h_n2 := q_keep e20 h_n2 (by omega)
  have h_n3 := q_keep e20 h_n3 (by omega)
  have h_n4 := q_keep e20 h_n4 (by omega)
  have h_n5 := q_keep e20 h_n5 (by omega)
  have h_n6 := q_keep e20 h_n6 (by omega)
  have h_n7 := q_keep e20 h_n7 (by omega)
  have h_n8 := q_keep e20 h_n8 (by omega)
  have h_n9 := q_keep e20 h_n9 (by omega)
  have h_n10 := q_keep e20 h_n10 (by omega)
  have h_n11 := q_keep e20 h_n11 (by omega)
  have h_n12 := q_keep e20 h_n12 (by omega)
  have hF := K_n.set hF e20 (by omega)
  have hL := q_lns e20 hL
  refine q_vret d_Se_init_79 rfl ?_ (Nat.le_of_ble_eq_true rfl) (Nat.le_of_ble_eq_true rfl) (by decide)
  refine ⟨_, rfl, rfl, hF, hL, h_o, ss_00 h_n0 h_n1, ss_00 h_n2 h_n3, ss_00 h_n4 h_n5, ss_00 h_n6 h_n7, ⟨h_n8, h_n9, h_n10⟩, ⟨_, h_n11⟩, ⟨_, h_n12⟩⟩
theorem w_A_kn {a L : Nat} {w : w_T} {hp hp' : List va_E} (h : w_A w hp) (hK : K_n a L hp hp') (ha : 36 < a) (hL : 36 < L) : w_A w hp' := by
  have k : ∀ i, i ≤ 36 → hp'[i]? = hp[i]? := fun i hi => hK.2.2 i (by omega) (by omega)
  exact ⟨(k _ (by omega)).trans h.1, (k _ (by omega)).trans h.2.1, (k _ (by omega)).trans h.2.2.1, (k _ (by omega)).trans h.2.2.2.1, fun q hq => (h.2.2.2.2 q hq).kn hK (by omega) (by omega)⟩
theorem w_A_set {b : Nat} {w : w_T} {hp hp' : List va_E} {x : va_E} (h : w_A w hp) (e : hp' = hp.set b x) (hb : b = 0 ∨ 36 < b) : w_A w hp' :=
  ⟨q_keep e h.1 (by omega), q_keep e h.2.1 (by omega), q_keep e h.2.2.1 (by omega), q_keep e h.2.2.2.1 (by omega), fun q hq => (h.2.2.2.2 q hq).st e (by omega)⟩
theorem w_A_app {w : w_T} {hp hp' : List va_E} {x : va_E} (h : w_A w hp) (e : hp' = hp ++ [x]) : w_A w hp' :=
  ⟨q_app e h.1, q_app e h.2.1, q_app e h.2.2.1, q_app e h.2.2.2.1, fun q hq => (h.2.2.2.2 q hq).app e⟩
theorem y_A_kn {a L : Nat} {S : x_S} {hp hp' : List va_E} (h : y_A S hp) (hK : K_n a L hp hp') (ha : 66 < a) (hL : 66 < L) : y_A S hp' := by
  have k : ∀ i, i ≤ 66 → hp'[i]? = hp[i]? := fun i hi => hK.2.2 i (by omega) (by omega)
  exact ⟨(k _ (by omega)).trans h.1, (k _ (by omega)).trans h.2.1, (k _ (by omega)).trans h.2.2.1, (k _ (by omega)).trans h.2.2.2.1, fun i hi => (k _ (by omega)).trans (h.2.2.2.2.1 i hi), fun i hi => (k _ (by omega)).trans (h.2.2.2.2.2 i hi)⟩
theorem y_A_set {b : Nat} {S : x_S} {hp hp' : List va_E} {x : va_E} (h : y_A S hp) (e : hp' = hp.set b x) (hb : b = 0 ∨ 66 < b) : y_A S hp' :=
  ⟨q_keep e h.1 (by omega), q_keep e h.2.1 (by omega), q_keep e h.2.2.1 (by omega), q_keep e h.2.2.2.1 (by omega), fun i hi => q_keep e (h.2.2.2.2.1 i hi) (by omega), fun i hi => q_keep e (h.2.2.2.2.2 i hi) (by omega)⟩
theorem y_A_app {S : x_S} {hp hp' : List va_E} {x : va_E} (h : y_A S hp) (e : hp' = hp ++ [x]) : y_A S hp' :=
  ⟨q_app e h.1, q_app e h.2.1, q_app e h.2.2.1, q_app e h.2.2.2.1, fun i hi => q_app e (h.2.2.2.2.1 i hi), fun i hi => q_app e (h.2.2.2.2.2 i hi)⟩
theorem z_A_of {B : z_S} {hp hp' : List va_E} (h : z_A B hp) (k : ∀ i, 67 ≤ i → i ≤ 80 → hp'[i]? = hp[i]?) : z_A B hp' := by
  obtain ⟨h1, h2, h3, h4, h5, h6, ⟨f, h7⟩, ⟨f2, h8⟩⟩ := h
  exact ⟨(k _ (by omega) (by omega)).trans h1, h2.keep (k _ (by omega) (by omega)) (k _ (by omega) (by omega)), h3.keep (k _ (by omega) (by omega)) (k _ (by omega) (by omega)), h4.keep (k _ (by omega) (by omega)) (k _ (by omega) (by omega)), h5.keep (k _ (by omega) (by omega)) (k _ (by omega) (by omega)), ⟨(k _ (by omega) (by omega)).trans h6.1, (k _ (by omega) (by omega)).trans h6.2.1, (k _ (by omega) (by omega)).trans h6.2.2⟩, ⟨f, (k _ (by omega) (by omega)).trans h7⟩, ⟨f2, (k _ (by omega) (by omega)).trans h8⟩⟩
theorem z_A_kn {a L : Nat} {B : z_S} {hp hp' : List va_E} (h : z_A B hp) (hK : K_n a L hp hp') (ha : 80 < a) (hL : 80 < L) : z_A B hp' := z_A_of h (fun i h1 h2 => hK.2.2 i (by omega) (by omega))
theorem z_A_set {b : Nat} {B : z_S} {hp hp' : List va_E} {x : va_E} (h : z_A B hp) (e : hp' = hp.set b x) (hb : b = 0 ∨ 80 < b) : z_A B hp' := z_A_of h (fun i h1 h2 => by rw [e, List.getElem?_set_ne (by omega)])
theorem z_A_app {B : z_S} {hp hp' : List va_E} {x : va_E} (h : z_A B hp) (e : hp' = hp ++ [x]) : z_A B hp' := by
  have hl : 80 < hp.length := by
    obtain ⟨f2, h8⟩ := h.2.2.2.2.2.2.2
    exact (List.getElem?_eq_some_iff.mp h8).1
  exact z_A_of h (fun i h1 h2 => by rw [e, List.getElem?_append_left (by omega)])
set_option maxRecDepth 10000 in
set_option maxHeartbeats 2000000 in
theorem k_S_init (hG : q_GG g) {hp : List va_E} (h_o : hp[0]? = some (.inr (0, [.null, .null, .null, .null, .null, .int 0]))) (hL : hp.length = 1) : q_C g m_S_init true (q_R 3 90 83 2600) [.ref 0] hp (q_ho none (fun h => h.length = 84 ∧ T_A 0 (fun _ => 0) w_00 x_00 B_00 (fun _ => 0) (fun _ => 0) 0 h)) := by
  refine q_C.of hG (by decide) (Nat.le_of_ble_eq_true rfl) ?_
  refine q_aload_n d_S_init_0 rfl rfl ?_
  refine q_objInit d_S_init_1 lo_S_1 oi_1 oi_2 (Nat.le_of_ble_eq_true rfl) (Nat.le_of_ble_eq_true rfl) ?_
  refine q_aload_n d_S_init_4 rfl rfl ?_
  refine x_new (L := 1) (fs := [.null, .int 0]) d_S_init_5 n_S_7 rfl (Nat.le_of_ble_eq_true rfl) (Nat.le_of_ble_eq_true rfl) hL (fun hp1 e1 => ?_)
  have h_n0 := q_apl e1 hL
  have h_o := q_app e1 h_o
  have hL := q_len e1 hL
  refine q_dup d_S_init_8 rfl ?_
  refine x_callIr d_S_init_9 l_S_9 rfl rfl i_Ta_init (c_Ta_init hG h_n0 hL) rfl rfl (Nat.le_of_ble_eq_true rfl) (Nat.le_of_ble_eq_true rfl) (Nat.le_of_ble_eq_true rfl) (Nat.le_of_ble_eq_true rfl) (fun hp2 hz => ?_)
  obtain ⟨hK, hL, h_n0, h_n1⟩ := hz
  have h_o := (hK.2.2 _ (by omega) (by omega)).trans h_o
  refine x_putF d_S_init_12 f_S_10 rfl (fun q h => by cases h; rfl) h_o (Nat.le_of_ble_eq_true rfl) rfl rfl (fun hp3 e3 h_o => ?_)
  have h_n0 := q_keep e3 h_n0 (by omega)
  have h_n1 := q_keep e3 h_n1 (by omega)
  have hL := q_lns e3 hL
  refine q_aload_n d_S_init_15 rfl rfl ?_
  refine x_new (L := 3) (fs := [.null, .null, .int 0, .null, .int 0]) d_S_init_16 n_S_16 rfl (Nat.le_of_ble_eq_true rfl) (Nat.le_of_ble_eq_true rfl) hL (fun hp4 e4 => ?_)
  have h_n2 := q_apl e4 hL
  have h_o := q_app e4 h_o
  have h_n0 := q_app e4 h_n0
  have h_n1 := q_app e4 h_n1
  have hL := q_len e4 hL
  refine q_dup d_S_init_19 rfl ?_
  refine x_callIr d_S_init_20 l_S_18 rfl rfl i_Wo_init (k_Wo_init hG h_n2 hL) rfl rfl (Nat.le_of_ble_eq_true rfl) (Nat.le_of_ble_eq_true rfl) (Nat.le_of_ble_eq_true rfl) (Nat.le_of_ble_eq_true rfl) (fun hp20 hW => ?_)
  have hK := hW.2.1
  have hL := hW.1
  have hWA := hW.A
  have h_n2 := hWA.1
  have h_o := (hK.2.2 0 (by omega) (by omega)).trans h_o
  have h_n0 := (hK.2.2 1 (by omega) (by omega)).trans h_n0
  have h_n1 := (hK.2.2 2 (by omega) (by omega)).trans h_n1
  refine x_putF d_S_init_23 f_S_19 rfl (fun q h => by cases h; rfl) h_o (Nat.le_of_ble_eq_true rfl) rfl rfl (fun hp1 e1 h_o => ?_)
  have hWA := w_A_set hWA e1 (by omega)
  have h_n0 := q_keep e1 h_n0 (by omega)
  have h_n1 := q_keep e1 h_n1 (by omega)
  have h_n2 := q_keep e1 h_n2 (by omega)
  have hL := q_lns e1 hL
  refine q_aload_n d_S_init_26 rfl rfl ?_
  refine x_new (L := 37) (fs := [.null, .null, .null, .null, .null, .int 0, .int 0, .int 0, .int 0]) d_S_init_27 n_S_23 rfl (Nat.le_of_ble_eq_true rfl) (Nat.le_of_ble_eq_true rfl) hL (fun hp2 e2 => ?_)
  have hWA := w_A_app hWA e2
  have h_n36 := q_apl e2 hL
  have h_o := q_app e2 h_o
  have h_n0 := q_app e2 h_n0
  have h_n1 := q_app e2 h_n1
  have h_n2 := q_app e2 h_n2
  have hL := q_len e2 hL
  refine q_dup d_S_init_30 rfl ?_
  refine q_aload_n d_S_init_31 rfl rfl ?_
  refine q_get d_S_init_32 f_S_10 h_o rfl ?_
  refine q_aload_n d_S_init_35 rfl rfl ?_
  refine q_get d_S_init_36 f_S_19 h_o rfl ?_
  refine x_callIr d_S_init_39 l_S_25 rfl rfl i_Re_init (k_Re_init hG h_n36 hL) rfl rfl (Nat.le_of_ble_eq_true rfl) (Nat.le_of_ble_eq_true rfl) (Nat.le_of_ble_eq_true rfl) (Nat.le_of_ble_eq_true rfl) (fun hp39 hR => ?_)
  have hK := hR.2.1
  have hL := hR.1
  have hRA := hR.A
  have h_n36 := hRA.1
  have hWA := w_A_kn hWA hK (by omega) (by omega)
  have h_n2 := hWA.1
  have h_o := (hK.2.2 0 (by omega) (by omega)).trans h_o
  have h_n0 := (hK.2.2 1 (by omega) (by omega)).trans h_n0
  have h_n1 := (hK.2.2 2 (by omega) (by omega)).trans h_n1
  refine x_putF d_S_init_42 f_S_28 rfl (fun q h => by cases h; rfl) h_o (Nat.le_of_ble_eq_true rfl) rfl rfl (fun hp1 e1 h_o => ?_)
  have hWA := w_A_set hWA e1 (by omega)
  have hRA := y_A_set hRA e1 (by omega)
  have h_n0 := q_keep e1 h_n0 (by omega)
  have h_n1 := q_keep e1 h_n1 (by omega)
  have h_n2 := q_keep e1 h_n2 (by omega)
  have h_n36 := q_keep e1 h_n36 (by omega)
  have hL := q_lns e1 hL
  refine q_aload_n d_S_init_45 rfl rfl ?_
  refine x_new (L := 67) (fs := [.null, .null, .null, .null, .null, .null, .null, .null, .int 0, .int 0, .int 0, .int 0]) d_S_init_46 n_S_32 rfl (Nat.le_of_ble_eq_true rfl) (Nat.le_of_ble_eq_true rfl) hL (fun hp2 e2 => ?_)
  have hWA := w_A_app hWA e2
  have hRA := y_A_app hRA e2
  have h_n66 := q_apl e2 hL
  have h_o := q_app e2 h_o
  have h_n0 := q_app e2 h_n0
  have h_n1 := q_app e2 h_n1
  have h_n2 := q_app e2 h_n2
  have h_n36 := q_app e2 h_n36
  have hL := q_len e2 hL
  refine q_dup d_S_init_49 rfl ?_
  refine q_aload_n d_S_init_50 rfl rfl ?_
  refine q_get d_S_init_51 f_S_19 h_o rfl ?_
  refine x_callIr d_S_init_54 l_S_34 rfl rfl i_Se_init (k_Se_init hG h_n66 hL) rfl rfl (Nat.le_of_ble_eq_true rfl) (Nat.le_of_ble_eq_true rfl) (Nat.le_of_ble_eq_true rfl) (Nat.le_of_ble_eq_true rfl) (fun hp54 hS => ?_)
  obtain ⟨hK, hL, hSA⟩ := hS
  have h_n66 := hSA.1
  have hWA := w_A_kn hWA hK (by omega) (by omega)
  have hRA := y_A_kn hRA hK (by omega) (by omega)
  have h_n2 := hWA.1
  have h_n36 := hRA.1
  have h_o := (hK.2.2 0 (by omega) (by omega)).trans h_o
  have h_n0 := (hK.2.2 1 (by omega) (by omega)).trans h_n0
  have h_n1 := (hK.2.2 2 (by omega) (by omega)).trans h_n1
  refine x_putF d_S_init_57 f_S_37 rfl (fun q h => by cases h; rfl) h_o (Nat.le_of_ble_eq_true rfl) rfl rfl (fun hp1 e1 h_o => ?_)
  have hWA := w_A_set hWA e1 (by omega)
  have hRA := y_A_set hRA e1 (by omega)
  have hSA := z_A_set hSA e1 (by omega)
  have h_n0 := q_keep e1 h_n0 (by omega)
  have h_n1 := q_keep e1 h_n1 (by omega)
  have h_n2 := q_keep e1 h_n2 (by omega)
  have h_n36 := q_keep e1 h_n36 (by omega)
  have h_n66 := q_keep e1 h_n66 (by omega)
  have hL := q_lns e1 hL
  refine q_aload_n d_S_init_60 rfl rfl ?_
  refine x_new (L := 81) (fs := [.null, .null]) d_S_init_61 n_S_41 rfl (Nat.le_of_ble_eq_true rfl) (Nat.le_of_ble_eq_true rfl) hL (fun hp2 e2 => ?_)
  have hWA := w_A_app hWA e2
  have hRA := y_A_app hRA e2
  have hSA := z_A_app hSA e2
  have h_n80 := q_apl e2 hL
  have h_o := q_app e2 h_o
  have h_n0 := q_app e2 h_n0
  have h_n1 := q_app e2 h_n1
  have h_n2 := q_app e2 h_n2
  have h_n36 := q_app e2 h_n36
  have h_n66 := q_app e2 h_n66
  have hL := q_len e2 hL
  refine q_dup d_S_init_64 rfl ?_
  refine x_callIr d_S_init_65 l_S_43 rfl rfl i_St_init (c_St_init hG h_n80 hL) rfl rfl (Nat.le_of_ble_eq_true rfl) (Nat.le_of_ble_eq_true rfl) (Nat.le_of_ble_eq_true rfl) (Nat.le_of_ble_eq_true rfl) (fun hp65 hz => ?_)
  obtain ⟨hK, hL, h_n80, h_n81, h_n82⟩ := hz
  have hWA := w_A_kn hWA hK (by omega) (by omega)
  have hRA := y_A_kn hRA hK (by omega) (by omega)
  have hSA := z_A_kn hSA hK (by omega) (by omega)
  have h_n2 := hWA.1
  have h_n36 := hRA.1
  have h_n66 := hSA.1
  have h_o := (hK.2.2 0 (by omega) (by omega)).trans h_o
  have h_n0 := (hK.2.2 1 (by omega) (by omega)).trans h_n0
  have h_n1 := (hK.2.2 2 (by omega) (by omega)).trans h_n1
  refine x_putF d_S_init_68 f_S_44 rfl (fun q h => by cases h; rfl) h_o (Nat.le_of_ble_eq_true rfl) rfl rfl (fun hp1 e1 h_o => ?_)
  have hWA := w_A_set hWA e1 (by omega)
  have hRA := y_A_set hRA e1 (by omega)
  have hSA := z_A_set hSA e1 (by omega)
  have h_n0 := q_keep e1 h_n0 (by omega)
  have h_n1 := q_keep e1 h_n1 (by omega)
  have h_n2 := q_keep e1 h_n2 (by omega)
  have h_n36 := q_keep e1 h_n36 (by omega)
  have h_n66 := q_keep e1 h_n66 (by omega)
  have h_n80 := q_keep e1 h_n80 (by omega)
  have h_n81 := q_keep e1 h_n81 (by omega)
  have h_n82 := q_keep e1 h_n82 (by omega)
  have hL := q_lns e1 hL
  refine q_vret d_S_init_71 rfl ?_ (Nat.le_of_ble_eq_true rfl) (Nat.le_of_ble_eq_true rfl) (by decide)
  exact ⟨_, rfl, rfl, hL, h_o, h_n0, h_n1, hWA, hRA, hSA, ⟨h_n80, h_n81, h_n82⟩⟩
end C43
