/-! small methods: Part, Tape, Course, the JDK's -/
section C1
abbrev a_I (n : Nat) (f : Nat → Int32) : va_E := .inl (0, n, .inl f)
abbrev a_J (n : Nat) (f : Nat → Int64) : va_E := .inl (1, n, .inr (.inl f))
abbrev a_B (n : Nat) (f : Nat → Int32) : va_E := .inl (2, n, .inl f)
abbrev a_Z (n : Nat) (f : Nat → Int32) : va_E := .inl (3, n, .inl f)
/-- a Course at a: its rows behind it -/
abbrev o_Co (a : Nat) (pc en : Int32) : va_E := .inr (3, [.int pc, .int en, .ref (a + 1), .ref (a + 2), .ref (a + 3), .ref (a + 4)])
abbrev o_Ta (a : Nat) (n : Int32) : va_E := .inr (1, [.ref (a + 1), .int n])
theorem q_Bo {b c : Int32} (h : q_B b) (k : q_B c) : q_B (b ||| c) := by rcases h with rfl | rfl <;> rcases k with rfl | rfl <;> decide
theorem q_Ba {b c : Int32} (h : q_B b) (k : q_B c) : q_B (b &&& c) := by rcases h with rfl | rfl <;> rcases k with rfl | rfl <;> decide
theorem q_B1 : q_B 1 := Or.inr rfl
theorem q_B0 : q_B 0 := Or.inl rfl
variable {g : q_G}
set_option maxRecDepth 10000 in
set_option maxHeartbeats 1000000 in
theorem c_Pa_init (hG : q_GG g) {hp : List va_E} {a : Nat} : q_C g m_Pa_init false (q_R 1 12 0 0) [.ref a] hp (q_ret none hp) := by
  refine q_C.of hG (by decide) (Nat.le_of_ble_eq_true rfl) ?_
  refine q_aload_n d_Pa_init_0 rfl rfl ?_
  refine q_objInit d_Pa_init_1 lo_Pa_1 oi_1 oi_2 (Nat.le_of_ble_eq_true rfl) (Nat.le_of_ble_eq_true rfl) ?_
  refine q_vret d_Pa_init_4 rfl ?_ (Nat.le_of_ble_eq_true rfl) (Nat.le_of_ble_eq_true rfl) (by decide)
  exact ⟨rfl, rfl⟩
set_option maxRecDepth 10000 in
set_option maxHeartbeats 1000000 in
theorem c_Pa_addChoice (hG : q_GG g) {hp : List va_E} {a o : Nat} {b f l b2 f2 l2 : Int32} (h_p : hp[a]? = some (o_Pa b f l)) (h_o : hp[o]? = some (o_Pa b2 f2 l2)) (hne : a ≠ o) (hb : q_B b) (hb2 : q_B b2) : q_C g m_Pa_addChoice true (q_R 0 0 0 0) [.ref a, .ref o] hp (q_ret none (hp.set a (o_Pa (b ||| b2) (f ||| f2) (l ||| l2)))) := by
  refine q_C.of hG (by decide) (Nat.le_of_ble_eq_true rfl) ?_
  refine q_aload_n d_Pa_addChoice_0 rfl rfl ?_
  refine q_dup d_Pa_addChoice_1 rfl ?_
  refine q_get d_Pa_addChoice_2 f_Pa_7 h_p rfl ?_
  refine q_aload_n d_Pa_addChoice_5 rfl rfl ?_
  refine q_get d_Pa_addChoice_6 f_Pa_7 h_o rfl ?_
  refine q_ior d_Pa_addChoice_9 ?_
  refine x_put d_Pa_addChoice_10 f_Pa_7 h_p (Nat.le_of_ble_eq_true rfl) (q_Bn (q_Bo hb hb2)) (q_Bf (q_Bo hb hb2)) (fun hp1 e1 h_p => ?_)
  have h_o := q_keep e1 h_o hne
  refine q_aload_n d_Pa_addChoice_13 rfl rfl ?_
  refine q_dup d_Pa_addChoice_14 rfl ?_
  refine q_get d_Pa_addChoice_15 f_Pa_13 h_p rfl ?_
  refine q_aload_n d_Pa_addChoice_18 rfl rfl ?_
  refine q_get d_Pa_addChoice_19 f_Pa_13 h_o rfl ?_
  refine q_ior d_Pa_addChoice_22 ?_
  refine x_put d_Pa_addChoice_23 f_Pa_13 h_p (Nat.le_of_ble_eq_true rfl) rfl rfl (fun hp2 e2 h_p => ?_)
  have h_o := q_keep e2 h_o hne
  refine q_aload_n d_Pa_addChoice_26 rfl rfl ?_
  refine q_dup d_Pa_addChoice_27 rfl ?_
  refine q_get d_Pa_addChoice_28 f_Pa_17 h_p rfl ?_
  refine q_aload_n d_Pa_addChoice_31 rfl rfl ?_
  refine q_get d_Pa_addChoice_32 f_Pa_17 h_o rfl ?_
  refine q_ior d_Pa_addChoice_35 ?_
  refine x_put d_Pa_addChoice_36 f_Pa_17 h_p (Nat.le_of_ble_eq_true rfl) rfl rfl (fun hp3 e3 h_p => ?_)
  have h_o := q_keep e3 h_o hne
  refine q_vret d_Pa_addChoice_39 rfl ?_ (Nat.le_of_ble_eq_true rfl) (Nat.le_of_ble_eq_true rfl) (by decide)
  exact ⟨rfl, by subst_vars; simp [List.set_set]⟩
set_option maxRecDepth 10000 in
set_option maxHeartbeats 1000000 in
theorem c_Pa_addBehind (hG : q_GG g) {hp : List va_E} {a o : Nat} {b f l b2 f2 l2 : Int32} (h_p : hp[a]? = some (o_Pa b f l)) (h_o : hp[o]? = some (o_Pa b2 f2 l2)) (hne : a ≠ o) (hb : q_B b) (hb2 : q_B b2) : q_C g m_Pa_addBehind true (q_R 0 0 0 0) [.ref a, .ref o] hp (q_ret none (hp.set a (o_Pa (b &&& b2) (f ||| (if b = 0 then 0 else f2)) (l2 ||| (if b2 = 0 then 0 else l))))) := by
  refine q_C.of hG (by decide) (Nat.le_of_ble_eq_true rfl) ?_
  refine q_aload_n d_Pa_addBehind_0 rfl rfl ?_
  refine q_dup d_Pa_addBehind_1 rfl ?_
  refine q_get d_Pa_addBehind_2 f_Pa_13 h_p rfl ?_
  refine q_aload_n d_Pa_addBehind_5 rfl rfl ?_
  refine q_get d_Pa_addBehind_6 f_Pa_7 h_p rfl ?_
  refine q_if_eq (tgt := 19) d_Pa_addBehind_9 (by decide) (fun b9 => ?_) (fun b9 => ?_)
  · skip
    refine q_iconst (v := 0) d_Pa_addBehind_19 (by decide) ?_
    refine q_ior d_Pa_addBehind_20 ?_
    refine x_put d_Pa_addBehind_21 f_Pa_13 h_p (Nat.le_of_ble_eq_true rfl) rfl rfl (fun hp1 e1 h_p => ?_)
    have h_o := q_keep e1 h_o hne
    refine q_aload_n d_Pa_addBehind_24 rfl rfl ?_
    refine q_aload_n d_Pa_addBehind_25 rfl rfl ?_
    refine q_get d_Pa_addBehind_26 f_Pa_17 h_o rfl ?_
    refine q_aload_n d_Pa_addBehind_29 rfl rfl ?_
    refine q_get d_Pa_addBehind_30 f_Pa_7 h_o rfl ?_
    refine q_if_eq (tgt := 43) d_Pa_addBehind_33 (by decide) (fun b33 => ?_) (fun b33 => ?_)
    · skip
      refine q_iconst (v := 0) d_Pa_addBehind_43 (by decide) ?_
      refine q_ior d_Pa_addBehind_44 ?_
      refine x_put d_Pa_addBehind_45 f_Pa_17 h_p (Nat.le_of_ble_eq_true rfl) rfl rfl (fun hp2 e2 h_p => ?_)
      have h_o := q_keep e2 h_o hne
      refine q_aload_n d_Pa_addBehind_48 rfl rfl ?_
      refine q_dup d_Pa_addBehind_49 rfl ?_
      refine q_get d_Pa_addBehind_50 f_Pa_7 h_p rfl ?_
      refine q_aload_n d_Pa_addBehind_53 rfl rfl ?_
      refine q_get d_Pa_addBehind_54 f_Pa_7 h_o rfl ?_
      refine q_iand d_Pa_addBehind_57 ?_
      refine x_put d_Pa_addBehind_58 f_Pa_7 h_p (Nat.le_of_ble_eq_true rfl) (q_Bn (q_Ba hb hb2)) (q_Bf (q_Ba hb hb2)) (fun hp3 e3 h_p => ?_)
      have h_o := q_keep e3 h_o hne
      refine q_vret d_Pa_addBehind_61 rfl ?_ (Nat.le_of_ble_eq_true rfl) (Nat.le_of_ble_eq_true rfl) (by decide)
      exact ⟨rfl, by subst e1; subst e2; subst e3; simp [List.set_set, b9, b33]⟩
    · skip
      refine q_aload_n d_Pa_addBehind_36 rfl rfl ?_
      refine q_get d_Pa_addBehind_37 f_Pa_17 h_p rfl ?_
      refine q_goto (tgt := 44) d_Pa_addBehind_40 (by decide) ?_
      refine q_ior d_Pa_addBehind_44 ?_
      refine x_put d_Pa_addBehind_45 f_Pa_17 h_p (Nat.le_of_ble_eq_true rfl) rfl rfl (fun hp4 e4 h_p => ?_)
      have h_o := q_keep e4 h_o hne
      refine q_aload_n d_Pa_addBehind_48 rfl rfl ?_
      refine q_dup d_Pa_addBehind_49 rfl ?_
      refine q_get d_Pa_addBehind_50 f_Pa_7 h_p rfl ?_
      refine q_aload_n d_Pa_addBehind_53 rfl rfl ?_
      refine q_get d_Pa_addBehind_54 f_Pa_7 h_o rfl ?_
      refine q_iand d_Pa_addBehind_57 ?_
      refine x_put d_Pa_addBehind_58 f_Pa_7 h_p (Nat.le_of_ble_eq_true rfl) (q_Bn (q_Ba hb hb2)) (q_Bf (q_Ba hb hb2)) (fun hp5 e5 h_p => ?_)
      have h_o := q_keep e5 h_o hne
      refine q_vret d_Pa_addBehind_61 rfl ?_ (Nat.le_of_ble_eq_true rfl) (Nat.le_of_ble_eq_true rfl) (by decide)
      exact ⟨rfl, by subst e1; subst e4; subst e5; simp [List.set_set, b9, b33]⟩
  · skip
    refine q_aload_n d_Pa_addBehind_12 rfl rfl ?_
    refine q_get d_Pa_addBehind_13 f_Pa_13 h_o rfl ?_
    refine q_goto (tgt := 20) d_Pa_addBehind_16 (by decide) ?_
    refine q_ior d_Pa_addBehind_20 ?_
    refine x_put d_Pa_addBehind_21 f_Pa_13 h_p (Nat.le_of_ble_eq_true rfl) rfl rfl (fun hp6 e6 h_p => ?_)
    have h_o := q_keep e6 h_o hne
    refine q_aload_n d_Pa_addBehind_24 rfl rfl ?_
    refine q_aload_n d_Pa_addBehind_25 rfl rfl ?_
    refine q_get d_Pa_addBehind_26 f_Pa_17 h_o rfl ?_
    refine q_aload_n d_Pa_addBehind_29 rfl rfl ?_
    refine q_get d_Pa_addBehind_30 f_Pa_7 h_o rfl ?_
    refine q_if_eq (tgt := 43) d_Pa_addBehind_33 (by decide) (fun b33 => ?_) (fun b33 => ?_)
    · skip
      refine q_iconst (v := 0) d_Pa_addBehind_43 (by decide) ?_
      refine q_ior d_Pa_addBehind_44 ?_
      refine x_put d_Pa_addBehind_45 f_Pa_17 h_p (Nat.le_of_ble_eq_true rfl) rfl rfl (fun hp7 e7 h_p => ?_)
      have h_o := q_keep e7 h_o hne
      refine q_aload_n d_Pa_addBehind_48 rfl rfl ?_
      refine q_dup d_Pa_addBehind_49 rfl ?_
      refine q_get d_Pa_addBehind_50 f_Pa_7 h_p rfl ?_
      refine q_aload_n d_Pa_addBehind_53 rfl rfl ?_
      refine q_get d_Pa_addBehind_54 f_Pa_7 h_o rfl ?_
      refine q_iand d_Pa_addBehind_57 ?_
      refine x_put d_Pa_addBehind_58 f_Pa_7 h_p (Nat.le_of_ble_eq_true rfl) (q_Bn (q_Ba hb hb2)) (q_Bf (q_Ba hb hb2)) (fun hp8 e8 h_p => ?_)
      have h_o := q_keep e8 h_o hne
      refine q_vret d_Pa_addBehind_61 rfl ?_ (Nat.le_of_ble_eq_true rfl) (Nat.le_of_ble_eq_true rfl) (by decide)
      exact ⟨rfl, by subst e6; subst e7; subst e8; simp [List.set_set, b9, b33]⟩
    · skip
      refine q_aload_n d_Pa_addBehind_36 rfl rfl ?_
      refine q_get d_Pa_addBehind_37 f_Pa_17 h_p rfl ?_
      refine q_goto (tgt := 44) d_Pa_addBehind_40 (by decide) ?_
      refine q_ior d_Pa_addBehind_44 ?_
      refine x_put d_Pa_addBehind_45 f_Pa_17 h_p (Nat.le_of_ble_eq_true rfl) rfl rfl (fun hp9 e9 h_p => ?_)
      have h_o := q_keep e9 h_o hne
      refine q_aload_n d_Pa_addBehind_48 rfl rfl ?_
      refine q_dup d_Pa_addBehind_49 rfl ?_
      refine q_get d_Pa_addBehind_50 f_Pa_7 h_p rfl ?_
      refine q_aload_n d_Pa_addBehind_53 rfl rfl ?_
      refine q_get d_Pa_addBehind_54 f_Pa_7 h_o rfl ?_
      refine q_iand d_Pa_addBehind_57 ?_
      refine x_put d_Pa_addBehind_58 f_Pa_7 h_p (Nat.le_of_ble_eq_true rfl) (q_Bn (q_Ba hb hb2)) (q_Bf (q_Ba hb hb2)) (fun hp10 e10 h_p => ?_)
      have h_o := q_keep e10 h_o hne
      refine q_vret d_Pa_addBehind_61 rfl ?_ (Nat.le_of_ble_eq_true rfl) (Nat.le_of_ble_eq_true rfl) (by decide)
      exact ⟨rfl, by subst e6; subst e9; subst e10; simp [List.set_set, b9, b33]⟩
set_option maxRecDepth 10000 in
set_option maxHeartbeats 1000000 in
theorem c_Ta_byteAt (hG : q_GG g) {hp : List va_E} {a n i : Nat} {f : Nat → Int32} (h_t : hp[a]? = some (o_Ta a (nI n))) (h_b : hp[a + 1]? = some (a_B 100 f)) (hn : n ≤ 100) (hi : i < 2 ^ 30) : q_C g m_Ta_byteAt false (q_R 0 0 0 0) [.ref a, .int (nI i)] hp (q_ret (some (.int (if i < n then f i &&& 255 else -1))) hp) := by
  refine q_C.of hG (by decide) (Nat.le_of_ble_eq_true rfl) ?_
  refine q_iload_n d_Ta_byteAt_0 rfl ?_
  refine q_if_lt (tgt := 25) d_Ta_byteAt_1 (by decide) (fun b1 => ?_) (fun b1 => ?_)
  · skip
    exact absurd b1 (nI_pos (by omega))
  · skip
    refine q_iload_n d_Ta_byteAt_4 rfl ?_
    refine q_aload_n d_Ta_byteAt_5 rfl rfl ?_
    refine q_get d_Ta_byteAt_6 f_Ta_15 h_t rfl ?_
    refine q_icmp_ge (tgt := 25) d_Ta_byteAt_9 (by decide) (fun b9 => ?_) (fun b9 => ?_)
    · skip
      have hlt : ¬ i < n := fun q => nI_ge q (by omega) b9
      refine q_iconst (v := (-1)) d_Ta_byteAt_25 (by decide) ?_
      refine q_iret d_Ta_byteAt_26 rfl ?_ (Nat.le_of_ble_eq_true rfl) (Nat.le_of_ble_eq_true rfl) (by decide)
      exact ⟨by simp [hlt, nI_clamp (show i < 2 ^ 31 by omega)], rfl⟩
    · skip
      have hlt : i < n := Nat.lt_of_not_le fun q => b9 (nI_le q (by omega))
      have hin : vp_in (nI i) 100 := vp_in_nI (by omega) (by omega)
      refine q_aload_n d_Ta_byteAt_12 rfl rfl ?_
      refine q_get d_Ta_byteAt_13 f_Ta_9 h_t rfl ?_
      refine q_iload_n d_Ta_byteAt_16 rfl ?_
      refine q_bald d_Ta_byteAt_17 h_b rfl (by assumption) ?_
      refine q_sipush (v := 255) d_Ta_byteAt_18 (by decide) ?_
      refine q_iand d_Ta_byteAt_21 ?_
      refine q_goto (tgt := 26) d_Ta_byteAt_22 (by decide) ?_
      refine q_iret d_Ta_byteAt_26 rfl ?_ (Nat.le_of_ble_eq_true rfl) (Nat.le_of_ble_eq_true rfl) (by decide)
      exact ⟨by simp [hlt, nI_clamp (show i < 2 ^ 31 by omega)], rfl⟩
set_option maxRecDepth 10000 in
set_option maxHeartbeats 1000000 in
theorem c_Co_isFull (hG : q_GG g) {hp : List va_E} {a : Nat} {pc en : Int32} (h_c : hp[a]? = some (o_Co a pc en)) : q_C g m_Co_isFull false (q_R 0 0 0 0) [.ref a] hp (q_ret (some (.int (if pc ≤ 12 then 0 else 1))) hp) := by
  refine q_C.of hG (by decide) (Nat.le_of_ble_eq_true rfl) ?_
  refine q_aload_n d_Co_isFull_0 rfl rfl ?_
  refine q_get d_Co_isFull_1 f_Co_9 h_c rfl ?_
  refine q_bipush (v := 12) d_Co_isFull_4 (by decide) ?_
  refine q_icmp_le (tgt := 13) d_Co_isFull_6 (by decide) (fun b6 => ?_) (fun b6 => ?_)
  · skip
    refine q_iconst (v := 0) d_Co_isFull_13 (by decide) ?_
    refine q_zret d_Co_isFull_14 rfl (by decide) ?_ (Nat.le_of_ble_eq_true rfl) (Nat.le_of_ble_eq_true rfl) (by decide)
    exact ⟨by simp [b6], rfl⟩
  · skip
    refine q_iconst (v := 1) d_Co_isFull_9 (by decide) ?_
    refine q_goto (tgt := 14) d_Co_isFull_10 (by decide) ?_
    refine q_zret d_Co_isFull_14 rfl (by decide) ?_ (Nat.le_of_ble_eq_true rfl) (Nat.le_of_ble_eq_true rfl) (by decide)
    exact ⟨by simp [b6], rfl⟩
set_option maxRecDepth 10000 in
set_option maxHeartbeats 1000000 in
theorem c_Co_isEnd (hG : q_GG g) {hp : List va_E} {a : Nat} {pc en i : Int32} (h_c : hp[a]? = some (o_Co a pc en)) : q_C g m_Co_isEnd false (q_R 0 0 0 0) [.ref a, .int i] hp (q_ret (some (.int (if (en >>> (i &&& 31)) &&& 1 = 0 then 0 else 1))) hp) := by
  refine q_C.of hG (by decide) (Nat.le_of_ble_eq_true rfl) ?_
  refine q_aload_n d_Co_isEnd_0 rfl rfl ?_
  refine q_get d_Co_isEnd_1 f_Co_28 h_c rfl ?_
  refine q_iload_n d_Co_isEnd_4 rfl ?_
  refine q_ishr d_Co_isEnd_5 ?_
  refine q_iconst (v := 1) d_Co_isEnd_6 (by decide) ?_
  refine q_iand d_Co_isEnd_7 ?_
  refine q_if_eq (tgt := 15) d_Co_isEnd_8 (by decide) (fun b8 => ?_) (fun b8 => ?_)
  · skip
    refine q_iconst (v := 0) d_Co_isEnd_15 (by decide) ?_
    refine q_zret d_Co_isEnd_16 rfl (by decide) ?_ (Nat.le_of_ble_eq_true rfl) (Nat.le_of_ble_eq_true rfl) (by decide)
    exact ⟨by simp [b8], rfl⟩
  · skip
    refine q_iconst (v := 1) d_Co_isEnd_11 (by decide) ?_
    refine q_goto (tgt := 16) d_Co_isEnd_12 (by decide) ?_
    refine q_zret d_Co_isEnd_16 rfl (by decide) ?_ (Nat.le_of_ble_eq_true rfl) (Nat.le_of_ble_eq_true rfl) (by decide)
    exact ⟨by simp [b8], rfl⟩
set_option maxRecDepth 10000 in
set_option maxHeartbeats 1000000 in
theorem c_Co_finish (hG : q_GG g) {hp : List va_E} {a o : Nat} {pc en b f l : Int32} {s : Nat → Int32} (h_c : hp[a]? = some (o_Co a pc en)) (h_s : hp[a + 1]? = some (a_I 13 s)) (h_o : hp[o]? = some (o_Pa b f l)) (h1 : a ≠ o) (h2 : a + 1 ≠ o) : q_C g m_Co_finish true (q_R 0 0 0 0) [.ref a, .ref o] hp (q_ret none ((hp.set (a + 1) (a_I 13 (upd s 0 f))).set a (o_Co a pc (l ||| (if b = 0 then 0 else 1))))) := by
  refine q_C.of hG (by decide) (Nat.le_of_ble_eq_true rfl) ?_
  have hin : vp_in 0 13 := by unfold vp_in; decide
  refine q_aload_n d_Co_finish_0 rfl rfl ?_
  refine q_get d_Co_finish_1 f_Co_15 h_c rfl ?_
  refine q_iconst (v := 0) d_Co_finish_4 (by decide) ?_
  refine q_aload_n d_Co_finish_5 rfl rfl ?_
  refine q_get d_Co_finish_6 f_Co_37 h_o rfl ?_
  refine x_iast d_Co_finish_9 h_s rfl (by assumption) (fun hp1 e1 h_s => ?_)
  have h_c := q_keep e1 h_c (by omega)
  have h_o := q_keep e1 h_o h2
  refine q_aload_n d_Co_finish_10 rfl rfl ?_
  refine q_aload_n d_Co_finish_11 rfl rfl ?_
  refine q_get d_Co_finish_12 f_Co_42 h_o rfl ?_
  refine q_aload_n d_Co_finish_15 rfl rfl ?_
  refine q_get d_Co_finish_16 f_Co_45 h_o rfl ?_
  refine q_if_eq (tgt := 26) d_Co_finish_19 (by decide) (fun b19 => ?_) (fun b19 => ?_)
  · skip
    refine q_iconst (v := 0) d_Co_finish_26 (by decide) ?_
    refine q_ior d_Co_finish_27 ?_
    refine x_put d_Co_finish_28 f_Co_28 h_c (Nat.le_of_ble_eq_true rfl) rfl rfl (fun hp2 e2 h_c => ?_)
    have h_s := q_keep e2 h_s (by omega)
    have h_o := q_keep e2 h_o h1
    refine q_vret d_Co_finish_31 rfl ?_ (Nat.le_of_ble_eq_true rfl) (Nat.le_of_ble_eq_true rfl) (by decide)
    refine ⟨rfl, ?_⟩
    subst e1; subst e2
    simp [b19] <;> rfl
  · skip
    refine q_iconst (v := 1) d_Co_finish_22 (by decide) ?_
    refine q_goto (tgt := 27) d_Co_finish_23 (by decide) ?_
    refine q_ior d_Co_finish_27 ?_
    refine x_put d_Co_finish_28 f_Co_28 h_c (Nat.le_of_ble_eq_true rfl) rfl rfl (fun hp3 e3 h_c => ?_)
    have h_s := q_keep e3 h_s (by omega)
    have h_o := q_keep e3 h_o h1
    refine q_vret d_Co_finish_31 rfl ?_ (Nat.le_of_ble_eq_true rfl) (Nat.le_of_ble_eq_true rfl) (by decide)
    refine ⟨rfl, ?_⟩
    subst e1; subst e3
    simp [b19] <;> rfl
set_option maxRecDepth 10000 in
set_option maxHeartbeats 1000000 in
theorem c_Co_addAct (hG : q_GG g) {hp : List va_E} {a n : Nat} {en x y z : Int32} {k v f : Nat → Int32} (h_c : hp[a]? = some (o_Co a (nI n) en)) (h_k : hp[a + 2]? = some (a_I 13 k)) (h_v : hp[a + 3]? = some (a_I 13 v)) (h_f : hp[a + 4]? = some (a_I 13 f)) (hn : n < 13) : q_C g m_Co_addAct true (q_R 0 0 0 0) [.ref a, .int x, .int y, .int z] hp (q_ret (some (.int (nI n))) ((((hp.set (a + 2) (a_I 13 (upd k n x))).set (a + 3) (a_I 13 (upd v n y))).set (a + 4) (a_I 13 (upd f n z))).set a (o_Co a (nI (n + 1)) en))) := by
  refine q_C.of hG (by decide) (Nat.le_of_ble_eq_true rfl) ?_
  have hin : vp_in (nI n) 13 := vp_in_nI hn (by decide)
  have hcl : (nI n).toNatClampNeg = n := nI_clamp (by omega)
  refine q_aload_n d_Co_addAct_0 rfl rfl ?_
  refine q_get d_Co_addAct_1 f_Co_9 h_c rfl ?_
  refine q_istore d_Co_addAct_4 (by decide) rfl ?_
  refine q_aload_n d_Co_addAct_6 rfl rfl ?_
  refine q_get d_Co_addAct_7 f_Co_19 h_c rfl ?_
  refine q_iload d_Co_addAct_10 rfl ?_
  refine q_iload_n d_Co_addAct_12 rfl ?_
  refine x_iast d_Co_addAct_13 h_k rfl (by assumption) (fun hp1 e1 h_k => ?_)
  have h_c := q_keep e1 h_c (by omega)
  have h_v := q_keep e1 h_v (by omega)
  have h_f := q_keep e1 h_f (by omega)
  refine q_aload_n d_Co_addAct_14 rfl rfl ?_
  refine q_get d_Co_addAct_15 f_Co_22 h_c rfl ?_
  refine q_iload d_Co_addAct_18 rfl ?_
  refine q_iload_n d_Co_addAct_20 rfl ?_
  refine x_iast d_Co_addAct_21 h_v rfl (by assumption) (fun hp2 e2 h_v => ?_)
  have h_c := q_keep e2 h_c (by omega)
  have h_k := q_keep e2 h_k (by omega)
  have h_f := q_keep e2 h_f (by omega)
  refine q_aload_n d_Co_addAct_22 rfl rfl ?_
  refine q_get d_Co_addAct_23 f_Co_25 h_c rfl ?_
  refine q_iload d_Co_addAct_26 rfl ?_
  refine q_iload_n d_Co_addAct_28 rfl ?_
  refine x_iast d_Co_addAct_29 h_f rfl (by assumption) (fun hp3 e3 h_f => ?_)
  have h_c := q_keep e3 h_c (by omega)
  have h_k := q_keep e3 h_k (by omega)
  have h_v := q_keep e3 h_v (by omega)
  refine q_aload_n d_Co_addAct_30 rfl rfl ?_
  refine q_dup d_Co_addAct_31 rfl ?_
  refine q_get d_Co_addAct_32 f_Co_9 h_c rfl ?_
  refine q_iconst (v := 1) d_Co_addAct_35 (by decide) ?_
  refine q_iadd d_Co_addAct_36 ?_
  refine x_put d_Co_addAct_37 f_Co_9 h_c (Nat.le_of_ble_eq_true rfl) rfl rfl (fun hp4 e4 h_c => ?_)
  have h_k := q_keep e4 h_k (by omega)
  have h_v := q_keep e4 h_v (by omega)
  have h_f := q_keep e4 h_f (by omega)
  refine q_iload d_Co_addAct_40 rfl ?_
  refine q_iret d_Co_addAct_42 rfl ?_ (Nat.le_of_ble_eq_true rfl) (Nat.le_of_ble_eq_true rfl) (by decide)
  exact ⟨rfl, by subst e1 e2 e3 e4; simp [hcl, nI_1]⟩
end C1
