/-! the whole class: the calls that throw -/
section C40
section
variable {g : q_G} {M : q_Me} {fr : Bool} {rm : Room} {P : Outcome → List va_E → Prop} {pc : Nat} {ls : List (Option Value)} {st : List Value} {hp : List va_E} {c s : Nat} {w : Bool}
theorem x_callSx {N : q_Me} {fr' : Bool} {rm' : Room} {idx n x : Nat} {as stk : List Value} {hp2 : List va_E} (hd : decode M.2.1 pc = .ok (.invokestatic idx, 3)) (hl : q_ML M.1.cls idx N n) (hsta : Jvm.Cond.static N.1 ∈ q_gw) (hC : q_C g N fr' rm' as hp (q_thr x hp2)) (hn : as.length = n) (hstk : stk = as.reverse ++ st) (hd' : rm'.frames + 1 ≤ rm.frames) (hN : (st.map fun v => v.category).sum + (N.2.2.1 + 11) + rm'.locals ≤ rm.locals) (hmc : c + rm'.cells ≤ rm.cells) (hms : s + rm'.slots ≤ rm.slots) (hM : M.2.2.2.2 = []) (hfr : fr = true) (hP : P (.threw x) hp2) : q_J g M fr rm P pc ls stk hp c s w := by
  subst hstk
  exact q_callS hd hl hsta hn hC hd' hN hmc hms (fun v h e => by cases e.1) (fun y h e => by
    obtain ⟨e1, e2⟩ := e
    cases e1
    subst e2
    exact q_T.leave hM hP hmc hms (fun _ => hfr))
theorem x_callVx {N : q_Me} {fr' : Bool} {rm' : Room} {idx n x : Nat} {as stk : List Value} {hp2 : List va_E} {a ci : Nat} {fs : List Value} {q : vw_C} (hd : decode M.2.1 pc = .ok (.invokevirtual idx, 3)) (hl : q_ML M.1.cls idx N n) (hins : Jvm.Cond.instanceMethod N.1 ∈ q_gw) (hsel : Jvm.Cond.selects q.1 N.1 N.1 ∈ q_gw) (hq : q_cl[ci]? = some q) (he : hp[a]? = some (.inr (ci, fs))) (hC : q_C g N fr' rm' (.ref a :: as) hp (q_thr x hp2)) (hn : as.length = n) (hstk : stk = as.reverse ++ .ref a :: st) (hd' : rm'.frames + 1 ≤ rm.frames) (hN : (st.map fun v => v.category).sum + (N.2.2.1 + 11) + rm'.locals ≤ rm.locals) (hmc : c + rm'.cells ≤ rm.cells) (hms : s + rm'.slots ≤ rm.slots) (hM : M.2.2.2.2 = []) (hfr : fr = true) (hP : P (.threw x) hp2) : q_J g M fr rm P pc ls stk hp c s w := by
  subst hstk
  exact q_callV hd hl hins hsel hq he hn hC hd' hN hmc hms (fun v h e => by cases e.1) (fun y h e => by
    obtain ⟨e1, e2⟩ := e
    cases e1
    subst e2
    exact q_T.leave hM hP hmc hms (fun _ => hfr))
end
variable {g : q_G}
def q_trl {Z : Type} (ci : Nat) (H : Z → List va_E) (φ : Z → Prop) : Outcome → List va_E → Prop := fun r h => ∃ z, r = .threw (H z).length ∧ h = H z ++ [.inr (ci, [])] ∧ φ z
abbrev q_tx (ci : Nat) (hp : List va_E) : Outcome → List va_E → Prop := q_thr hp.length (hp ++ [.inr (ci, [])])
set_option maxRecDepth 10000 in
set_option maxHeartbeats 2000000 in
theorem c_S_feedX (hG : q_GG g) {hp : List va_E} {x : Int32} {y : Int64} (hx : m_fb x) : q_C g m_S_feed true (q_R 6 82 1 6) [.ref 0, .int x, .long y] hp (q_tx 10 hp) := by
  refine q_C.of hG (by decide) (Nat.le_of_ble_eq_true rfl) ?_
  refine q_iload_n d_S_feed_0 rfl ?_
  refine q_iconst (v := 1) d_S_feed_1 (by decide) ?_
  refine q_icmp_lt (tgt := 11) d_S_feed_2 (by decide) (fun b2 => ?_) (fun b2 => ?_)
  · skip
    refine x_thr1 hG rfl d_S_feed_11 d_S_feed_14 d_S_feed_15 d_S_feed_17 d_S_feed_20 (q_i 564 (by rfl)) rfl (by decide) (by decide) (by decide) (by decide) ?_
    exact ⟨rfl, rfl⟩
  · skip
    refine q_iload_n d_S_feed_5 rfl ?_
    refine q_bipush (v := 8) d_S_feed_6 (by decide) ?_
    refine q_icmp_le (tgt := 21) d_S_feed_8 (by decide) (fun b8 => ?_) (fun b8 => ?_)
    · skip
      exact absurd hx (fun h => h.elim b2 (fun h => absurd h (Int32.not_lt.mpr b8)))
    · skip
      refine x_thr1 hG rfl d_S_feed_11 d_S_feed_14 d_S_feed_15 d_S_feed_17 d_S_feed_20 (q_i 564 (by rfl)) rfl (by decide) (by decide) (by decide) (by decide) ?_
      exact ⟨rfl, rfl⟩
set_option maxRecDepth 10000 in
set_option maxHeartbeats 2000000 in
theorem c_S_variableX (hG : q_GG g) {hp : List va_E} {x y : Int32} (hx : m_vb x y) : q_C g m_S_variable true (q_R 6 82 1 6) [.ref 0, .int x, .int y] hp (q_tx 10 hp) := by
  refine q_C.of hG (by decide) (Nat.le_of_ble_eq_true rfl) ?_
  refine q_iload_n d_S_variable_0 rfl ?_
  refine q_iconst (v := 2) d_S_variable_1 (by decide) ?_
  refine q_icmp_lt (tgt := 19) d_S_variable_2 (by decide) (fun b2 => ?_) (fun b2 => ?_)
  · skip
    refine x_thr1 hG rfl d_S_variable_19 d_S_variable_22 d_S_variable_23 d_S_variable_25 d_S_variable_28 (q_i 601 (by rfl)) rfl (by decide) (by decide) (by decide) (by decide) ?_
    exact ⟨rfl, rfl⟩
  · skip
    refine q_iload_n d_S_variable_5 rfl ?_
    refine q_iconst (v := 5) d_S_variable_6 (by decide) ?_
    refine q_icmp_gt (tgt := 19) d_S_variable_7 (by decide) (fun b7 => ?_) (fun b7 => ?_)
    · skip
      refine x_thr1 hG rfl d_S_variable_19 d_S_variable_22 d_S_variable_23 d_S_variable_25 d_S_variable_28 (q_i 601 (by rfl)) rfl (by decide) (by decide) (by decide) (by decide) ?_
      exact ⟨rfl, rfl⟩
    · skip
      refine q_iload_n d_S_variable_10 rfl ?_
      refine q_if_lt (tgt := 19) d_S_variable_11 (by decide) (fun b11 => ?_) (fun b11 => ?_)
      · skip
        refine x_thr1 hG rfl d_S_variable_19 d_S_variable_22 d_S_variable_23 d_S_variable_25 d_S_variable_28 (q_i 601 (by rfl)) rfl (by decide) (by decide) (by decide) (by decide) ?_
        exact ⟨rfl, rfl⟩
      · skip
        refine q_iload_n d_S_variable_14 rfl ?_
        refine q_iload_n d_S_variable_15 rfl ?_
        refine q_icmp_lt (tgt := 29) d_S_variable_16 (by decide) (fun b16 => ?_) (fun b16 => ?_)
        · skip
          exact absurd hx (fun h => h.elim b2 (fun h => h.elim b7 (fun h => h.elim b11 (fun h => absurd h (Int32.not_le.mpr b16)))))
        · skip
          refine x_thr1 hG rfl d_S_variable_19 d_S_variable_22 d_S_variable_23 d_S_variable_25 d_S_variable_28 (q_i 601 (by rfl)) rfl (by decide) (by decide) (by decide) (by decide) ?_
          exact ⟨rfl, rfl⟩
set_option maxRecDepth 10000 in
set_option maxHeartbeats 2000000 in
theorem c_S_checkIndexX (hG : q_GG g) {hp : List va_E} {x : Int32} {k : Nat} (hx : m_np x k) : q_C g m_S_checkIndex true (q_R 6 82 1 6) [.int x, .int (nI k)] hp (q_tx 11 hp) := by
  refine q_C.of hG (by decide) (Nat.le_of_ble_eq_true rfl) ?_
  refine q_iload_n d_S_checkIndex_0 rfl ?_
  refine q_if_lt (tgt := 9) d_S_checkIndex_1 (by decide) (fun b1 => ?_) (fun b1 => ?_)
  · skip
    refine x_thr2 hG rfl d_S_checkIndex_9 d_S_checkIndex_12 d_S_checkIndex_13 d_S_checkIndex_15 d_S_checkIndex_18 (q_i 626 (by rfl)) rfl (by decide) (by decide) (by decide) (by decide) ?_
    exact ⟨rfl, rfl⟩
  · skip
    refine q_iload_n d_S_checkIndex_4 rfl ?_
    refine q_iload_n d_S_checkIndex_5 rfl ?_
    refine q_icmp_lt (tgt := 19) d_S_checkIndex_6 (by decide) (fun b6 => ?_) (fun b6 => ?_)
    · skip
      exact absurd hx (fun h => h.elim b1 (fun h => absurd h (Int32.not_le.mpr b6)))
    · skip
      refine x_thr2 hG rfl d_S_checkIndex_9 d_S_checkIndex_12 d_S_checkIndex_13 d_S_checkIndex_15 d_S_checkIndex_18 (q_i 626 (by rfl)) rfl (by decide) (by decide) (by decide) (by decide) ?_
      exact ⟨rfl, rfl⟩
set_option maxRecDepth 10000 in
set_option maxHeartbeats 2000000 in
theorem c_S_checkSearchableX (hG : q_GG g) {n : Nat} {f : Nat → Int32} {w : w_T} {S : x_S} {B : z_S} {cp cv : Nat → Nat} {gone : Nat} {hp : List va_E} (h : T_A n f w S B cp cv gone hp) (hok : w_ok w) (hN : ¬ w_q w ≤ 30000) : q_C g m_S_checkSearchable true (q_R 6 82 1 6) [.ref 0] hp (q_tx 12 hp) := by
  refine q_C.of hG (by decide) (Nat.le_of_ble_eq_true rfl) ?_
  have h_s := h.1
  have h_t := h.2.1
  have h_w := h.2.2.2.1.1
  have h_e := h.2.2.2.2.2.1.1
  have h_c := h.2.2.2.2.2.2.1
  refine q_aload_n d_S_checkSearchable_0 rfl rfl ?_
  refine q_get d_S_checkSearchable_1 f_S_19 h_s rfl ?_
  refine x_callV d_S_checkSearchable_4 l_S_118 i_Wo_isSearchable v_Wo_isSearchable rfl h_w (c_Wo_isSearchable hG hok h.2.2.2.1) rfl rfl (Nat.le_of_ble_eq_true rfl) (Nat.le_of_ble_eq_true rfl) (Nat.le_of_ble_eq_true rfl) (Nat.le_of_ble_eq_true rfl) ?_
  refine q_if_ne (tgt := 20) d_S_checkSearchable_7 (by decide) (fun b7 => ?_) (fun b7 => ?_)
  · skip
    exact absurd (by rw [if_neg hN]) b7
  · skip
    refine x_thr3 hG rfl d_S_checkSearchable_10 d_S_checkSearchable_13 d_S_checkSearchable_14 d_S_checkSearchable_16 d_S_checkSearchable_19 (q_i 660 (by rfl)) rfl (by decide) (by decide) (by decide) (by decide) ?_
    exact ⟨rfl, rfl⟩
set_option maxRecDepth 10000 in
set_option maxHeartbeats 2000000 in
theorem c_S_nowX (hG : q_GG g) {n : Nat} {f : Nat → Int32} {w : w_T} {S : x_S} {B : z_S} {cp cv : Nat → Nat} {gone : Nat} {hp : List va_E} {x : Int32} (h : T_A n f w S B cp cv gone hp) (hx : m_np x (w_p w)) : q_C g m_S_now true (q_R 7 110 1 6) [.ref 0, .int x] hp (q_tx 11 hp) := by
  refine q_C.of hG (by decide) (Nat.le_of_ble_eq_true rfl) ?_
  have h_s := h.1
  have h_t := h.2.1
  have h_w := h.2.2.2.1.1
  have h_e := h.2.2.2.2.2.1.1
  have h_c := h.2.2.2.2.2.2.1
  refine q_iload_n d_S_now_0 rfl ?_
  refine q_aload_n d_S_now_1 rfl rfl ?_
  refine q_get d_S_now_2 f_S_19 h_s rfl ?_
  refine q_get d_S_now_5 f_S_75 h_w rfl ?_
  refine x_callSx d_S_now_8 l_S_95 s_S_checkIndex (c_S_checkIndexX hG hx) rfl rfl (Nat.le_of_ble_eq_true rfl) (Nat.le_of_ble_eq_true rfl) (Nat.le_of_ble_eq_true rfl) (Nat.le_of_ble_eq_true rfl) rfl rfl ?_
  exact ⟨rfl, rfl⟩
set_option maxRecDepth 10000 in
set_option maxHeartbeats 2000000 in
theorem c_S_hasX (hG : q_GG g) {n : Nat} {f : Nat → Int32} {w : w_T} {S : x_S} {B : z_S} {cp cv : Nat → Nat} {gone : Nat} {hp : List va_E} {x : Int32} (h : T_A n f w S B cp cv gone hp) (hx : m_np x (w_n w)) : q_C g m_S_has true (q_R 7 110 1 6) [.ref 0, .int x] hp (q_tx 11 hp) := by
  refine q_C.of hG (by decide) (Nat.le_of_ble_eq_true rfl) ?_
  have h_s := h.1
  have h_t := h.2.1
  have h_w := h.2.2.2.1.1
  have h_e := h.2.2.2.2.2.1.1
  have h_c := h.2.2.2.2.2.2.1
  refine q_iload_n d_S_has_0 rfl ?_
  refine q_aload_n d_S_has_1 rfl rfl ?_
  refine q_get d_S_has_2 f_S_19 h_s rfl ?_
  refine q_get d_S_has_5 f_S_65 h_w rfl ?_
  refine x_callSx d_S_has_8 l_S_95 s_S_checkIndex (c_S_checkIndexX hG hx) rfl rfl (Nat.le_of_ble_eq_true rfl) (Nat.le_of_ble_eq_true rfl) (Nat.le_of_ble_eq_true rfl) (Nat.le_of_ble_eq_true rfl) rfl rfl ?_
  exact ⟨rfl, rfl⟩
set_option maxRecDepth 10000 in
set_option maxHeartbeats 2000000 in
theorem c_S_told1x (hG : q_GG g) {n : Nat} {f : Nat → Int32} {w : w_T} {S : x_S} {B : z_S} {cp cv : Nat → Nat} {gone : Nat} {hp : List va_E} {x y : Int32} (h : T_A n f w S B cp cv gone hp) (hx : m_np x (w_p w)) : q_C g m_S_told true (q_R 7 110 1 6) [.ref 0, .int x, .int y] hp (q_tx 11 hp) := by
  refine q_C.of hG (by decide) (Nat.le_of_ble_eq_true rfl) ?_
  have h_s := h.1
  have h_t := h.2.1
  have h_w := h.2.2.2.1.1
  have h_e := h.2.2.2.2.2.1.1
  have h_c := h.2.2.2.2.2.2.1
  refine q_iload_n d_S_told_0 rfl ?_
  refine q_aload_n d_S_told_1 rfl rfl ?_
  refine q_get d_S_told_2 f_S_19 h_s rfl ?_
  refine q_get d_S_told_5 f_S_75 h_w rfl ?_
  refine x_callSx d_S_told_8 l_S_95 s_S_checkIndex (c_S_checkIndexX hG hx) rfl rfl (Nat.le_of_ble_eq_true rfl) (Nat.le_of_ble_eq_true rfl) (Nat.le_of_ble_eq_true rfl) (Nat.le_of_ble_eq_true rfl) rfl rfl ?_
  exact ⟨rfl, rfl⟩
theorem m_tw_out {y : Int32} (h : m_tw y) : y.toInt < 0 ∨ 2 < y.toInt := by
  rcases h with h | h
  · exact Or.inl (Int32.lt_iff_toInt_lt.mp h)
  · exact Or.inr (Int32.lt_iff_toInt_lt.mp h)
set_option maxRecDepth 10000 in
set_option maxHeartbeats 2000000 in
theorem c_S_told2x (hG : q_GG g) {n : Nat} {f : Nat → Int32} {w : w_T} {S : x_S} {B : z_S} {cp cv : Nat → Nat} {gone : Nat} {hp : List va_E} {i : Nat} {y : Int32} (h : T_A n f w S B cp cv gone hp) (hok : w_ok w) (hi : i < w_p w) (hy : m_tw y) : q_C g m_S_told true (q_R 7 110 1 6) [.ref 0, .int (nI i), .int y] hp (q_tx 10 hp) := by
  refine q_C.of hG (by decide) (Nat.le_of_ble_eq_true rfl) ?_
  have h_s := h.1
  have h_t := h.2.1
  have h_w := h.2.2.2.1.1
  have h_e := h.2.2.2.2.2.1.1
  have h_c := h.2.2.2.2.2.2.1
  have hp6 := hok.2.1
  have h_cr := h.2.2.2.1.2.2.2.1
  have hin : vp_in (nI i) 6 := vp_in_nI (by omega) (by decide)
  refine q_iload_n d_S_told_0 rfl ?_
  refine q_aload_n d_S_told_1 rfl rfl ?_
  refine q_get d_S_told_2 f_S_19 h_s rfl ?_
  refine q_get d_S_told_5 f_S_75 h_w rfl ?_
  refine x_callS d_S_told_8 l_S_95 s_S_checkIndex (c_S_checkIndex hG hi (by omega)) rfl rfl (Nat.le_of_ble_eq_true rfl) (Nat.le_of_ble_eq_true rfl) (Nat.le_of_ble_eq_true rfl) (Nat.le_of_ble_eq_true rfl) ?_
  refine q_aload_n d_S_told_11 rfl rfl ?_
  refine q_get d_S_told_12 f_S_19 h_s rfl ?_
  refine q_get d_S_told_15 f_S_78 h_w rfl ?_
  refine q_iload_n d_S_told_18 rfl ?_
  refine q_aald d_S_told_19 h_cr rfl (by assumption) (cr_at (by omega)) ?_
  refine q_astore_n d_S_told_20 rfl rfl (by decide) rfl ?_
  refine q_iload_n d_S_told_21 rfl ?_
  refine q_tableOut (tgt := 66) d_S_told_22 (m_tw_out hy) (by decide) ?_
  refine x_thr1 hG rfl d_S_told_66 d_S_told_69 d_S_told_70 d_S_told_72 d_S_told_75 (q_i 638 (by rfl)) rfl (by decide) (by decide) (by decide) (by decide) ?_
  exact ⟨rfl, rfl⟩
set_option maxRecDepth 10000 in
set_option maxHeartbeats 2000000 in
theorem c_S_placeM (hG : q_GG g) {n : Nat} {f : Nat → Int32} {w : w_T} {S : x_S} {B : z_S} {cp cv : Nat → Nat} {gone : Nat} {hp : List va_E} {x y : Int32} (h : T_A n f w S B cp cv gone hp) (hok : w_ok w) (hN : ¬ w_q w ≤ 30000) : q_C g m_S_place true (q_R 7 110 1 6) [.ref 0, .int x, .int y] hp (q_tx 12 hp) := by
  refine q_C.of hG (by decide) (Nat.le_of_ble_eq_true rfl) ?_
  have h_s := h.1
  have h_t := h.2.1
  have h_w := h.2.2.2.1.1
  have h_e := h.2.2.2.2.2.1.1
  have h_c := h.2.2.2.2.2.2.1
  refine q_aload_n d_S_place_0 rfl rfl ?_
  refine x_callVx d_S_place_1 l_S_135 i_S_checkSearchable v_S_checkSearchable rfl h_s (c_S_checkSearchableX hG h hok hN) rfl rfl (Nat.le_of_ble_eq_true rfl) (Nat.le_of_ble_eq_true rfl) (Nat.le_of_ble_eq_true rfl) (Nat.le_of_ble_eq_true rfl) rfl rfl ?_
  exact ⟨rfl, rfl⟩
set_option maxRecDepth 10000 in
set_option maxHeartbeats 2000000 in
theorem c_S_valueM (hG : q_GG g) {n : Nat} {f : Nat → Int32} {w : w_T} {S : x_S} {B : z_S} {cp cv : Nat → Nat} {gone : Nat} {hp : List va_E} {x y : Int32} (h : T_A n f w S B cp cv gone hp) (hok : w_ok w) (hN : ¬ w_q w ≤ 30000) : q_C g m_S_value true (q_R 7 110 1 6) [.ref 0, .int x, .int y] hp (q_tx 12 hp) := by
  refine q_C.of hG (by decide) (Nat.le_of_ble_eq_true rfl) ?_
  have h_s := h.1
  have h_t := h.2.1
  have h_w := h.2.2.2.1.1
  have h_e := h.2.2.2.2.2.1.1
  have h_c := h.2.2.2.2.2.2.1
  refine q_aload_n d_S_value_0 rfl rfl ?_
  refine x_callVx d_S_value_1 l_S_135 i_S_checkSearchable v_S_checkSearchable rfl h_s (c_S_checkSearchableX hG h hok hN) rfl rfl (Nat.le_of_ble_eq_true rfl) (Nat.le_of_ble_eq_true rfl) (Nat.le_of_ble_eq_true rfl) (Nat.le_of_ble_eq_true rfl) rfl rfl ?_
  exact ⟨rfl, rfl⟩
set_option maxRecDepth 10000 in
set_option maxHeartbeats 2000000 in
theorem c_S_fallsM (hG : q_GG g) {n : Nat} {f : Nat → Int32} {w : w_T} {S : x_S} {B : z_S} {cp cv : Nat → Nat} {gone : Nat} {hp : List va_E} (h : T_A n f w S B cp cv gone hp) (hok : w_ok w) (hN : ¬ w_q w ≤ 30000) : q_C g m_S_falls true (q_R 7 110 1 6) [.ref 0] hp (q_tx 12 hp) := by
  refine q_C.of hG (by decide) (Nat.le_of_ble_eq_true rfl) ?_
  have h_s := h.1
  have h_t := h.2.1
  have h_w := h.2.2.2.1.1
  have h_e := h.2.2.2.2.2.1.1
  have h_c := h.2.2.2.2.2.2.1
  refine q_aload_n d_S_falls_0 rfl rfl ?_
  refine x_callVx d_S_falls_1 l_S_135 i_S_checkSearchable v_S_checkSearchable rfl h_s (c_S_checkSearchableX hG h hok hN) rfl rfl (Nat.le_of_ble_eq_true rfl) (Nat.le_of_ble_eq_true rfl) (Nat.le_of_ble_eq_true rfl) (Nat.le_of_ble_eq_true rfl) rfl rfl ?_
  exact ⟨rfl, rfl⟩
set_option maxRecDepth 10000 in
set_option maxHeartbeats 2000000 in
theorem c_S_placeB (hG : q_GG g) {n : Nat} {f : Nat → Int32} {w : w_T} {S : x_S} {B : z_S} {cp cv : Nat → Nat} {gone : Nat} {hp : List va_E} {x y : Int32} (h : T_A n f w S B cp cv gone hp) (hok : w_ok w) (hfz : w_fz w) (hN : w_q w ≤ 30000) (hK : z_K w B hp) (hbad : ∀ R St o, S_K w R St o → (x < 0 ∨ nI o.1 ≤ x ∨ m_np y (w_p w))) : q_C g m_S_place true (q_R 7 150 1 6) [.ref 0, .int x, .int y] hp (q_trl (Z := z_S × List va_E) 11 (fun z => z.2) (fun z => T_A n f w S z.1 cp cv gone z.2 ∧ sk_P w hp z)) := by
  refine q_C.of hG (by decide) (Nat.le_of_ble_eq_true rfl) ?_
  have h_s := h.1
  have h_t := h.2.1
  have h_w := h.2.2.2.1.1
  have h_e := h.2.2.2.2.2.1.1
  have h_c := h.2.2.2.2.2.2.1
  refine q_aload_n d_S_place_0 rfl rfl ?_
  refine x_callV d_S_place_1 l_S_135 i_S_checkSearchable v_S_checkSearchable rfl h_s (c_S_checkSearchable hG h hok hN) rfl rfl (Nat.le_of_ble_eq_true rfl) (Nat.le_of_ble_eq_true rfl) (Nat.le_of_ble_eq_true rfl) (Nat.le_of_ble_eq_true rfl) ?_
  refine q_aload_n d_S_place_4 rfl rfl ?_
  refine q_get d_S_place_5 f_S_37 h_s rfl ?_
  refine x_callVr d_S_place_8 l_S_126 i_Se_findStanding v_Se_findStanding rfl h_e (k_findStanding hG hok hfz hN h.2.2.2.1 h.2.2.2.2.2.1 hK) rfl rfl (Nat.le_of_ble_eq_true rfl) (Nat.le_of_ble_eq_true rfl) (Nat.le_of_ble_eq_true rfl) (Nat.le_of_ble_eq_true rfl) (fun z hz => ?_)
  have g1 := h.srch hz.2.2.2.2 hz.1
  have h_s := g1.1
  have h_w := g1.2.2.2.1.1
  have h_e := hz.1.1
  obtain ⟨o1, ho1⟩ : ∃ o, (b_o z.1).1 = o := ⟨_, rfl⟩
  have hbz := hbad _ _ _ hz.2.2.2.1
  have hbo : o1 < 2 ^ 31 := by
    have e1 := hz.2.2.2.1.2.2.1
    have e2 := cn_le z.1.2.1 30016
    omega
  refine q_iload_n d_S_place_11 rfl ?_
  refine q_aload_n d_S_place_12 rfl rfl ?_
  refine q_get d_S_place_13 f_S_37 h_s rfl ?_
  refine q_get d_S_place_16 f_S_129 h_e rfl ?_
  by_cases hx : m_np x o1
  · rw [ho1]
    refine x_callSx d_S_place_19 l_S_95 s_S_checkIndex (c_S_checkIndexX hG hx) rfl rfl (Nat.le_of_ble_eq_true rfl) (Nat.le_of_ble_eq_true rfl) (Nat.le_of_ble_eq_true rfl) (Nat.le_of_ble_eq_true rfl) rfl rfl ?_
    exact ⟨z, rfl, rfl, g1, hz⟩
  obtain ⟨j, hj, rfl⟩ := nI_of (fun h => hx (Or.inl h))
  have hj2 : j < o1 := by
    by_cases q : j < o1
    · exact q
    · exact absurd (Or.inr (nI_le (by omega) hj)) hx
  rw [ho1]
  refine x_callS d_S_place_19 l_S_95 s_S_checkIndex (c_S_checkIndex hG hj2 hbo) rfl rfl (Nat.le_of_ble_eq_true rfl) (Nat.le_of_ble_eq_true rfl) (Nat.le_of_ble_eq_true rfl) (Nat.le_of_ble_eq_true rfl) ?_
  refine q_iload_n d_S_place_22 rfl ?_
  refine q_aload_n d_S_place_23 rfl rfl ?_
  refine q_get d_S_place_24 f_S_19 h_s rfl ?_
  refine q_get d_S_place_27 f_S_75 h_w rfl ?_
  refine x_callSx d_S_place_30 l_S_95 s_S_checkIndex (c_S_checkIndexX hG (hbz.resolve_left (fun q => hx (Or.inl q)) |>.resolve_left (fun q => hx (Or.inr (ho1 ▸ q))))) rfl rfl (Nat.le_of_ble_eq_true rfl) (Nat.le_of_ble_eq_true rfl) (Nat.le_of_ble_eq_true rfl) (Nat.le_of_ble_eq_true rfl) rfl rfl ?_
  exact ⟨z, rfl, rfl, g1, hz⟩
set_option maxRecDepth 10000 in
set_option maxHeartbeats 2000000 in
theorem c_S_valueB (hG : q_GG g) {n : Nat} {f : Nat → Int32} {w : w_T} {S : x_S} {B : z_S} {cp cv : Nat → Nat} {gone : Nat} {hp : List va_E} {x y : Int32} (h : T_A n f w S B cp cv gone hp) (hok : w_ok w) (hfz : w_fz w) (hN : w_q w ≤ 30000) (hK : z_K w B hp) (hbad : ∀ R St o, S_K w R St o → (x < 0 ∨ nI o.1 ≤ x ∨ m_np y (w_n w))) : q_C g m_S_value true (q_R 7 150 1 6) [.ref 0, .int x, .int y] hp (q_trl (Z := z_S × List va_E) 11 (fun z => z.2) (fun z => T_A n f w S z.1 cp cv gone z.2 ∧ sk_P w hp z)) := by
  refine q_C.of hG (by decide) (Nat.le_of_ble_eq_true rfl) ?_
  have h_s := h.1
  have h_t := h.2.1
  have h_w := h.2.2.2.1.1
  have h_e := h.2.2.2.2.2.1.1
  have h_c := h.2.2.2.2.2.2.1
  refine q_aload_n d_S_value_0 rfl rfl ?_
  refine x_callV d_S_value_1 l_S_135 i_S_checkSearchable v_S_checkSearchable rfl h_s (c_S_checkSearchable hG h hok hN) rfl rfl (Nat.le_of_ble_eq_true rfl) (Nat.le_of_ble_eq_true rfl) (Nat.le_of_ble_eq_true rfl) (Nat.le_of_ble_eq_true rfl) ?_
  refine q_aload_n d_S_value_4 rfl rfl ?_
  refine q_get d_S_value_5 f_S_37 h_s rfl ?_
  refine x_callVr d_S_value_8 l_S_126 i_Se_findStanding v_Se_findStanding rfl h_e (k_findStanding hG hok hfz hN h.2.2.2.1 h.2.2.2.2.2.1 hK) rfl rfl (Nat.le_of_ble_eq_true rfl) (Nat.le_of_ble_eq_true rfl) (Nat.le_of_ble_eq_true rfl) (Nat.le_of_ble_eq_true rfl) (fun z hz => ?_)
  have g1 := h.srch hz.2.2.2.2 hz.1
  have h_s := g1.1
  have h_w := g1.2.2.2.1.1
  have h_e := hz.1.1
  obtain ⟨o1, ho1⟩ : ∃ o, (b_o z.1).1 = o := ⟨_, rfl⟩
  have hbz := hbad _ _ _ hz.2.2.2.1
  have hbo : o1 < 2 ^ 31 := by
    have e1 := hz.2.2.2.1.2.2.1
    have e2 := cn_le z.1.2.1 30016
    omega
  refine q_iload_n d_S_value_11 rfl ?_
  refine q_aload_n d_S_value_12 rfl rfl ?_
  refine q_get d_S_value_13 f_S_37 h_s rfl ?_
  refine q_get d_S_value_16 f_S_129 h_e rfl ?_
  by_cases hx : m_np x o1
  · rw [ho1]
    refine x_callSx d_S_value_19 l_S_95 s_S_checkIndex (c_S_checkIndexX hG hx) rfl rfl (Nat.le_of_ble_eq_true rfl) (Nat.le_of_ble_eq_true rfl) (Nat.le_of_ble_eq_true rfl) (Nat.le_of_ble_eq_true rfl) rfl rfl ?_
    exact ⟨z, rfl, rfl, g1, hz⟩
  obtain ⟨j, hj, rfl⟩ := nI_of (fun h => hx (Or.inl h))
  have hj2 : j < o1 := by
    by_cases q : j < o1
    · exact q
    · exact absurd (Or.inr (nI_le (by omega) hj)) hx
  rw [ho1]
  refine x_callS d_S_value_19 l_S_95 s_S_checkIndex (c_S_checkIndex hG hj2 hbo) rfl rfl (Nat.le_of_ble_eq_true rfl) (Nat.le_of_ble_eq_true rfl) (Nat.le_of_ble_eq_true rfl) (Nat.le_of_ble_eq_true rfl) ?_
  refine q_iload_n d_S_value_22 rfl ?_
  refine q_aload_n d_S_value_23 rfl rfl ?_
  refine q_get d_S_value_24 f_S_19 h_s rfl ?_
  refine q_get d_S_value_27 f_S_65 h_w rfl ?_
  refine x_callSx d_S_value_30 l_S_95 s_S_checkIndex (c_S_checkIndexX hG (hbz.resolve_left (fun q => hx (Or.inl q)) |>.resolve_left (fun q => hx (Or.inr (ho1 ▸ q))))) rfl rfl (Nat.le_of_ble_eq_true rfl) (Nat.le_of_ble_eq_true rfl) (Nat.le_of_ble_eq_true rfl) (Nat.le_of_ble_eq_true rfl) rfl rfl ?_
  exact ⟨z, rfl, rfl, g1, hz⟩
set_option maxRecDepth 10000 in
set_option maxHeartbeats 2000000 in
theorem c_S_moveN (hG : q_GG g) {n : Nat} {f : Nat → Int32} {w : w_T} {S : x_S} {B : z_S} {cp cv : Nat → Nat} {gone : Nat} {hp : List va_E} {x : Int32} (h : T_A n f w S B cp cv gone hp) (hx : x < 0) : q_C g m_S_move true (q_R 7 110 1 6) [.ref 0, .int x] hp (q_tx 11 hp) := by
  refine q_C.of hG (by decide) (Nat.le_of_ble_eq_true rfl) ?_
  have h_s := h.1
  have h_t := h.2.1
  have h_w := h.2.2.2.1.1
  have h_e := h.2.2.2.2.2.1.1
  have h_c := h.2.2.2.2.2.2.1
  refine q_iload_n d_S_move_0 rfl ?_
  refine q_istore_n d_S_move_1 rfl (by decide) rfl ?_
  refine q_iconst (v := 0) d_S_move_2 (by decide) ?_
  refine q_istore_n d_S_move_3 rfl (by decide) rfl ?_
  refine q_iload_n d_S_move_4 rfl ?_
  refine q_aload_n d_S_move_5 rfl rfl ?_
  refine q_get d_S_move_6 f_S_19 h_s rfl ?_
  refine q_get d_S_move_9 f_S_75 h_w rfl ?_
  refine q_icmp_ge (tgt := 98) d_S_move_12 (by decide) (fun b12 => ?_) (fun b12 => ?_)
  · skip
    refine x_thr2 hG rfl d_S_move_98 d_S_move_101 d_S_move_102 d_S_move_104 d_S_move_107 (q_i 695 (by rfl)) rfl (by decide) (by decide) (by decide) (by decide) ?_
    exact ⟨rfl, rfl⟩
  · skip
    refine q_iload_n d_S_move_15 rfl ?_
    refine q_if_lt (tgt := 98) d_S_move_16 (by decide) (fun b16 => ?_) (fun b16 => ?_)
    · skip
      refine x_thr2 hG rfl d_S_move_98 d_S_move_101 d_S_move_102 d_S_move_104 d_S_move_107 (q_i 695 (by rfl)) rfl (by decide) (by decide) (by decide) (by decide) ?_
      exact ⟨rfl, rfl⟩
    · skip
      exact absurd hx b16
set_option maxRecDepth 10000 in
set_option maxHeartbeats 2000000 in
theorem l_S_moveX (hG : q_GG g) {n : Nat} {f : Nat → Int32} {w : w_T} {S : x_S} {B : z_S} {cp cv : Nat → Nat} {gone : Nat} {hp : List va_E} {k : Nat} (h : T_A n f w S B cp cv gone hp) (hok : w_ok w) (hs : s_ok w cp cv) (hk : w_mv w cp cv (w_p w) ≤ k) (hk2 : k < 2 ^ 31) : ∀ (c q : Nat), q + c = w_p w → ∀ (z4 z5 z6 : Option Value), q_J g m_S_move true (q_R 7 110 1 6) (q_tx 11 hp) 4 [some (.ref 0), some (.int (nI k)), some (.int (nI (k - w_mv w cp cv q))), some (.int (nI q)), z4, z5, z6] [] hp 0 0 false := by
  have h_s := h.1
  have h_t := h.2.1
  have h_w := h.2.2.2.1.1
  have h_e := h.2.2.2.2.2.1.1
  have h_c := h.2.2.2.2.2.2.1
  have hp6 := hok.2.1
  intro c
  induction c with
  | zero =>
    intro q hq z4 z5 z6
    refine q_iload_n d_S_move_4 rfl ?_
    refine q_aload_n d_S_move_5 rfl rfl ?_
    refine q_get d_S_move_6 f_S_19 h_s rfl ?_
    refine q_get d_S_move_9 f_S_75 h_w rfl ?_
    refine q_icmp_ge (tgt := 98) d_S_move_12 (by decide) (fun b12 => ?_) (fun b12 => ?_)
    · skip
      refine x_thr2 hG rfl d_S_move_98 d_S_move_101 d_S_move_102 d_S_move_104 d_S_move_107 (q_i 695 (by rfl)) rfl (by decide) (by decide) (by decide) (by decide) ?_
      exact ⟨rfl, rfl⟩
    · skip
      exact absurd (nI_le (by omega) (by omega)) b12
  | succ c ih =>
    intro q hq z4 z5 z6
    obtain ⟨c1, c2, c3, c4⟩ := hok.2.2.2 q (by omega)
    have hop : w_op w cp cv q (c_n (w_c w q) - 1) < 8192 := by
      have := w_op_lt w cp cv q (c_n (w_c w q) - 1)
      have : 2 ^ (c_n (w_c w q) - 1 + 1) ≤ 2 ^ 13 := Nat.pow_le_pow_right (by decide) (by omega)
      omega
    have hle := w_mv_le (w := w) (pl := cp) (vl := cv) (q + 1) (w_p w) (by omega)
    have hcl : pb_cnt 13 (w_op w cp cv q (c_n (w_c w q) - 1)) ≤ k - w_mv w cp cv q := by
      have : w_mv w cp cv (q + 1) = w_mv w cp cv q + pb_cnt 13 (w_op w cp cv q (c_n (w_c w q) - 1)) := rfl
      omega
    refine q_iload_n d_S_move_4 rfl ?_
    refine q_aload_n d_S_move_5 rfl rfl ?_
    refine q_get d_S_move_6 f_S_19 h_s rfl ?_
    refine q_get d_S_move_9 f_S_75 h_w rfl ?_
    refine q_icmp_ge (tgt := 98) d_S_move_12 (by decide) (fun b12 => ?_) (fun b12 => ?_)
    · skip
      exact absurd b12 (nI_ge (by omega) (by omega))
    · skip
      refine q_iload_n d_S_move_15 rfl ?_
      refine q_if_lt (tgt := 98) d_S_move_16 (by decide) (fun b16 => ?_) (fun b16 => ?_)
      · skip
        exact absurd b16 (nI_pos (by omega))
      · skip
        refine q_aload_n d_S_move_19 rfl rfl ?_
        refine q_get d_S_move_20 f_S_19 h_s rfl ?_
        refine q_aload_n d_S_move_23 rfl rfl ?_
        refine q_get d_S_move_24 f_S_44 h_s rfl ?_
        refine q_iload_n d_S_move_27 rfl ?_
        refine x_callV d_S_move_28 l_S_149 i_Wo_openPlaces v_Wo_openPlaces rfl h_w (c_Wo_openPlaces hG hok h.2.2.2.1 h.2.2.2.2.2.2 hs.2.2 (hs.2.1 q (by omega)) (by omega)) rfl rfl (Nat.le_of_ble_eq_true rfl) (Nat.le_of_ble_eq_true rfl) (Nat.le_of_ble_eq_true rfl) (Nat.le_of_ble_eq_true rfl) ?_
        refine q_istore d_S_move_31 (by decide) rfl ?_
        refine q_iload d_S_move_33 rfl ?_
        refine x_callS d_S_move_35 l_S_110 s_In_bitCount (c_In_bitCount hG) rfl rfl (Nat.le_of_ble_eq_true rfl) (Nat.le_of_ble_eq_true rfl) (Nat.le_of_ble_eq_true rfl) (Nat.le_of_ble_eq_true rfl) ?_
        rw [pb_ib _ hop]
        refine q_istore d_S_move_38 (by decide) rfl ?_
        refine q_iload_n d_S_move_40 rfl ?_
        refine q_iload d_S_move_41 rfl ?_
        refine q_icmp_ge (tgt := 87) d_S_move_43 (by decide) (fun b43 => ?_) (fun b43 => ?_)
        · skip
          refine q_iload_n d_S_move_87 rfl ?_
          refine q_iload d_S_move_88 rfl ?_
          refine q_isub d_S_move_90 ?_
          refine q_istore_n d_S_move_91 rfl (by decide) rfl ?_
          refine q_iinc d_S_move_92 rfl (show _ + Int32.ofInt 1 = _ + 1 from rfl) (by decide) rfl ?_
          refine q_goto (tgt := 4) d_S_move_95 (by decide) ?_
          rw [nI_1]
          rw [show nI (k - w_mv w cp cv q) - nI (pb_cnt 13 (w_op w cp cv q (c_n (w_c w q) - 1))) = nI (k - w_mv w cp cv (q + 1)) by
            rw [pk_sub hcl]; show nI (k - w_mv w cp cv q - _) = nI (k - (w_mv w cp cv q + _)); rw [Nat.sub_sub]]
          exact ih (q + 1) (by omega) _ _ _
        · skip
          exact absurd (nI_le hcl (by omega)) b43
set_option maxRecDepth 10000 in
set_option maxHeartbeats 2000000 in
theorem c_S_moveB (hG : q_GG g) {n : Nat} {f : Nat → Int32} {w : w_T} {S : x_S} {B : z_S} {cp cv : Nat → Nat} {gone : Nat} {hp : List va_E} {k : Nat} (h : T_A n f w S B cp cv gone hp) (hok : w_ok w) (hs : s_ok w cp cv) (hk : w_mv w cp cv (w_p w) ≤ k) (hk2 : k < 2 ^ 31) : q_C g m_S_move true (q_R 7 110 1 6) [.ref 0, .int (nI k)] hp (q_tx 11 hp) := by
  refine q_C.of hG (by decide) (Nat.le_of_ble_eq_true rfl) ?_
  refine q_iload_n d_S_move_0 rfl ?_
  refine q_istore_n d_S_move_1 rfl (by decide) rfl ?_
  refine q_iconst (v := 0) d_S_move_2 (by decide) ?_
  refine q_istore_n d_S_move_3 rfl (by decide) rfl ?_
  exact l_S_moveX hG h hok hs hk hk2 (w_p w) 0 (by omega) _ _ _
end C40
