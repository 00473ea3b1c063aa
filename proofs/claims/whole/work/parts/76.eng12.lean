/-! the law: its helpers -/
section ENG12
section
variable {g : q_G} {M : q_Me} {fr : Bool} {rm : Room} {P : Outcome → List va_E → Prop} {pc : Nat} {ls : List (Option Value)} {st : List Value} {hp : List va_E} {c s : Nat} {w : Bool}
theorem x_callVc {N : q_Me} {fr' : Bool} {rm' : Room} {idx n : Nat} {as stk : List Value} {Z : Type} {cj : Nat} {H : Z → List va_E} {φ : Z → Prop} {a ci : Nat} {fs : List Value} {q : vw_C} (hd : decode M.2.1 pc = .ok (.invokevirtual idx, 3)) (hl : q_ML M.1.cls idx N n) (hins : Jvm.Cond.instanceMethod N.1 ∈ q_gw) (hsel : Jvm.Cond.selects q.1 N.1 N.1 ∈ q_gw) (hq : q_cl[ci]? = some q) (he : hp[a]? = some (.inr (ci, fs))) (hC : q_C g N fr' rm' (.ref a :: as) hp (q_trl cj H φ)) (hn : as.length = n) (hstk : stk = as.reverse ++ .ref a :: st) (hd' : rm'.frames + 1 ≤ rm.frames) (hN : (st.map fun v => v.category).sum + (N.2.2.1 + 11) + rm'.locals ≤ rm.locals) (hmc : c + rm'.cells ≤ rm.cells) (hms : s + rm'.slots ≤ rm.slots) (kt : ∀ z, φ z → q_T g M fr rm P pc ls (H z ++ [.inr (cj, [])]) (c + rm'.cells) (s + rm'.slots) true (H z).length) : q_J g M fr rm P pc ls stk hp c s w := by
  subst hstk
  exact q_callV hd hl hins hsel hq he hn hC hd' hN hmc hms (fun v h e => by obtain ⟨z, e1, -⟩ := e; cases e1) (fun y h e => by
    obtain ⟨z, e1, e2, e3⟩ := e
    cases e1
    subst e2
    exact kt z e3)
end
variable {g : q_G}
theorem q_C.trl {M : q_Me} {fr : Bool} {rm : Room} {as : List Value} {hp : List va_E} {cj : Nat} (h : q_C g M fr rm as hp (q_tx cj hp)) : q_C g M fr rm as hp (q_trl (Z := Unit) cj (fun _ => hp) (fun _ => True)) :=
  h.post (fun r h2 e => ⟨(), e.1, e.2, trivial⟩)
theorem q_C.rel {M : q_Me} {fr : Bool} {rm : Room} {as : List Value} {hp hp2 : List va_E} {x : Int32} (h : q_C g M fr rm as hp (q_ret (some (.int x)) hp2)) : q_C g M fr rm as hp (q_rel (Z := Unit) (fun _ => some (.int x)) (fun _ => hp2) (fun _ => True)) :=
  h.post (fun r h2 e => ⟨(), e.1, e.2, trivial⟩)
theorem q_apx {hp : List va_E} {x : va_E} : (hp ++ [x])[hp.length]? = some x := by simp
abbrev h_ok {Z : Type} (v : Z → Int32) (H : Z → List va_E) (φ : Z → Prop) : Outcome → List va_E → Prop := q_rel (Z := Z × (Nat → Int64)) (fun _ => some (.int 0)) (fun z => (H z.1).set 110 (a_J 1 z.2)) (fun z => φ z.1 ∧ z.2 0 = (v z.1).toInt64)
abbrev h_er {Z : Type} (k : Int32) (cj : Nat) (H : Z → List va_E) (φ : Z → Prop) : Outcome → List va_E → Prop := q_rel (Z := Z) (fun _ => some (.int k)) (fun z => H z ++ [.inr (cj, [])]) φ
theorem m_updL {f : Nat → Int64} {x : Int64} : vp_updL f 0 x 0 = x := by simp [vp_updL]
set_option maxRecDepth 10000 in
set_option maxHeartbeats 2000000 in
theorem h_feed_ok (hG : q_GG g) {hp : List va_E} {x : Int32} {y : Int64} {Z : Type} {v : Z → Int32} {H : Z → List va_E} {φ : Z → Prop} {fr' : Bool} {rm' : Room} (hC : q_C g m_S_feed fr' rm' [.ref 0, .int x, .long y] hp (q_rel (fun z => some (.int (v z))) H φ)) (h110 : ∀ z, φ z → ∃ f, (H z)[110]? = some (a_J 1 f)) (hS : ∃ fs, hp[0]? = some (.inr (0, fs))) (hfr : rm'.frames + 1 ≤ 8) (hlo : 2 + (4 + 11) + rm'.locals ≤ 200) (hce : rm'.cells ≤ 1) (hsl : rm'.slots ≤ 6) : q_C g m_La_feed true (q_R 8 200 1 6) [.ref 0, .int x, .long y, .ref 110] hp (h_ok v H φ) := by
  refine q_C.of hG (by decide) (Nat.le_of_ble_eq_true rfl) ?_
  obtain ⟨fs, hS⟩ := hS
  refine q_aload d_La_feed_0 rfl rfl ?_
  refine q_iconst (v := 0) d_La_feed_2 (by decide) ?_
  refine q_aload_n d_La_feed_3 rfl rfl ?_
  refine q_iload_n d_La_feed_4 rfl ?_
  refine q_lload_n d_La_feed_5 rfl ?_
  refine x_callVr d_La_feed_6 l_La_7 i_S_feed v_S_feed rfl hS hC rfl rfl hfr hlo (by show 0 + rm'.cells ≤ 1; omega) (by show 0 + rm'.slots ≤ 6; omega) (fun z hz => ?_)
  obtain ⟨f0, h_o⟩ := h110 z hz
  refine q_i2l d_La_feed_9 ?_
  refine x_last d_La_feed_10 h_o rfl (vp_in_nI (n := 0) (by decide) (by decide)) (fun hp1 e1 h_o => ?_)
  refine q_goto (tgt := 18) d_La_feed_11 (by decide) ?_
  refine q_iconst (v := 0) d_La_feed_18 (by decide) ?_
  refine q_iret d_La_feed_19 rfl ?_ (by show 0 + rm'.cells ≤ 1; omega) (by show 0 + rm'.slots ≤ 6; omega) (by decide)
  exact ⟨(z, vp_updL f0 0 (v z).toInt64), rfl, e1, hz, m_updL (f := f0)⟩
set_option maxRecDepth 10000 in
set_option maxHeartbeats 2000000 in
theorem h_feed_e1 (hG : q_GG g) {hp : List va_E} {x : Int32} {y : Int64} {Z : Type} {H : Z → List va_E} {φ : Z → Prop} {fr' : Bool} {rm' : Room} (hC : q_C g m_S_feed fr' rm' [.ref 0, .int x, .long y] hp (q_trl 10 H φ)) (hS : ∃ fs, hp[0]? = some (.inr (0, fs))) (hfr : rm'.frames + 1 ≤ 8) (hlo : 2 + (4 + 11) + rm'.locals ≤ 200) (hce : rm'.cells ≤ 1) (hsl : rm'.slots ≤ 6) : q_C g m_La_feed true (q_R 8 200 1 6) [.ref 0, .int x, .long y, .ref 110] hp (h_er 1 10 H φ) := by
  refine q_C.of hG (by decide) (Nat.le_of_ble_eq_true rfl) ?_
  obtain ⟨fs, hS⟩ := hS
  refine q_aload d_La_feed_0 rfl rfl ?_
  refine q_iconst (v := 0) d_La_feed_2 (by decide) ?_
  refine q_aload_n d_La_feed_3 rfl rfl ?_
  refine q_iload_n d_La_feed_4 rfl ?_
  refine q_lload_n d_La_feed_5 rfl ?_
  refine x_callVc d_La_feed_6 l_La_7 i_S_feed v_S_feed rfl hS hC rfl rfl hfr hlo (by show 0 + rm'.cells ≤ 1; omega) (by show 0 + rm'.slots ≤ 6; omega) (fun z hz => ?_)
  refine q_T.catch1 (ci := 10) rfl ⟨by decide, by decide⟩ (by decide) rfl (q_i 518 (by rfl)) (q_i 525 (by rfl)) q_apx ?_
  refine q_astore d_La_feed_14 rfl (by decide) rfl ?_
  refine q_iconst (v := 1) d_La_feed_16 (by decide) ?_
  refine q_iret d_La_feed_17 rfl ?_ (by show 0 + rm'.cells ≤ 1; omega) (by show 0 + rm'.slots ≤ 6; omega) (by decide)
  exact ⟨z, rfl, rfl, hz⟩
set_option maxRecDepth 10000 in
set_option maxHeartbeats 2000000 in
theorem h_variable_ok (hG : q_GG g) {hp : List va_E} {x y : Int32} {Z : Type} {v : Z → Int32} {H : Z → List va_E} {φ : Z → Prop} {fr' : Bool} {rm' : Room} (hC : q_C g m_S_variable fr' rm' [.ref 0, .int x, .int y] hp (q_rel (fun z => some (.int (v z))) H φ)) (h110 : ∀ z, φ z → ∃ f, (H z)[110]? = some (a_J 1 f)) (hS : ∃ fs, hp[0]? = some (.inr (0, fs))) (hfr : rm'.frames + 1 ≤ 8) (hlo : 2 + (3 + 11) + rm'.locals ≤ 200) (hce : rm'.cells ≤ 1) (hsl : rm'.slots ≤ 6) : q_C g m_La_variable true (q_R 8 200 1 6) [.ref 0, .int x, .int y, .ref 110] hp (h_ok v H φ) := by
  refine q_C.of hG (by decide) (Nat.le_of_ble_eq_true rfl) ?_
  obtain ⟨fs, hS⟩ := hS
  refine q_aload_n d_La_variable_0 rfl rfl ?_
  refine q_iconst (v := 0) d_La_variable_1 (by decide) ?_
  refine q_aload_n d_La_variable_2 rfl rfl ?_
  refine q_iload_n d_La_variable_3 rfl ?_
  refine q_iload_n d_La_variable_4 rfl ?_
  refine x_callVr d_La_variable_5 l_La_15 i_S_variable v_S_variable rfl hS hC rfl rfl hfr hlo (by show 0 + rm'.cells ≤ 1; omega) (by show 0 + rm'.slots ≤ 6; omega) (fun z hz => ?_)
  obtain ⟨f0, h_o⟩ := h110 z hz
  refine q_i2l d_La_variable_8 ?_
  refine x_last d_La_variable_9 h_o rfl (vp_in_nI (n := 0) (by decide) (by decide)) (fun hp1 e1 h_o => ?_)
  refine q_goto (tgt := 17) d_La_variable_10 (by decide) ?_
  refine q_iconst (v := 0) d_La_variable_17 (by decide) ?_
  refine q_iret d_La_variable_18 rfl ?_ (by show 0 + rm'.cells ≤ 1; omega) (by show 0 + rm'.slots ≤ 6; omega) (by decide)
  exact ⟨(z, vp_updL f0 0 (v z).toInt64), rfl, e1, hz, m_updL (f := f0)⟩
set_option maxRecDepth 10000 in
set_option maxHeartbeats 2000000 in
theorem h_variable_e1 (hG : q_GG g) {hp : List va_E} {x y : Int32} {Z : Type} {H : Z → List va_E} {φ : Z → Prop} {fr' : Bool} {rm' : Room} (hC : q_C g m_S_variable fr' rm' [.ref 0, .int x, .int y] hp (q_trl 10 H φ)) (hS : ∃ fs, hp[0]? = some (.inr (0, fs))) (hfr : rm'.frames + 1 ≤ 8) (hlo : 2 + (3 + 11) + rm'.locals ≤ 200) (hce : rm'.cells ≤ 1) (hsl : rm'.slots ≤ 6) : q_C g m_La_variable true (q_R 8 200 1 6) [.ref 0, .int x, .int y, .ref 110] hp (h_er 1 10 H φ) := by
  refine q_C.of hG (by decide) (Nat.le_of_ble_eq_true rfl) ?_
  obtain ⟨fs, hS⟩ := hS
  refine q_aload_n d_La_variable_0 rfl rfl ?_
  refine q_iconst (v := 0) d_La_variable_1 (by decide) ?_
  refine q_aload_n d_La_variable_2 rfl rfl ?_
  refine q_iload_n d_La_variable_3 rfl ?_
  refine q_iload_n d_La_variable_4 rfl ?_
  refine x_callVc d_La_variable_5 l_La_15 i_S_variable v_S_variable rfl hS hC rfl rfl hfr hlo (by show 0 + rm'.cells ≤ 1; omega) (by show 0 + rm'.slots ≤ 6; omega) (fun z hz => ?_)
  refine q_T.catch1 (ci := 10) rfl ⟨by decide, by decide⟩ (by decide) rfl (q_i 518 (by rfl)) (q_i 525 (by rfl)) q_apx ?_
  refine q_astore d_La_variable_13 rfl (by decide) rfl ?_
  refine q_iconst (v := 1) d_La_variable_15 (by decide) ?_
  refine q_iret d_La_variable_16 rfl ?_ (by show 0 + rm'.cells ≤ 1; omega) (by show 0 + rm'.slots ≤ 6; omega) (by decide)
  exact ⟨z, rfl, rfl, hz⟩
set_option maxRecDepth 10000 in
set_option maxHeartbeats 2000000 in
theorem h_told_ok (hG : q_GG g) {hp : List va_E} {x y : Int32} {Z : Type} {v : Z → Int32} {H : Z → List va_E} {φ : Z → Prop} {fr' : Bool} {rm' : Room} (hC : q_C g m_S_told fr' rm' [.ref 0, .int x, .int y] hp (q_rel (fun z => some (.int (v z))) H φ)) (h110 : ∀ z, φ z → ∃ f, (H z)[110]? = some (a_J 1 f)) (hS : ∃ fs, hp[0]? = some (.inr (0, fs))) (hfr : rm'.frames + 1 ≤ 8) (hlo : 2 + (4 + 11) + rm'.locals ≤ 200) (hce : rm'.cells ≤ 1) (hsl : rm'.slots ≤ 6) : q_C g m_La_told true (q_R 8 200 1 6) [.ref 0, .int x, .int y, .ref 110] hp (h_ok v H φ) := by
  refine q_C.of hG (by decide) (Nat.le_of_ble_eq_true rfl) ?_
  obtain ⟨fs, hS⟩ := hS
  refine q_aload_n d_La_told_0 rfl rfl ?_
  refine q_iconst (v := 0) d_La_told_1 (by decide) ?_
  refine q_aload_n d_La_told_2 rfl rfl ?_
  refine q_iload_n d_La_told_3 rfl ?_
  refine q_iload_n d_La_told_4 rfl ?_
  refine x_callVr d_La_told_5 l_La_19 i_S_told v_S_told rfl hS hC rfl rfl hfr hlo (by show 0 + rm'.cells ≤ 1; omega) (by show 0 + rm'.slots ≤ 6; omega) (fun z hz => ?_)
  obtain ⟨f0, h_o⟩ := h110 z hz
  refine q_i2l d_La_told_8 ?_
  refine x_last d_La_told_9 h_o rfl (vp_in_nI (n := 0) (by decide) (by decide)) (fun hp1 e1 h_o => ?_)
  refine q_goto (tgt := 21) d_La_told_10 (by decide) ?_
  refine q_iconst (v := 0) d_La_told_21 (by decide) ?_
  refine q_iret d_La_told_22 rfl ?_ (by show 0 + rm'.cells ≤ 1; omega) (by show 0 + rm'.slots ≤ 6; omega) (by decide)
  exact ⟨(z, vp_updL f0 0 (v z).toInt64), rfl, e1, hz, m_updL (f := f0)⟩
set_option maxRecDepth 10000 in
set_option maxHeartbeats 2000000 in
theorem h_told_e1 (hG : q_GG g) {hp : List va_E} {x y : Int32} {Z : Type} {H : Z → List va_E} {φ : Z → Prop} {fr' : Bool} {rm' : Room} (hC : q_C g m_S_told fr' rm' [.ref 0, .int x, .int y] hp (q_trl 11 H φ)) (hS : ∃ fs, hp[0]? = some (.inr (0, fs))) (hfr : rm'.frames + 1 ≤ 8) (hlo : 2 + (4 + 11) + rm'.locals ≤ 200) (hce : rm'.cells ≤ 1) (hsl : rm'.slots ≤ 6) : q_C g m_La_told true (q_R 8 200 1 6) [.ref 0, .int x, .int y, .ref 110] hp (h_er 1 11 H φ) := by
  refine q_C.of hG (by decide) (Nat.le_of_ble_eq_true rfl) ?_
  obtain ⟨fs, hS⟩ := hS
  refine q_aload_n d_La_told_0 rfl rfl ?_
  refine q_iconst (v := 0) d_La_told_1 (by decide) ?_
  refine q_aload_n d_La_told_2 rfl rfl ?_
  refine q_iload_n d_La_told_3 rfl ?_
  refine q_iload_n d_La_told_4 rfl ?_
  refine x_callVc d_La_told_5 l_La_19 i_S_told v_S_told rfl hS hC rfl rfl hfr hlo (by show 0 + rm'.cells ≤ 1; omega) (by show 0 + rm'.slots ≤ 6; omega) (fun z hz => ?_)
  refine q_T.catch1 (ci := 11) rfl ⟨by decide, by decide⟩ (by decide) rfl (q_i 609 (by rfl)) (q_i 619 (by rfl)) q_apx ?_
  refine q_astore d_La_told_13 rfl (by decide) rfl ?_
  refine q_iconst (v := 1) d_La_told_15 (by decide) ?_
  refine q_iret d_La_told_16 rfl ?_ (by show 0 + rm'.cells ≤ 1; omega) (by show 0 + rm'.slots ≤ 6; omega) (by decide)
  exact ⟨z, rfl, rfl, hz⟩
set_option maxRecDepth 10000 in
set_option maxHeartbeats 2000000 in
theorem h_told_e2 (hG : q_GG g) {hp : List va_E} {x y : Int32} {Z : Type} {H : Z → List va_E} {φ : Z → Prop} {fr' : Bool} {rm' : Room} (hno : (q_s g).vm.assignable ((q_D g).1 10) ((q_D g).1 11) = false) (hC : q_C g m_S_told fr' rm' [.ref 0, .int x, .int y] hp (q_trl 10 H φ)) (hS : ∃ fs, hp[0]? = some (.inr (0, fs))) (hfr : rm'.frames + 1 ≤ 8) (hlo : 2 + (4 + 11) + rm'.locals ≤ 200) (hce : rm'.cells ≤ 1) (hsl : rm'.slots ≤ 6) : q_C g m_La_told true (q_R 8 200 1 6) [.ref 0, .int x, .int y, .ref 110] hp (h_er 2 10 H φ) := by
  refine q_C.of hG (by decide) (Nat.le_of_ble_eq_true rfl) ?_
  obtain ⟨fs, hS⟩ := hS
  refine q_aload_n d_La_told_0 rfl rfl ?_
  refine q_iconst (v := 0) d_La_told_1 (by decide) ?_
  refine q_aload_n d_La_told_2 rfl rfl ?_
  refine q_iload_n d_La_told_3 rfl ?_
  refine q_iload_n d_La_told_4 rfl ?_
  refine x_callVc d_La_told_5 l_La_19 i_S_told v_S_told rfl hS hC rfl rfl hfr hlo (by show 0 + rm'.cells ≤ 1; omega) (by show 0 + rm'.slots ≤ 6; omega) (fun z hz => ?_)
  refine q_T.catch2 (ci := 10) (cj := 11) rfl ⟨by decide, by decide⟩ (by decide) (by decide) rfl rfl (q_i 609 (by rfl)) hno (q_i 518 (by rfl)) (q_i 525 (by rfl)) q_apx ?_
  refine q_astore d_La_told_17 rfl (by decide) rfl ?_
  refine q_iconst (v := 2) d_La_told_19 (by decide) ?_
  refine q_iret d_La_told_20 rfl ?_ (by show 0 + rm'.cells ≤ 1; omega) (by show 0 + rm'.slots ≤ 6; omega) (by decide)
  exact ⟨z, rfl, rfl, hz⟩
set_option maxRecDepth 10000 in
set_option maxHeartbeats 2000000 in
theorem h_place_ok (hG : q_GG g) {hp : List va_E} {x y : Int32} {Z : Type} {v : Z → Int32} {H : Z → List va_E} {φ : Z → Prop} {fr' : Bool} {rm' : Room} (hC : q_C g m_S_place fr' rm' [.ref 0, .int x, .int y] hp (q_rel (fun z => some (.int (v z))) H φ)) (h110 : ∀ z, φ z → ∃ f, (H z)[110]? = some (a_J 1 f)) (hS : ∃ fs, hp[0]? = some (.inr (0, fs))) (hfr : rm'.frames + 1 ≤ 8) (hlo : 2 + (3 + 11) + rm'.locals ≤ 200) (hce : rm'.cells ≤ 1) (hsl : rm'.slots ≤ 6) : q_C g m_La_place true (q_R 8 200 1 6) [.ref 0, .int x, .int y, .ref 110] hp (h_ok v H φ) := by
  refine q_C.of hG (by decide) (Nat.le_of_ble_eq_true rfl) ?_
  obtain ⟨fs, hS⟩ := hS
  refine q_aload_n d_La_place_0 rfl rfl ?_
  refine q_iconst (v := 0) d_La_place_1 (by decide) ?_
  refine q_aload_n d_La_place_2 rfl rfl ?_
  refine q_iload_n d_La_place_3 rfl ?_
  refine q_iload_n d_La_place_4 rfl ?_
  refine x_callVr d_La_place_5 l_La_24 i_S_place v_S_place rfl hS hC rfl rfl hfr hlo (by show 0 + rm'.cells ≤ 1; omega) (by show 0 + rm'.slots ≤ 6; omega) (fun z hz => ?_)
  obtain ⟨f0, h_o⟩ := h110 z hz
  refine q_i2l d_La_place_8 ?_
  refine x_last d_La_place_9 h_o rfl (vp_in_nI (n := 0) (by decide) (by decide)) (fun hp1 e1 h_o => ?_)
  refine q_goto (tgt := 21) d_La_place_10 (by decide) ?_
  refine q_iconst (v := 0) d_La_place_21 (by decide) ?_
  refine q_iret d_La_place_22 rfl ?_ (by show 0 + rm'.cells ≤ 1; omega) (by show 0 + rm'.slots ≤ 6; omega) (by decide)
  exact ⟨(z, vp_updL f0 0 (v z).toInt64), rfl, e1, hz, m_updL (f := f0)⟩
set_option maxRecDepth 10000 in
set_option maxHeartbeats 2000000 in
theorem h_place_e1 (hG : q_GG g) {hp : List va_E} {x y : Int32} {Z : Type} {H : Z → List va_E} {φ : Z → Prop} {fr' : Bool} {rm' : Room} (hC : q_C g m_S_place fr' rm' [.ref 0, .int x, .int y] hp (q_trl 12 H φ)) (hS : ∃ fs, hp[0]? = some (.inr (0, fs))) (hfr : rm'.frames + 1 ≤ 8) (hlo : 2 + (3 + 11) + rm'.locals ≤ 200) (hce : rm'.cells ≤ 1) (hsl : rm'.slots ≤ 6) : q_C g m_La_place true (q_R 8 200 1 6) [.ref 0, .int x, .int y, .ref 110] hp (h_er 1 12 H φ) := by
  refine q_C.of hG (by decide) (Nat.le_of_ble_eq_true rfl) ?_
  obtain ⟨fs, hS⟩ := hS
  refine q_aload_n d_La_place_0 rfl rfl ?_
  refine q_iconst (v := 0) d_La_place_1 (by decide) ?_
  refine q_aload_n d_La_place_2 rfl rfl ?_
  refine q_iload_n d_La_place_3 rfl ?_
  refine q_iload_n d_La_place_4 rfl ?_
  refine x_callVc d_La_place_5 l_La_24 i_S_place v_S_place rfl hS hC rfl rfl hfr hlo (by show 0 + rm'.cells ≤ 1; omega) (by show 0 + rm'.slots ≤ 6; omega) (fun z hz => ?_)
  refine q_T.catch1 (ci := 12) rfl ⟨by decide, by decide⟩ (by decide) rfl (q_i 642 (by rfl)) (q_i 653 (by rfl)) q_apx ?_
  refine q_astore d_La_place_13 rfl (by decide) rfl ?_
  refine q_iconst (v := 1) d_La_place_15 (by decide) ?_
  refine q_iret d_La_place_16 rfl ?_ (by show 0 + rm'.cells ≤ 1; omega) (by show 0 + rm'.slots ≤ 6; omega) (by decide)
  exact ⟨z, rfl, rfl, hz⟩
set_option maxRecDepth 10000 in
set_option maxHeartbeats 2000000 in
theorem h_place_e2 (hG : q_GG g) {hp : List va_E} {x y : Int32} {Z : Type} {H : Z → List va_E} {φ : Z → Prop} {fr' : Bool} {rm' : Room} (hno : (q_s g).vm.assignable ((q_D g).1 11) ((q_D g).1 12) = false) (hC : q_C g m_S_place fr' rm' [.ref 0, .int x, .int y] hp (q_trl 11 H φ)) (hS : ∃ fs, hp[0]? = some (.inr (0, fs))) (hfr : rm'.frames + 1 ≤ 8) (hlo : 2 + (3 + 11) + rm'.locals ≤ 200) (hce : rm'.cells ≤ 1) (hsl : rm'.slots ≤ 6) : q_C g m_La_place true (q_R 8 200 1 6) [.ref 0, .int x, .int y, .ref 110] hp (h_er 2 11 H φ) := by
  refine q_C.of hG (by decide) (Nat.le_of_ble_eq_true rfl) ?_
  obtain ⟨fs, hS⟩ := hS
  refine q_aload_n d_La_place_0 rfl rfl ?_
  refine q_iconst (v := 0) d_La_place_1 (by decide) ?_
  refine q_aload_n d_La_place_2 rfl rfl ?_
  refine q_iload_n d_La_place_3 rfl ?_
  refine q_iload_n d_La_place_4 rfl ?_
  refine x_callVc d_La_place_5 l_La_24 i_S_place v_S_place rfl hS hC rfl rfl hfr hlo (by show 0 + rm'.cells ≤ 1; omega) (by show 0 + rm'.slots ≤ 6; omega) (fun z hz => ?_)
  refine q_T.catch2 (ci := 11) (cj := 12) rfl ⟨by decide, by decide⟩ (by decide) (by decide) rfl rfl (q_i 642 (by rfl)) hno (q_i 609 (by rfl)) (q_i 619 (by rfl)) q_apx ?_
  refine q_astore d_La_place_17 rfl (by decide) rfl ?_
  refine q_iconst (v := 2) d_La_place_19 (by decide) ?_
  refine q_iret d_La_place_20 rfl ?_ (by show 0 + rm'.cells ≤ 1; omega) (by show 0 + rm'.slots ≤ 6; omega) (by decide)
  exact ⟨z, rfl, rfl, hz⟩
set_option maxRecDepth 10000 in
set_option maxHeartbeats 2000000 in
theorem h_value_ok (hG : q_GG g) {hp : List va_E} {x y : Int32} {Z : Type} {v : Z → Int32} {H : Z → List va_E} {φ : Z → Prop} {fr' : Bool} {rm' : Room} (hC : q_C g m_S_value fr' rm' [.ref 0, .int x, .int y] hp (q_rel (fun z => some (.int (v z))) H φ)) (h110 : ∀ z, φ z → ∃ f, (H z)[110]? = some (a_J 1 f)) (hS : ∃ fs, hp[0]? = some (.inr (0, fs))) (hfr : rm'.frames + 1 ≤ 8) (hlo : 2 + (3 + 11) + rm'.locals ≤ 200) (hce : rm'.cells ≤ 1) (hsl : rm'.slots ≤ 6) : q_C g m_La_value true (q_R 8 200 1 6) [.ref 0, .int x, .int y, .ref 110] hp (h_ok v H φ) := by
  refine q_C.of hG (by decide) (Nat.le_of_ble_eq_true rfl) ?_
  obtain ⟨fs, hS⟩ := hS
  refine q_aload_n d_La_value_0 rfl rfl ?_
  refine q_iconst (v := 0) d_La_value_1 (by decide) ?_
  refine q_aload_n d_La_value_2 rfl rfl ?_
  refine q_iload_n d_La_value_3 rfl ?_
  refine q_iload_n d_La_value_4 rfl ?_
  refine x_callVr d_La_value_5 l_La_29 i_S_value v_S_value rfl hS hC rfl rfl hfr hlo (by show 0 + rm'.cells ≤ 1; omega) (by show 0 + rm'.slots ≤ 6; omega) (fun z hz => ?_)
  obtain ⟨f0, h_o⟩ := h110 z hz
  refine q_i2l d_La_value_8 ?_
  refine x_last d_La_value_9 h_o rfl (vp_in_nI (n := 0) (by decide) (by decide)) (fun hp1 e1 h_o => ?_)
  refine q_goto (tgt := 21) d_La_value_10 (by decide) ?_
  refine q_iconst (v := 0) d_La_value_21 (by decide) ?_
  refine q_iret d_La_value_22 rfl ?_ (by show 0 + rm'.cells ≤ 1; omega) (by show 0 + rm'.slots ≤ 6; omega) (by decide)
  exact ⟨(z, vp_updL f0 0 (v z).toInt64), rfl, e1, hz, m_updL (f := f0)⟩
set_option maxRecDepth 10000 in
set_option maxHeartbeats 2000000 in
theorem h_value_e1 (hG : q_GG g) {hp : List va_E} {x y : Int32} {Z : Type} {H : Z → List va_E} {φ : Z → Prop} {fr' : Bool} {rm' : Room} (hC : q_C g m_S_value fr' rm' [.ref 0, .int x, .int y] hp (q_trl 12 H φ)) (hS : ∃ fs, hp[0]? = some (.inr (0, fs))) (hfr : rm'.frames + 1 ≤ 8) (hlo : 2 + (3 + 11) + rm'.locals ≤ 200) (hce : rm'.cells ≤ 1) (hsl : rm'.slots ≤ 6) : q_C g m_La_value true (q_R 8 200 1 6) [.ref 0, .int x, .int y, .ref 110] hp (h_er 1 12 H φ) := by
  refine q_C.of hG (by decide) (Nat.le_of_ble_eq_true rfl) ?_
  obtain ⟨fs, hS⟩ := hS
  refine q_aload_n d_La_value_0 rfl rfl ?_
  refine q_iconst (v := 0) d_La_value_1 (by decide) ?_
  refine q_aload_n d_La_value_2 rfl rfl ?_
  refine q_iload_n d_La_value_3 rfl ?_
  refine q_iload_n d_La_value_4 rfl ?_
  refine x_callVc d_La_value_5 l_La_29 i_S_value v_S_value rfl hS hC rfl rfl hfr hlo (by show 0 + rm'.cells ≤ 1; omega) (by show 0 + rm'.slots ≤ 6; omega) (fun z hz => ?_)
  refine q_T.catch1 (ci := 12) rfl ⟨by decide, by decide⟩ (by decide) rfl (q_i 642 (by rfl)) (q_i 653 (by rfl)) q_apx ?_
  refine q_astore d_La_value_13 rfl (by decide) rfl ?_
  refine q_iconst (v := 1) d_La_value_15 (by decide) ?_
  refine q_iret d_La_value_16 rfl ?_ (by show 0 + rm'.cells ≤ 1; omega) (by show 0 + rm'.slots ≤ 6; omega) (by decide)
  exact ⟨z, rfl, rfl, hz⟩
set_option maxRecDepth 10000 in
set_option maxHeartbeats 2000000 in
theorem h_value_e2 (hG : q_GG g) {hp : List va_E} {x y : Int32} {Z : Type} {H : Z → List va_E} {φ : Z → Prop} {fr' : Bool} {rm' : Room} (hno : (q_s g).vm.assignable ((q_D g).1 11) ((q_D g).1 12) = false) (hC : q_C g m_S_value fr' rm' [.ref 0, .int x, .int y] hp (q_trl 11 H φ)) (hS : ∃ fs, hp[0]? = some (.inr (0, fs))) (hfr : rm'.frames + 1 ≤ 8) (hlo : 2 + (3 + 11) + rm'.locals ≤ 200) (hce : rm'.cells ≤ 1) (hsl : rm'.slots ≤ 6) : q_C g m_La_value true (q_R 8 200 1 6) [.ref 0, .int x, .int y, .ref 110] hp (h_er 2 11 H φ) := by
  refine q_C.of hG (by decide) (Nat.le_of_ble_eq_true rfl) ?_
  obtain ⟨fs, hS⟩ := hS
  refine q_aload_n d_La_value_0 rfl rfl ?_
  refine q_iconst (v := 0) d_La_value_1 (by decide) ?_
  refine q_aload_n d_La_value_2 rfl rfl ?_
  refine q_iload_n d_La_value_3 rfl ?_
  refine q_iload_n d_La_value_4 rfl ?_
  refine x_callVc d_La_value_5 l_La_29 i_S_value v_S_value rfl hS hC rfl rfl hfr hlo (by show 0 + rm'.cells ≤ 1; omega) (by show 0 + rm'.slots ≤ 6; omega) (fun z hz => ?_)
  refine q_T.catch2 (ci := 11) (cj := 12) rfl ⟨by decide, by decide⟩ (by decide) (by decide) rfl rfl (q_i 642 (by rfl)) hno (q_i 609 (by rfl)) (q_i 619 (by rfl)) q_apx ?_
  refine q_astore d_La_value_17 rfl (by decide) rfl ?_
  refine q_iconst (v := 2) d_La_value_19 (by decide) ?_
  refine q_iret d_La_value_20 rfl ?_ (by show 0 + rm'.cells ≤ 1; omega) (by show 0 + rm'.slots ≤ 6; omega) (by decide)
  exact ⟨z, rfl, rfl, hz⟩
set_option maxRecDepth 10000 in
set_option maxHeartbeats 2000000 in
theorem h_move_ok (hG : q_GG g) {hp : List va_E} {x : Int32} {Z : Type} {v : Z → Int32} {H : Z → List va_E} {φ : Z → Prop} {fr' : Bool} {rm' : Room} (hC : q_C g m_S_move fr' rm' [.ref 0, .int x] hp (q_rel (fun z => some (.int (v z))) H φ)) (h110 : ∀ z, φ z → ∃ f, (H z)[110]? = some (a_J 1 f)) (hS : ∃ fs, hp[0]? = some (.inr (0, fs))) (hfr : rm'.frames + 1 ≤ 8) (hlo : 2 + (7 + 11) + rm'.locals ≤ 200) (hce : rm'.cells ≤ 1) (hsl : rm'.slots ≤ 6) : q_C g m_La_move true (q_R 8 200 1 6) [.ref 0, .int x, .ref 110] hp (h_ok v H φ) := by
  refine q_C.of hG (by decide) (Nat.le_of_ble_eq_true rfl) ?_
  obtain ⟨fs, hS⟩ := hS
  refine q_aload_n d_La_move_0 rfl rfl ?_
  refine q_iconst (v := 0) d_La_move_1 (by decide) ?_
  refine q_aload_n d_La_move_2 rfl rfl ?_
  refine q_iload_n d_La_move_3 rfl ?_
  refine x_callVr d_La_move_4 l_La_32 i_S_move v_S_move rfl hS hC rfl rfl hfr hlo (by show 0 + rm'.cells ≤ 1; omega) (by show 0 + rm'.slots ≤ 6; omega) (fun z hz => ?_)
  obtain ⟨f0, h_o⟩ := h110 z hz
  refine q_i2l d_La_move_7 ?_
  refine x_last d_La_move_8 h_o rfl (vp_in_nI (n := 0) (by decide) (by decide)) (fun hp1 e1 h_o => ?_)
  refine q_goto (tgt := 15) d_La_move_9 (by decide) ?_
  refine q_iconst (v := 0) d_La_move_15 (by decide) ?_
  refine q_iret d_La_move_16 rfl ?_ (by show 0 + rm'.cells ≤ 1; omega) (by show 0 + rm'.slots ≤ 6; omega) (by decide)
  exact ⟨(z, vp_updL f0 0 (v z).toInt64), rfl, e1, hz, m_updL (f := f0)⟩
set_option maxRecDepth 10000 in
set_option maxHeartbeats 2000000 in
theorem h_move_e1 (hG : q_GG g) {hp : List va_E} {x : Int32} {Z : Type} {H : Z → List va_E} {φ : Z → Prop} {fr' : Bool} {rm' : Room} (hC : q_C g m_S_move fr' rm' [.ref 0, .int x] hp (q_trl 11 H φ)) (hS : ∃ fs, hp[0]? = some (.inr (0, fs))) (hfr : rm'.frames + 1 ≤ 8) (hlo : 2 + (7 + 11) + rm'.locals ≤ 200) (hce : rm'.cells ≤ 1) (hsl : rm'.slots ≤ 6) : q_C g m_La_move true (q_R 8 200 1 6) [.ref 0, .int x, .ref 110] hp (h_er 1 11 H φ) := by
  refine q_C.of hG (by decide) (Nat.le_of_ble_eq_true rfl) ?_
  obtain ⟨fs, hS⟩ := hS
  refine q_aload_n d_La_move_0 rfl rfl ?_
  refine q_iconst (v := 0) d_La_move_1 (by decide) ?_
  refine q_aload_n d_La_move_2 rfl rfl ?_
  refine q_iload_n d_La_move_3 rfl ?_
  refine x_callVc d_La_move_4 l_La_32 i_S_move v_S_move rfl hS hC rfl rfl hfr hlo (by show 0 + rm'.cells ≤ 1; omega) (by show 0 + rm'.slots ≤ 6; omega) (fun z hz => ?_)
  refine q_T.catch1 (ci := 11) rfl ⟨by decide, by decide⟩ (by decide) rfl (q_i 609 (by rfl)) (q_i 619 (by rfl)) q_apx ?_
  refine q_astore_n d_La_move_12 rfl rfl (by decide) rfl ?_
  refine q_iconst (v := 1) d_La_move_13 (by decide) ?_
  refine q_iret d_La_move_14 rfl ?_ (by show 0 + rm'.cells ≤ 1; omega) (by show 0 + rm'.slots ≤ 6; omega) (by decide)
  exact ⟨z, rfl, rfl, hz⟩
set_option maxRecDepth 10000 in
set_option maxHeartbeats 2000000 in
theorem h_now_ok (hG : q_GG g) {hp : List va_E} {x : Int32} {Z : Type} {v : Z → Int32} {H : Z → List va_E} {φ : Z → Prop} {fr' : Bool} {rm' : Room} (hC : q_C g m_S_now fr' rm' [.ref 0, .int x] hp (q_rel (fun z => some (.int (v z))) H φ)) (h110 : ∀ z, φ z → ∃ f, (H z)[110]? = some (a_J 1 f)) (hS : ∃ fs, hp[0]? = some (.inr (0, fs))) (hfr : rm'.frames + 1 ≤ 8) (hlo : 2 + (2 + 11) + rm'.locals ≤ 200) (hce : rm'.cells ≤ 1) (hsl : rm'.slots ≤ 6) : q_C g m_La_now true (q_R 8 200 1 6) [.ref 0, .int x, .ref 110] hp (h_ok v H φ) := by
  refine q_C.of hG (by decide) (Nat.le_of_ble_eq_true rfl) ?_
  obtain ⟨fs, hS⟩ := hS
  refine q_aload_n d_La_now_0 rfl rfl ?_
  refine q_iconst (v := 0) d_La_now_1 (by decide) ?_
  refine q_aload_n d_La_now_2 rfl rfl ?_
  refine q_iload_n d_La_now_3 rfl ?_
  refine x_callVr d_La_now_4 l_La_36 i_S_now v_S_now rfl hS hC rfl rfl hfr hlo (by show 0 + rm'.cells ≤ 1; omega) (by show 0 + rm'.slots ≤ 6; omega) (fun z hz => ?_)
  obtain ⟨f0, h_o⟩ := h110 z hz
  refine q_i2l d_La_now_7 ?_
  refine x_last d_La_now_8 h_o rfl (vp_in_nI (n := 0) (by decide) (by decide)) (fun hp1 e1 h_o => ?_)
  refine q_goto (tgt := 15) d_La_now_9 (by decide) ?_
  refine q_iconst (v := 0) d_La_now_15 (by decide) ?_
  refine q_iret d_La_now_16 rfl ?_ (by show 0 + rm'.cells ≤ 1; omega) (by show 0 + rm'.slots ≤ 6; omega) (by decide)
  exact ⟨(z, vp_updL f0 0 (v z).toInt64), rfl, e1, hz, m_updL (f := f0)⟩
set_option maxRecDepth 10000 in
set_option maxHeartbeats 2000000 in
theorem h_now_e1 (hG : q_GG g) {hp : List va_E} {x : Int32} {Z : Type} {H : Z → List va_E} {φ : Z → Prop} {fr' : Bool} {rm' : Room} (hC : q_C g m_S_now fr' rm' [.ref 0, .int x] hp (q_trl 11 H φ)) (hS : ∃ fs, hp[0]? = some (.inr (0, fs))) (hfr : rm'.frames + 1 ≤ 8) (hlo : 2 + (2 + 11) + rm'.locals ≤ 200) (hce : rm'.cells ≤ 1) (hsl : rm'.slots ≤ 6) : q_C g m_La_now true (q_R 8 200 1 6) [.ref 0, .int x, .ref 110] hp (h_er 1 11 H φ) := by
  refine q_C.of hG (by decide) (Nat.le_of_ble_eq_true rfl) ?_
  obtain ⟨fs, hS⟩ := hS
  refine q_aload_n d_La_now_0 rfl rfl ?_
  refine q_iconst (v := 0) d_La_now_1 (by decide) ?_
  refine q_aload_n d_La_now_2 rfl rfl ?_
  refine q_iload_n d_La_now_3 rfl ?_
  refine x_callVc d_La_now_4 l_La_36 i_S_now v_S_now rfl hS hC rfl rfl hfr hlo (by show 0 + rm'.cells ≤ 1; omega) (by show 0 + rm'.slots ≤ 6; omega) (fun z hz => ?_)
  refine q_T.catch1 (ci := 11) rfl ⟨by decide, by decide⟩ (by decide) rfl (q_i 609 (by rfl)) (q_i 619 (by rfl)) q_apx ?_
  refine q_astore_n d_La_now_12 rfl rfl (by decide) rfl ?_
  refine q_iconst (v := 1) d_La_now_13 (by decide) ?_
  refine q_iret d_La_now_14 rfl ?_ (by show 0 + rm'.cells ≤ 1; omega) (by show 0 + rm'.slots ≤ 6; omega) (by decide)
  exact ⟨z, rfl, rfl, hz⟩
set_option maxRecDepth 10000 in
set_option maxHeartbeats 2000000 in
theorem h_has_ok (hG : q_GG g) {hp : List va_E} {x : Int32} {Z : Type} {v : Z → Int32} {H : Z → List va_E} {φ : Z → Prop} {fr' : Bool} {rm' : Room} (hC : q_C g m_S_has fr' rm' [.ref 0, .int x] hp (q_rel (fun z => some (.int (v z))) H φ)) (h110 : ∀ z, φ z → ∃ f, (H z)[110]? = some (a_J 1 f)) (hS : ∃ fs, hp[0]? = some (.inr (0, fs))) (hfr : rm'.frames + 1 ≤ 8) (hlo : 2 + (2 + 11) + rm'.locals ≤ 200) (hce : rm'.cells ≤ 1) (hsl : rm'.slots ≤ 6) : q_C g m_La_has true (q_R 8 200 1 6) [.ref 0, .int x, .ref 110] hp (h_ok v H φ) := by
  refine q_C.of hG (by decide) (Nat.le_of_ble_eq_true rfl) ?_
  obtain ⟨fs, hS⟩ := hS
  refine q_aload_n d_La_has_0 rfl rfl ?_
  refine q_iconst (v := 0) d_La_has_1 (by decide) ?_
  refine q_aload_n d_La_has_2 rfl rfl ?_
  refine q_iload_n d_La_has_3 rfl ?_
  refine x_callVr d_La_has_4 l_La_39 i_S_has v_S_has rfl hS hC rfl rfl hfr hlo (by show 0 + rm'.cells ≤ 1; omega) (by show 0 + rm'.slots ≤ 6; omega) (fun z hz => ?_)
  obtain ⟨f0, h_o⟩ := h110 z hz
  refine q_i2l d_La_has_7 ?_
  refine x_last d_La_has_8 h_o rfl (vp_in_nI (n := 0) (by decide) (by decide)) (fun hp1 e1 h_o => ?_)
  refine q_goto (tgt := 15) d_La_has_9 (by decide) ?_
  refine q_iconst (v := 0) d_La_has_15 (by decide) ?_
  refine q_iret d_La_has_16 rfl ?_ (by show 0 + rm'.cells ≤ 1; omega) (by show 0 + rm'.slots ≤ 6; omega) (by decide)
  exact ⟨(z, vp_updL f0 0 (v z).toInt64), rfl, e1, hz, m_updL (f := f0)⟩
set_option maxRecDepth 10000 in
set_option maxHeartbeats 2000000 in
theorem h_has_e1 (hG : q_GG g) {hp : List va_E} {x : Int32} {Z : Type} {H : Z → List va_E} {φ : Z → Prop} {fr' : Bool} {rm' : Room} (hC : q_C g m_S_has fr' rm' [.ref 0, .int x] hp (q_trl 11 H φ)) (hS : ∃ fs, hp[0]? = some (.inr (0, fs))) (hfr : rm'.frames + 1 ≤ 8) (hlo : 2 + (2 + 11) + rm'.locals ≤ 200) (hce : rm'.cells ≤ 1) (hsl : rm'.slots ≤ 6) : q_C g m_La_has true (q_R 8 200 1 6) [.ref 0, .int x, .ref 110] hp (h_er 1 11 H φ) := by
  refine q_C.of hG (by decide) (Nat.le_of_ble_eq_true rfl) ?_
  obtain ⟨fs, hS⟩ := hS
  refine q_aload_n d_La_has_0 rfl rfl ?_
  refine q_iconst (v := 0) d_La_has_1 (by decide) ?_
  refine q_aload_n d_La_has_2 rfl rfl ?_
  refine q_iload_n d_La_has_3 rfl ?_
  refine x_callVc d_La_has_4 l_La_39 i_S_has v_S_has rfl hS hC rfl rfl hfr hlo (by show 0 + rm'.cells ≤ 1; omega) (by show 0 + rm'.slots ≤ 6; omega) (fun z hz => ?_)
  refine q_T.catch1 (ci := 11) rfl ⟨by decide, by decide⟩ (by decide) rfl (q_i 609 (by rfl)) (q_i 619 (by rfl)) q_apx ?_
  refine q_astore_n d_La_has_12 rfl rfl (by decide) rfl ?_
  refine q_iconst (v := 1) d_La_has_13 (by decide) ?_
  refine q_iret d_La_has_14 rfl ?_ (by show 0 + rm'.cells ≤ 1; omega) (by show 0 + rm'.slots ≤ 6; omega) (by decide)
  exact ⟨z, rfl, rfl, hz⟩
set_option maxRecDepth 10000 in
set_option maxHeartbeats 2000000 in
theorem h_falls_ok (hG : q_GG g) {hp : List va_E} {Z : Type} {v : Z → Int32} {H : Z → List va_E} {φ : Z → Prop} {fr' : Bool} {rm' : Room} (hC : q_C g m_S_falls fr' rm' [.ref 0] hp (q_rel (fun z => some (.int (v z))) H φ)) (h110 : ∀ z, φ z → ∃ f, (H z)[110]? = some (a_J 1 f)) (hb : ∀ z, v z = 0 ∨ v z = 1) (hS : ∃ fs, hp[0]? = some (.inr (0, fs))) (hfr : rm'.frames + 1 ≤ 8) (hlo : 2 + (1 + 11) + rm'.locals ≤ 200) (hce : rm'.cells ≤ 1) (hsl : rm'.slots ≤ 6) : q_C g m_La_falls true (q_R 8 200 1 6) [.ref 0, .ref 110] hp (h_ok v H φ) := by
  refine q_C.of hG (by decide) (Nat.le_of_ble_eq_true rfl) ?_
  obtain ⟨fs, hS⟩ := hS
  refine q_aload_n d_La_falls_0 rfl rfl ?_
  refine q_iconst (v := 0) d_La_falls_1 (by decide) ?_
  refine q_aload_n d_La_falls_2 rfl rfl ?_
  refine x_callVr d_La_falls_3 l_La_42 i_S_falls v_S_falls rfl hS hC rfl rfl hfr hlo (by show 0 + rm'.cells ≤ 1; omega) (by show 0 + rm'.slots ≤ 6; omega) (fun z hz => ?_)
  obtain ⟨f0, h_o⟩ := h110 z hz
  refine q_if_eq (tgt := 13) d_La_falls_6 (by decide) (fun b6 => ?_) (fun b6 => ?_)
  · skip
    have hv : v z = 0 := b6
    refine q_lconst (v := 0) d_La_falls_13 (by decide) ?_
    refine x_last d_La_falls_14 h_o rfl (vp_in_nI (n := 0) (by decide) (by decide)) (fun hp1 e1 h_o => ?_)
    refine q_goto (tgt := 21) d_La_falls_15 (by decide) ?_
    refine q_iconst (v := 0) d_La_falls_21 (by decide) ?_
    refine q_iret d_La_falls_22 rfl ?_ (by show 0 + rm'.cells ≤ 1; omega) (by show 0 + rm'.slots ≤ 6; omega) (by decide)
    first
      | exact ⟨(z, vp_updL f0 0 1), rfl, e1, hz, by show vp_updL f0 0 1 0 = (v z).toInt64; rw [hv]; exact m_updL⟩
      | exact ⟨(z, vp_updL f0 0 0), rfl, e1, hz, by show vp_updL f0 0 0 0 = (v z).toInt64; rw [hv]; exact m_updL⟩
  · skip
    have hv : v z = 1 := (hb z).resolve_left b6
    refine q_lconst (v := 1) d_La_falls_9 (by decide) ?_
    refine q_goto (tgt := 14) d_La_falls_10 (by decide) ?_
    refine x_last d_La_falls_14 h_o rfl (vp_in_nI (n := 0) (by decide) (by decide)) (fun hp2 e1 h_o => ?_)
    refine q_goto (tgt := 21) d_La_falls_15 (by decide) ?_
    refine q_iconst (v := 0) d_La_falls_21 (by decide) ?_
    refine q_iret d_La_falls_22 rfl ?_ (by show 0 + rm'.cells ≤ 1; omega) (by show 0 + rm'.slots ≤ 6; omega) (by decide)
    first
      | exact ⟨(z, vp_updL f0 0 1), rfl, e1, hz, by show vp_updL f0 0 1 0 = (v z).toInt64; rw [hv]; exact m_updL⟩
      | exact ⟨(z, vp_updL f0 0 0), rfl, e1, hz, by show vp_updL f0 0 0 0 = (v z).toInt64; rw [hv]; exact m_updL⟩
set_option maxRecDepth 10000 in
set_option maxHeartbeats 2000000 in
theorem h_falls_e1 (hG : q_GG g) {hp : List va_E} {Z : Type} {H : Z → List va_E} {φ : Z → Prop} {fr' : Bool} {rm' : Room} (hC : q_C g m_S_falls fr' rm' [.ref 0] hp (q_trl 12 H φ)) (hS : ∃ fs, hp[0]? = some (.inr (0, fs))) (hfr : rm'.frames + 1 ≤ 8) (hlo : 2 + (1 + 11) + rm'.locals ≤ 200) (hce : rm'.cells ≤ 1) (hsl : rm'.slots ≤ 6) : q_C g m_La_falls true (q_R 8 200 1 6) [.ref 0, .ref 110] hp (h_er 1 12 H φ) := by
  refine q_C.of hG (by decide) (Nat.le_of_ble_eq_true rfl) ?_
  obtain ⟨fs, hS⟩ := hS
  refine q_aload_n d_La_falls_0 rfl rfl ?_
  refine q_iconst (v := 0) d_La_falls_1 (by decide) ?_
  refine q_aload_n d_La_falls_2 rfl rfl ?_
  refine x_callVc d_La_falls_3 l_La_42 i_S_falls v_S_falls rfl hS hC rfl rfl hfr hlo (by show 0 + rm'.cells ≤ 1; omega) (by show 0 + rm'.slots ≤ 6; omega) (fun z hz => ?_)
  refine q_T.catch1 (ci := 12) rfl ⟨by decide, by decide⟩ (by decide) rfl (q_i 642 (by rfl)) (q_i 653 (by rfl)) q_apx ?_
  refine q_astore_n d_La_falls_18 rfl rfl (by decide) rfl ?_
  refine q_iconst (v := 1) d_La_falls_19 (by decide) ?_
  refine q_iret d_La_falls_20 rfl ?_ (by show 0 + rm'.cells ≤ 1; omega) (by show 0 + rm'.slots ≤ 6; omega) (by decide)
  exact ⟨z, rfl, rfl, hz⟩
end ENG12
