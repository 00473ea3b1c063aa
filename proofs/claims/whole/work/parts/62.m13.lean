/-! the reference: walk -/
section M13
variable {g : q_G}
/-- what has been seen, in the order of the queue -/
def V_I (w : w_T) (f0 : Nat) (sn : Nat → Bool) (Q : Nat → Nat) (wt : Nat) : Prop := wt = cn sn 30001 ∧ (∀ k, sn k = true → k < w_q w ∧ rr_R (w_S w) f0 k ∧ ∃ i, i < wt ∧ Q i = k) ∧ (∀ i, i < wt → sn (Q i) = true) ∧ sn f0 = true
def D_I (w : w_T) (sn : Nat → Bool) (Q : Nat → Nat) (dn : Nat) : Prop := ∀ i, i < dn → ∀ y, N_sc w (Q i) y = true → sn y = true
def P_I (w : w_T) (pl vl : Nat → Nat) (sn : Nat → Bool) (q j : Nat) : Prop := ∀ q' j', 1 ≤ j' → (q' < q ∨ (q' = q ∧ j' < j)) → w_can w pl vl q' j' = true → sn (w_nx w pl vl q' j') = true
abbrev sn_a (sn : Nat → Bool) (y : Nat) : Nat → Bool := fun m => sn m || decide (m = y)
theorem V_I.le {w : w_T} {f0 : Nat} {sn : Nat → Bool} {Q : Nat → Nat} {wt : Nat} (h : V_I w f0 sn Q wt) : wt ≤ w_q w := by
  rw [h.1]
  exact cn_bound 30001 (fun m _ hm => (h.2.1 m hm).1)
theorem V_I.add {w : w_T} {f0 : Nat} {sn : Nat → Bool} {Q : Nat → Nat} {wt x y : Nat} (h : V_I w f0 sn Q wt) (hx : sn x = true) (hs : N_sc w x y = true) (hy : sn y = false) (hq : y < w_q w) (hN : w_q w ≤ 30000) : V_I w f0 (sn_a sn y) (va_up Q wt y) (wt + 1) := by
  refine ⟨?_, fun k hk => ?_, fun i hi => ?_, ?_⟩
  · rw [cn_add hy, if_pos (by omega), ← h.1]
  · by_cases e : k = y
    · subst e
      exact ⟨hq, rr_step (h.2.1 x hx).2.1 ⟨(h.2.1 x hx).1, hs⟩, wt, Nat.lt_succ_self _, va_up_self _ _ _⟩
    · have hk : (sn k || decide (k = y)) = true := hk
      rw [decide_eq_false e, Bool.or_false] at hk
      obtain ⟨a, b, i, c, d⟩ := h.2.1 k hk
      exact ⟨a, b, i, Nat.lt_succ_of_lt c, by rw [va_up_ne _ _ (by omega)]; exact d⟩
  · by_cases e : i = wt
    · subst e
      rw [va_up_self]
      show (sn y || decide (y = y)) = true
      simp
    · rw [va_up_ne _ _ e]
      show (sn (Q i) || _) = true
      rw [h.2.2.1 i (by omega)]
      rfl
  · show (sn f0 || _) = true
    rw [h.2.2.2]
    rfl
theorem D_I.add {w : w_T} {sn : Nat → Bool} {Q : Nat → Nat} {dn wt y : Nat} (h : D_I w sn Q dn) (hd : dn ≤ wt) : D_I w (sn_a sn y) (va_up Q wt y) dn := by
  intro i hi u hu
  rw [va_up_ne _ _ (by omega)] at hu
  show (sn u || _) = true
  rw [h i hi u hu]
  rfl
theorem P_I.add {w : w_T} {pl vl : Nat → Nat} {sn : Nat → Bool} {q j y : Nat} (h : P_I w pl vl sn q j) : P_I w pl vl (sn_a sn y) q j := by
  intro q' j' h1 h2 h3
  show (sn _ || _) = true
  rw [h q' j' h1 h2 h3]
  rfl
theorem P_I.yes {w : w_T} {pl vl : Nat → Nat} {sn : Nat → Bool} {q j : Nat} (h : P_I w pl vl sn q j) (hy : w_can w pl vl q j = true → sn (w_nx w pl vl q j) = true) : P_I w pl vl sn q (j + 1) := by
  intro q' j' h1 h2 h3
  by_cases e : q' = q ∧ j' = j
  · obtain ⟨rfl, rfl⟩ := e
    exact hy h3
  · exact h q' j' h1 (by omega) h3
theorem P_I.nxt {w : w_T} {pl vl : Nat → Nat} {sn : Nat → Bool} {q : Nat} (h : P_I w pl vl sn q 13) (hc : ∀ j, w_can w pl vl q j = true → j < 13) : P_I w pl vl sn (q + 1) 1 := by
  intro q' j' h1 h2 h3
  refine h q' j' h1 ?_ h3
  by_cases e : q' = q
  · subst e
    exact Or.inr ⟨rfl, hc j' h3⟩
  · omega
theorem V_I.closed {w : w_T} {f0 : Nat} {sn : Nat → Bool} {Q : Nat → Nat} {wt : Nat} (h : V_I w f0 sn Q wt) (hd : D_I w sn Q wt) (k : Nat) : sn k = true ↔ rr_R (w_S w) f0 k := by
  refine ⟨fun hk => (h.2.1 k hk).2.1, fun hk => ?_⟩
  refine hk (fun k => sn k = true) h.2.2.2 (fun x y hx hs => ?_)
  obtain ⟨-, -, i, hi, e⟩ := h.2.1 x hx
  exact hd i hi y (by rw [e]; exact hs.2)
def B_A (sn : Nat → Bool) (Q : Nat → Nat) (wt : Nat) (A : Nat → Nat → Int32) : Prop := (∀ k, k < 30001 → A 22 k = nI (if sn k = true then 1 else 0)) ∧ ∀ i, i < wt → A 23 i = nI (Q i)
theorem B_A.keep {sn : Nat → Bool} {Q : Nat → Nat} {wt : Nat} {A A' : Nat → Nat → Int32} (h : B_A sn Q wt A) (e1 : A' 22 = A 22) (e2 : A' 23 = A 23) : B_A sn Q wt A' := ⟨by rw [e1]; exact h.1, by rw [e2]; exact h.2⟩
theorem B_A.add {sn : Nat → Bool} {Q : Nat → Nat} {wt y : Nat} {A A' : Nat → Nat → Int32} (h : B_A sn Q wt A) (e1 : A' 22 = upd (A 22) y 1) (e2 : A' 23 = upd (A 23) wt (nI y)) : B_A (sn_a sn y) (va_up Q wt y) (wt + 1) A' := by
  refine ⟨fun k hk => ?_, fun i hi => ?_⟩
  · rw [e1]
    by_cases e : k = y
    · subst e
      rw [m_upd, if_pos (by simp)]
      rfl
    · rw [upd_ne e, h.1 k hk]
      simp [e]
  · rw [e2]
    by_cases e : i = wt
    · subst e
      rw [m_upd, va_up_self]
    · rw [upd_ne e, va_up_ne _ _ e]
      exact h.2 i (by omega)
theorem w_mk.fz {w : w_T} (h : w_mk w) : w_fz w := by
  intro q hq j h1 h2
  rcases h.2.1 q hq j h1 h2 with a | a
  · exact a.2.2
  · rw [a.2.1, a.2.2]
    exact (h.1.2.2.1 0 (by decide)).1
theorem st_M.nf {w : w_T} {x : Nat} {s : Nat → Int32} (hok : w_ok w) (h : st_M w (w_dp w x) (w_dv w x) s) : st_M w (w_pl w x (fun _ => 0)) (w_vv w x (fun _ => 0)) s := by
  have h5 := hok.1
  refine ⟨fun q hq => ?_, fun v hv => ?_⟩
  · rw [h.1 q hq]
    unfold w_pl
    rw [if_pos hq]
  · rw [h.2 v hv]
    unfold w_vv
    rw [if_pos (by omega)]
theorem G_P.st {w : w_T} {pl vl : Nat → Nat} {q j : Nat} {s t : Nat → Int32} (h : G_P w vl q j s t) (hok : w_ok w) (hs : st_M w pl vl s) (hq : q < w_p w) : st_M w (va_up pl q j) (va_up vl (c_v (w_c w q) j) ((w_oc w vl q j).getD 0)) t := by
  have h5 := hok.1
  have h6 := hok.2.1
  refine ⟨fun q' hq' => ?_, fun v hv => ?_⟩
  · by_cases e : q' = q
    · subst e
      rw [va_up_self]
      exact h.2.1
    · rw [va_up_ne _ _ e, h.1 q' (by omega) e (by omega)]
      exact hs.1 q' hq'
  · by_cases e : v = c_v (w_c w q) j
    · subst e
      rw [va_up_self]
      exact h.2.2.1 hv
    · rw [va_up_ne _ _ e, h.1 (6 + v) (by omega) (by omega) (by omega)]
      exact hs.2 v hv
theorem can_oc {w : w_T} {pl vl : Nat → Nat} {q j : Nat} (h : w_can w pl vl q j = true) : ∃ y, w_oc w vl q j = some y := by
  unfold w_can at h
  simp only [Bool.and_eq_true] at h
  exact Option.isSome_iff_exists.mp h.2
theorem can_nx {w : w_T} {pl vl : Nat → Nat} {q j : Nat} (hmk : w_mk w) (hs : s_ok w pl vl) (hq : q < w_p w) (h1 : 1 ≤ j) (h : w_can w pl vl q j = true) : s_ok w (va_up pl q j) (va_up vl (c_v (w_c w q) j) ((w_oc w vl q j).getD 0)) := by
  obtain ⟨y, hy⟩ := can_oc h
  have hj := can_lt (hmk.2.2.1 q hq) (hs.2.1 q (Nat.lt_of_lt_of_le hq hmk.1.2.1)) h
  have := nx_ok hmk.1 hmk.fz hs hq h1 hj hy
  rw [hy]
  exact this
set_option maxRecDepth 10000 in
set_option maxHeartbeats 2000000 in
theorem l_Mo_wkJ (hG : q_GG g) {b : List va_E} {m0 : Nat → Int32} {A0 : Nat → Nat → Int32} {w : w_T} {f0 : Nat} {P : Outcome → List va_E → Prop} {x dn q : Nat} (hmk : w_mk w) (hW0 : W_M w m0 A0) (hN : w_q w ≤ 30000) (hq : q < w_p w) (hout : ∀ m A hp sn Q wt z5, M_A b m A hp → mo_K [] m0 m → mo_K [20, 21, 22, 23] A0 A → V_I w f0 sn Q wt → D_I w sn Q dn → dn < wt → Q dn = x → B_A sn Q wt A → st_M w (w_pl w x (fun _ => 0)) (w_vv w x (fun _ => 0)) (A 20) → P_I w (w_pl w x (fun _ => 0)) (w_vv w x (fun _ => 0)) sn (q + 1) 1 → q_J g m_Mo_walk true (q_R 1 40 0 0) P 58 [some (.ref 84), some (.int (nI f0)), some (.int (nI wt)), some (.int (nI dn)), some (.int (nI (q + 1))), z5] [] hp 0 0 true) : ∀ (c j : Nat), 1 ≤ j → j + c = 13 → ∀ (m : Nat → Int32) (A : Nat → Nat → Int32) (hp : List va_E) (sn : Nat → Bool) (Q : Nat → Nat) (wt : Nat), M_A b m A hp → mo_K [] m0 m → mo_K [20, 21, 22, 23] A0 A → V_I w f0 sn Q wt → D_I w sn Q dn → dn < wt → Q dn = x → B_A sn Q wt A → st_M w (w_pl w x (fun _ => 0)) (w_vv w x (fun _ => 0)) (A 20) → P_I w (w_pl w x (fun _ => 0)) (w_vv w x (fun _ => 0)) sn q j → q_J g m_Mo_walk true (q_R 1 40 0 0) P 70 [some (.ref 84), some (.int (nI f0)), some (.int (nI wt)), some (.int (nI dn)), some (.int (nI q)), some (.int (nI j))] [] hp 0 0 true := by
  have hq6 : q < 6 := Nat.lt_of_lt_of_le hq hmk.1.2.1
  have hs : s_ok w (w_pl w x (fun _ => 0)) (w_vv w x (fun _ => 0)) := w_pl_ok hmk.1 (fun _ _ => by decide)
  intro c
  induction c with
  | zero =>
    intro j hj1 hjc m A hp sn Q wt hA km kA hV hD hdw hQx hB hst hP
    obtain rfl : j = 13 := by omega
    have v8 : m 8 = nI (w_p w) := (km 8 (by decide)).trans hW0.2.1
    refine q_iload d_Mo_walk_70 rfl ?_
    refine q_bipush (v := 13) d_Mo_walk_72 (by decide) ?_
    refine q_icmp_ge (tgt := 141) d_Mo_walk_74 (by decide) (fun b74 => ?_) (fun b74 => ?_)
    · skip
      refine q_iinc d_Mo_walk_141 rfl (show _ + Int32.ofInt 1 = _ + 1 from rfl) (by decide) rfl ?_
      refine q_goto (tgt := 58) d_Mo_walk_144 (by decide) ?_
      rw [nI_1]
      exact hout m A _ sn Q wt _ hA km kA hV hD hdw hQx hB hst (hP.nxt (fun j hj => Nat.lt_of_lt_of_le (can_lt (hmk.2.2.1 q hq) (hs.2.1 q hq6) hj) (hmk.1.2.2.2 q hq6).2.1))
    · skip
      exact absurd (show (13 : Int32) ≤ nI 13 by decide) b74
  | succ c ih =>
    intro j hj1 hjc m A hp sn Q wt hA km kA hV hD hdw hQx hB hst hP
    have hj : j < 13 := by omega
    have v8 : m 8 = nI (w_p w) := (km 8 (by decide)).trans hW0.2.1
    have hwt := hV.le
    have hinw : vp_in (nI wt) 30001 := vp_in_nI (by omega) (by decide)
    refine q_iload d_Mo_walk_70 rfl ?_
    refine q_bipush (v := 13) d_Mo_walk_72 (by decide) ?_
    refine q_icmp_ge (tgt := 141) d_Mo_walk_74 (by decide) (fun b74 => ?_) (fun b74 => ?_)
    · skip
      exact absurd b74 (nI_ge (show j < 13 by omega) (by decide))
    · skip
      refine q_aload_n d_Mo_walk_77 rfl rfl ?_
      refine q_iload d_Mo_walk_78 rfl ?_
      refine q_iload d_Mo_walk_80 rfl ?_
      refine x_callVm d_Mo_walk_82 l_Mo_175 i_Mo_goes v_Mo_goes rfl hA.1 (c_Mo_goes hG hA hmk (hW0.keep km kA (by decide) (by decide)) hst hs.1 hs.2.2 hq hj1 hj) rfl rfl (Nat.le_of_ble_eq_true rfl) (Nat.le_of_ble_eq_true rfl) (Nat.le_of_ble_eq_true rfl) (Nat.le_of_ble_eq_true rfl) (fun m A hp1 hA hz => ?_)
      obtain ⟨hgp, nm, nA⟩ := hz
      have hst0 := hst
      have hst : st_M w (w_pl w x (fun _ => 0)) (w_vv w x (fun _ => 0)) (A 20) := by rw [nA 20 (by decide)]; exact hst
      have hB := hB.keep (nA 22 (by decide)) (nA 23 (by decide))
      have v8 := (nm 8 (by decide)).trans v8
      have km := km.sub nm (by decide)
      have kA := kA.sub nA (by decide)
      refine q_if_eq (tgt := 135) d_Mo_walk_85 (by decide) (fun b85 => ?_) (fun b85 => ?_)
      · skip
        have hc : ¬ w_can w (w_pl w x (fun _ => 0)) (w_vv w x (fun _ => 0)) q j = true := m_if0.mp b85
        have hV2 := hV
        have hD2 := hD
        have hdw2 := hdw
        have hQx2 := hQx
        have hB2 := hB
        have hst3 := hst
        have hP2 := hP.yes (fun h => absurd h hc)
        refine q_iinc d_Mo_walk_135 rfl (show _ + Int32.ofInt 1 = _ + 1 from rfl) (by decide) rfl ?_
        refine q_goto (tgt := 70) d_Mo_walk_138 (by decide) ?_
        rw [nI_1]
        try rw [nI_1]
        exact ih (j + 1) (by omega) (by omega) m A _ _ _ _ hA km kA hV2 hD2 hdw2 hQx2 hB2 hst3 hP2
      · skip
        have hc : w_can w (w_pl w x (fun _ => 0)) (w_vv w x (fun _ => 0)) q j = true := Classical.byContradiction (fun h => b85 (m_if0.mpr h))
        have hst2 := (hgp hc).st hmk.1 hst0 hq
        have hs2 := can_nx hmk hs hq hj1 hc
        have hyq := s_lt hs2
        obtain ⟨y, hy⟩ : ∃ y, w_nx w (w_pl w x (fun _ => 0)) (w_vv w x (fun _ => 0)) q j = y := ⟨_, rfl⟩
        have hyq : y < w_q w := hy ▸ hyq
        have hiny : vp_in (nI y) 30001 := vp_in_nI (by omega) (by decide)
        have hcly : (nI y).toNatClampNeg = y := nI_clamp (by omega)
        refine q_aload_n d_Mo_walk_88 rfl rfl ?_
        refine q_get d_Mo_walk_89 f_Mo_81 hA.1 rfl ?_
        refine q_aload_n d_Mo_walk_92 rfl rfl ?_
        refine q_aload_n d_Mo_walk_93 rfl rfl ?_
        refine q_get d_Mo_walk_94 f_Mo_78 hA.1 rfl ?_
        refine x_callV d_Mo_walk_97 l_Mo_190 i_Mo_number v_Mo_number rfl hA.1 (c_Mo_number hG hmk hA (hW0.keep km kA (by decide) (by decide)) hA.a21 hst2 hs2.2.2) rfl rfl (Nat.le_of_ble_eq_true rfl) (Nat.le_of_ble_eq_true rfl) (Nat.le_of_ble_eq_true rfl) (Nat.le_of_ble_eq_true rfl) ?_
        rw [show w_u w _ _ = y from hy]
        refine q_zald d_Mo_walk_100 hA.a22 rfl hiny ?_
        rw [hcly, hB.1 y (by omega)]
        refine q_if_ne (tgt := 135) d_Mo_walk_101 (by decide) (fun b101 => ?_) (fun b101 => ?_)
        · skip
          have hsy : sn y = true := by
            by_cases h : sn y = true
            · exact h
            · exact absurd (by rw [if_neg h]; rfl) b101
          have hV2 := hV
          have hD2 := hD
          have hdw2 := hdw
          have hQx2 := hQx
          have hB2 := hB
          have hst3 := hst
          have hP2 := hP.yes (fun _ => by rw [hy]; exact hsy)
          refine q_iinc d_Mo_walk_135 rfl (show _ + Int32.ofInt 1 = _ + 1 from rfl) (by decide) rfl ?_
          refine q_goto (tgt := 70) d_Mo_walk_138 (by decide) ?_
          rw [nI_1]
          try rw [nI_1]
          exact ih (j + 1) (by omega) (by omega) m A _ _ _ _ hA km kA hV2 hD2 hdw2 hQx2 hB2 hst3 hP2
        · skip
          have hsy : sn y = false := by
            by_cases h : sn y = true
            · rw [if_pos h] at b101
              exact absurd b101 (by decide)
            · simpa using h
          refine q_aload_n d_Mo_walk_104 rfl rfl ?_
          refine q_get d_Mo_walk_105 f_Mo_81 hA.1 rfl ?_
          refine q_aload_n d_Mo_walk_108 rfl rfl ?_
          refine q_aload_n d_Mo_walk_109 rfl rfl ?_
          refine q_get d_Mo_walk_110 f_Mo_78 hA.1 rfl ?_
          refine x_callV d_Mo_walk_113 l_Mo_190 i_Mo_number v_Mo_number rfl hA.1 (c_Mo_number hG hmk hA (hW0.keep km kA (by decide) (by decide)) hA.a21 hst2 hs2.2.2) rfl rfl (Nat.le_of_ble_eq_true rfl) (Nat.le_of_ble_eq_true rfl) (Nat.le_of_ble_eq_true rfl) (Nat.le_of_ble_eq_true rfl) ?_
          rw [show w_u w _ _ = y from hy]
          refine q_iconst (v := 1) d_Mo_walk_116 (by decide) ?_
          refine x_zast d_Mo_walk_117 hA.a22 rfl hiny (fun hp2 e2 _ => ?_)
          obtain ⟨A, hA, u22, nn⟩ := hA.st22 e2
          rw [hcly, show vp_nar .boolean 1 = (1 : Int32) from rfl] at u22
          have nn0 := nn 21 (by decide)
          have nn1 := nn 20 (by decide)
          have nn2 := nn 23 (by decide)
          have a22 := u22
          have kA := kA.put nn (by decide)
          refine q_aload_n d_Mo_walk_118 rfl rfl ?_
          refine q_get d_Mo_walk_119 f_Mo_84 hA.1 rfl ?_
          refine q_iload_n d_Mo_walk_122 rfl ?_
          refine q_aload_n d_Mo_walk_123 rfl rfl ?_
          refine q_aload_n d_Mo_walk_124 rfl rfl ?_
          refine q_get d_Mo_walk_125 f_Mo_78 hA.1 rfl ?_
          refine x_callV d_Mo_walk_128 l_Mo_190 i_Mo_number v_Mo_number rfl hA.1 (c_Mo_number hG hmk hA (hW0.keep km kA (by decide) (by decide)) hA.a21 (by rw [nn0]; exact hst2) hs2.2.2) rfl rfl (Nat.le_of_ble_eq_true rfl) (Nat.le_of_ble_eq_true rfl) (Nat.le_of_ble_eq_true rfl) (Nat.le_of_ble_eq_true rfl) ?_
          rw [show w_u w _ _ = y from hy]
          refine x_iast d_Mo_walk_131 hA.a23 rfl hinw (fun hp3 e3 _ => ?_)
          obtain ⟨A, hA, u23, nn⟩ := hA.st23 e3
          rw [nI_clamp (show wt < 2 ^ 31 by omega), nn2] at u23
          have a23 := u23
          have a22 := (nn 22 (by decide)).trans a22
          have kA := kA.put nn (by decide)
          have hB2 := hB.add (y := y) ((nn 22 (by decide)).trans u22) a23
          have hsc : N_sc w x y = true := (spa_iff _).mpr ⟨q, hq, (sp_iff _).mpr ⟨j, hj1, by have := can_lt (hmk.2.2.1 q hq) (hs.2.1 q hq6) hc; omega, hc, hy.symm⟩⟩
          have hxs : sn x = true := by rw [← hQx]; exact hV.2.2.1 dn hdw
          have hV2 := hV.add hxs hsc hsy hyq hN
          have hD2 := hD.add (y := y) (Nat.le_of_lt hdw)
          have hdw2 : dn < wt + 1 := by omega
          have hQx2 : va_up Q wt y dn = x := by rw [va_up_ne _ _ (by omega)]; exact hQx
          have hst3 : st_M w (w_pl w x (fun _ => 0)) (w_vv w x (fun _ => 0)) (A 20) := by rw [nn 20 (by decide), nn1]; exact hst
          have hP2 := (hP.add (y := y)).yes (fun _ => by rw [hy]; simp)
          refine q_iinc d_Mo_walk_132 rfl (show _ + Int32.ofInt 1 = _ + 1 from rfl) (by decide) rfl ?_
          refine q_iinc d_Mo_walk_135 rfl (show _ + Int32.ofInt 1 = _ + 1 from rfl) (by decide) rfl ?_
          refine q_goto (tgt := 70) d_Mo_walk_138 (by decide) ?_
          rw [nI_1]
          try rw [nI_1]
          exact ih (j + 1) (by omega) (by omega) m A _ _ _ _ hA km kA hV2 hD2 hdw2 hQx2 hB2 hst3 hP2
set_option maxRecDepth 10000 in
set_option maxHeartbeats 2000000 in
theorem l_Mo_wkQ (hG : q_GG g) {b : List va_E} {m0 : Nat → Int32} {A0 : Nat → Nat → Int32} {w : w_T} {f0 : Nat} {P : Outcome → List va_E → Prop} {x dn : Nat} (hmk : w_mk w) (hW0 : W_M w m0 A0) (hN : w_q w ≤ 30000) (hout : ∀ m A hp sn Q wt z4 z5, M_A b m A hp → mo_K [] m0 m → mo_K [20, 21, 22, 23] A0 A → V_I w f0 sn Q wt → D_I w sn Q (dn + 1) → dn + 1 ≤ wt → B_A sn Q wt A → q_J g m_Mo_walk true (q_R 1 40 0 0) P 40 [some (.ref 84), some (.int (nI f0)), some (.int (nI wt)), some (.int (nI (dn + 1))), z4, z5] [] hp 0 0 true) : ∀ (c q : Nat), q + c = w_p w → ∀ (m : Nat → Int32) (A : Nat → Nat → Int32) (hp : List va_E) (sn : Nat → Bool) (Q : Nat → Nat) (wt : Nat) (z5 : Option Value), M_A b m A hp → mo_K [] m0 m → mo_K [20, 21, 22, 23] A0 A → V_I w f0 sn Q wt → D_I w sn Q dn → dn < wt → Q dn = x → B_A sn Q wt A → st_M w (w_pl w x (fun _ => 0)) (w_vv w x (fun _ => 0)) (A 20) → P_I w (w_pl w x (fun _ => 0)) (w_vv w x (fun _ => 0)) sn q 1 → q_J g m_Mo_walk true (q_R 1 40 0 0) P 58 [some (.ref 84), some (.int (nI f0)), some (.int (nI wt)), some (.int (nI dn)), some (.int (nI q)), z5] [] hp 0 0 true := by
  have hp6 := hmk.1.2.1
  intro c
  induction c with
  | zero =>
    intro q hq m A hp sn Q wt z5 hA km kA hV hD hdw hQx hB hst hP
    have v8 : m 8 = nI (w_p w) := (km 8 (by decide)).trans hW0.2.1
    refine q_iload d_Mo_walk_58 rfl ?_
    refine q_aload_n d_Mo_walk_60 rfl rfl ?_
    refine q_get d_Mo_walk_61 f_Mo_111 hA.1 rfl ?_
    rw [v8]
    refine q_icmp_ge (tgt := 147) d_Mo_walk_64 (by decide) (fun b64 => ?_) (fun b64 => ?_)
    · skip
      refine q_iinc d_Mo_walk_147 rfl (show _ + Int32.ofInt 1 = _ + 1 from rfl) (by decide) rfl ?_
      refine q_goto (tgt := 40) d_Mo_walk_150 (by decide) ?_
      rw [nI_1]
      refine hout m A _ sn Q wt _ _ hA km kA hV ?_ (by omega) hB
      intro i hi y hy
      by_cases e : i = dn
      · subst e
        rw [hQx] at hy
        obtain ⟨q', hq', h1⟩ := (spa_iff _).mp hy
        obtain ⟨j', h2, h3, h4, h5⟩ := (sp_iff _).mp h1
        rw [h5]
        exact hP q' j' h2 (Or.inl (by omega)) h4
      · exact hD i (by omega) y hy
    · skip
      exact absurd (nI_le (by omega) (by omega)) b64
  | succ c ih =>
    intro q hq m A hp sn Q wt z5 hA km kA hV hD hdw hQx hB hst hP
    have v8 : m 8 = nI (w_p w) := (km 8 (by decide)).trans hW0.2.1
    refine q_iload d_Mo_walk_58 rfl ?_
    refine q_aload_n d_Mo_walk_60 rfl rfl ?_
    refine q_get d_Mo_walk_61 f_Mo_111 hA.1 rfl ?_
    rw [v8]
    refine q_icmp_ge (tgt := 147) d_Mo_walk_64 (by decide) (fun b64 => ?_) (fun b64 => ?_)
    · skip
      exact absurd b64 (nI_ge (by omega) (by omega))
    · skip
      refine q_iconst (v := 1) d_Mo_walk_67 (by decide) ?_
      refine q_istore d_Mo_walk_68 (by decide) rfl ?_
      exact l_Mo_wkJ hG hmk hW0 hN (by omega) (fun m A hp sn Q wt z5 hA km kA hV hD hdw hQx hB hst hP => ih (q + 1) (by omega) m A hp sn Q wt z5 hA km kA hV hD hdw hQx hB hst hP) 12 1 (by omega) (by omega) m A hp sn Q wt hA km kA hV hD hdw hQx hB hst hP
set_option maxRecDepth 10000 in
set_option maxHeartbeats 2000000 in
theorem l_Mo_wkD (hG : q_GG g) {b : List va_E} {m0 : Nat → Int32} {A0 : Nat → Nat → Int32} {w : w_T} {f0 : Nat} (hmk : w_mk w) (hW0 : W_M w m0 A0) (hN : w_q w ≤ 30000) : ∀ (c dn : Nat), dn + c = 30001 → ∀ (m : Nat → Int32) (A : Nat → Nat → Int32) (hp : List va_E) (sn : Nat → Bool) (Q : Nat → Nat) (wt : Nat) (z4 z5 : Option Value), M_A b m A hp → mo_K [] m0 m → mo_K [20, 21, 22, 23] A0 A → V_I w f0 sn Q wt → D_I w sn Q dn → dn ≤ wt → B_A sn Q wt A → q_J g m_Mo_walk true (q_R 1 40 0 0) (q_mo none b (fun m' A' => (∃ sn : Nat → Bool, (∀ k, k < 30001 → A' 22 k = nI (if sn k = true then 1 else 0)) ∧ ∀ k, sn k = true ↔ rr_R (w_S w) f0 k) ∧ mo_K [] m0 m' ∧ mo_K [20, 21, 22, 23] A0 A')) 40 [some (.ref 84), some (.int (nI f0)), some (.int (nI wt)), some (.int (nI dn)), z4, z5] [] hp 0 0 true := by
  intro c
  induction c with
  | zero =>
    intro dn hdc m A hp sn Q wt z4 z5 hA km kA hV hD hdw hB
    have := hV.le
    omega
  | succ c ih =>
    intro dn hdc m A hp sn Q wt z4 z5 hA km kA hV hD hdw0 hB
    have hwt := hV.le
    have v8 : m 8 = nI (w_p w) := (km 8 (by decide)).trans hW0.2.1
    refine q_iload_n d_Mo_walk_40 rfl ?_
    refine q_iload_n d_Mo_walk_41 rfl ?_
    refine q_icmp_ge (tgt := 153) d_Mo_walk_42 (by decide) (fun b42 => ?_) (fun b42 => ?_)
    · skip
      have hdw : dn = wt := by
        by_cases h : dn < wt
        · exact absurd b42 (nI_ge h (by omega))
        · omega
      subst hdw
      refine q_vret d_Mo_walk_153 rfl ?_ (Nat.le_of_ble_eq_true rfl) (Nat.le_of_ble_eq_true rfl) (by decide)
      exact ⟨(_, _, _), rfl, rfl, hA, ⟨sn, hB.1, hV.closed hD⟩, km, kA⟩
    · skip
      have hdw : dn < wt := by
        by_cases h : dn < wt
        · exact h
        · exact absurd (nI_le (by omega) (by omega)) b42
      refine q_aload_n d_Mo_walk_45 rfl rfl ?_
      refine q_aload_n d_Mo_walk_46 rfl rfl ?_
      refine q_get d_Mo_walk_47 f_Mo_84 hA.1 rfl ?_
      refine q_iload_n d_Mo_walk_50 rfl ?_
      refine q_iald d_Mo_walk_51 hA.a23 rfl (vp_in_nI (by omega) (by decide)) ?_
      rw [nI_clamp (by omega), hB.2 dn hdw]
      have hxq := (hV.2.1 _ (hV.2.2.1 dn hdw)).1
      refine x_callVm d_Mo_walk_52 l_Mo_186 i_Mo_apart v_Mo_apart rfl hA.1 (c_Mo_apart hG hA hmk (hW0.keep km kA (by decide) (by decide)) (by omega)) rfl rfl (Nat.le_of_ble_eq_true rfl) (Nat.le_of_ble_eq_true rfl) (Nat.le_of_ble_eq_true rfl) (Nat.le_of_ble_eq_true rfl) (fun m A hp1 hA hz => ?_)
      obtain ⟨hst, nm, nA⟩ := hz
      have hB := hB.keep (nA 22 (by decide)) (nA 23 (by decide))
      have v8 := (nm 8 (by decide)).trans v8
      have km := km.sub nm (by decide)
      have kA := kA.sub nA (by decide)
      refine q_iconst (v := 0) d_Mo_walk_55 (by decide) ?_
      refine q_istore d_Mo_walk_56 (by decide) rfl ?_
      exact l_Mo_wkQ hG hmk hW0 hN (x := Q dn) (fun m A hp sn Q wt z4 z5 hA km kA hV hD hdw hB => ih (dn + 1) (by omega) m A hp sn Q wt z4 z5 hA km kA hV hD hdw hB) (w_p w) 0 (by omega) m A _ sn Q wt _ hA km kA hV hD hdw rfl hB (hst.nf hmk.1) (fun q' j' h1 h2 _ => absurd h2 (by omega))
set_option maxRecDepth 10000 in
set_option maxHeartbeats 2000000 in
theorem l_Mo_wk0 (hG : q_GG g) {b : List va_E} {m0 : Nat → Int32} {A0 : Nat → Nat → Int32} {w : w_T} {f0 : Nat} {m : Nat → Int32} (hmk : w_mk w) (hW0 : W_M w m0 A0) (hN : w_q w ≤ 30000) (hf0 : f0 < w_q w) (km : mo_K [] m0 m) : ∀ (c i : Nat), i + c = 30001 → ∀ (A : Nat → Nat → Int32) (hp : List va_E), M_A b m A hp → A 22 = bg1 i (A0 22) → mo_K [20, 21, 22, 23] A0 A → q_J g m_Mo_walk true (q_R 1 40 0 0) (q_mo none b (fun m' A' => (∃ sn : Nat → Bool, (∀ k, k < 30001 → A' 22 k = nI (if sn k = true then 1 else 0)) ∧ ∀ k, sn k = true ↔ rr_R (w_S w) f0 k) ∧ mo_K [] m0 m' ∧ mo_K [20, 21, 22, 23] A0 A')) 2 [some (.ref 84), some (.int (nI f0)), some (.int (nI i)), none, none, none] [] hp 0 0 true := by
  intro c
  induction c with
  | zero =>
    intro i hi A hp hA a22 kA
    obtain rfl : i = 30001 := by omega
    have a23 : A 23 = A 23 := rfl
    refine q_iload_n d_Mo_walk_2 rfl ?_
    refine q_sipush (v := 30000) d_Mo_walk_3 (by decide) ?_
    refine q_icmp_gt (tgt := 22) d_Mo_walk_6 (by decide) (fun b6 => ?_) (fun b6 => ?_)
    · skip
      refine q_aload_n d_Mo_walk_22 rfl rfl ?_
      refine q_get d_Mo_walk_23 f_Mo_81 hA.1 rfl ?_
      refine q_iload_n d_Mo_walk_26 rfl ?_
      refine q_iconst (v := 1) d_Mo_walk_27 (by decide) ?_
      refine x_zast d_Mo_walk_28 hA.a22 rfl (vp_in_nI (by omega) (by decide)) (fun hp1 e1 _ => ?_)
      obtain ⟨A, hA, u22, nn⟩ := hA.st22 e1
      rw [a22] at u22
      rw [nI_clamp (by omega), show vp_nar .boolean 1 = (1 : Int32) from rfl] at u22
      have a22 := u22
      have a23 := (nn 23 (by decide)).trans a23
      have kA := kA.put nn (by decide)
      refine q_aload_n d_Mo_walk_29 rfl rfl ?_
      refine q_get d_Mo_walk_30 f_Mo_84 hA.1 rfl ?_
      refine q_iconst (v := 0) d_Mo_walk_33 (by decide) ?_
      refine q_iload_n d_Mo_walk_34 rfl ?_
      refine x_iast d_Mo_walk_35 hA.a23 rfl (vp_in_nI (n := 0) (by decide) (by decide)) (fun hp2 e2 _ => ?_)
      obtain ⟨A, hA, u23, nn⟩ := hA.st23 e2
      rw [a23] at u23
      rw [show (0 : Int32).toNatClampNeg = 0 from rfl] at u23
      have a23 := u23
      have a22 := (nn 22 (by decide)).trans a22
      have kA := kA.put nn (by decide)
      refine q_iconst (v := 1) d_Mo_walk_36 (by decide) ?_
      refine q_istore_n d_Mo_walk_37 rfl (by decide) rfl ?_
      refine q_iconst (v := 0) d_Mo_walk_38 (by decide) ?_
      refine q_istore_n d_Mo_walk_39 rfl (by decide) rfl ?_
      have h0 : ∀ k, sn_a (fun _ => false) f0 k = true ↔ k = f0 := fun k => by simp
      refine l_Mo_wkD hG hmk hW0 hN 30001 0 (by omega) m A _ (sn_a (fun _ => false) f0) (fun _ => f0) 1 _ _ hA km kA ⟨?_, fun k hk => ?_, fun i hi => ?_, ?_⟩ (fun i hi => absurd hi (Nat.not_lt_zero i)) (by omega) ⟨fun k hk => ?_, fun i hi => ?_⟩
      · rw [cn_add rfl, cn_0, if_pos (by omega)]
      · rw [(h0 k).mp hk]
        exact ⟨hf0, rr_self _ _, 0, Nat.zero_lt_one, rfl⟩
      · exact (h0 _).mpr rfl
      · exact (h0 _).mpr rfl
      · rw [a22]
        by_cases e : k = f0
        · subst e
          rw [m_upd, if_pos ((h0 k).mpr rfl)]
          rfl
        · rw [upd_ne e, if_neg (fun h => e ((h0 k).mp h))]
          show (if k < 30001 then (0 : Int32) else _) = nI 0
          rw [if_pos hk]
          rfl
      · obtain rfl : i = 0 := by omega
        rw [a23]
        exact m_upd
    · skip
      exact absurd (show (30000 : Int32) < nI 30001 by decide) b6
  | succ c ih =>
    intro i hi A hp hA a22 kA
    refine q_iload_n d_Mo_walk_2 rfl ?_
    refine q_sipush (v := 30000) d_Mo_walk_3 (by decide) ?_
    refine q_icmp_gt (tgt := 22) d_Mo_walk_6 (by decide) (fun b6 => ?_) (fun b6 => ?_)
    · skip
      exact absurd b6 (nI_nlt (show i ≤ 30000 by omega) (by decide))
    · skip
      refine q_aload_n d_Mo_walk_9 rfl rfl ?_
      refine q_get d_Mo_walk_10 f_Mo_81 hA.1 rfl ?_
      refine q_iload_n d_Mo_walk_13 rfl ?_
      refine q_iconst (v := 0) d_Mo_walk_14 (by decide) ?_
      refine x_zast d_Mo_walk_15 hA.a22 rfl (vp_in_nI (show i < 30001 by omega) (by decide)) (fun hp1 e1 _ => ?_)
      obtain ⟨A, hA, u22, nn⟩ := hA.st22 e1
      rw [a22] at u22
      rw [nI_clamp (by omega), show vp_nar .boolean 0 = (0 : Int32) from rfl, bg1_s] at u22
      have a22 := u22
      have kA := kA.put nn (by decide)
      refine q_iinc d_Mo_walk_16 rfl (show _ + Int32.ofInt 1 = _ + 1 from rfl) (by decide) rfl ?_
      refine q_goto (tgt := 2) d_Mo_walk_19 (by decide) ?_
      rw [nI_1]
      exact ih (i + 1) (by omega) A _ hA a22 kA
set_option maxRecDepth 10000 in
set_option maxHeartbeats 2000000 in
theorem c_Mo_walk (hG : q_GG g) {b hp : List va_E} {m0 : Nat → Int32} {A0 : Nat → Nat → Int32} {w : w_T} {f0 : Nat} (hA : M_A b m0 A0 hp) (hmk : w_mk w) (hW0 : W_M w m0 A0) (hN : w_q w ≤ 30000) (hf0 : f0 < w_q w) : q_C g m_Mo_walk true (q_R 1 40 0 0) [.ref 84, .int (nI f0)] hp (q_mo none b (fun m' A' => (∃ sn : Nat → Bool, (∀ k, k < 30001 → A' 22 k = nI (if sn k = true then 1 else 0)) ∧ ∀ k, sn k = true ↔ rr_R (w_S w) f0 k) ∧ mo_K [] m0 m' ∧ mo_K [20, 21, 22, 23] A0 A')) := by
  refine q_C.of hG (by decide) (Nat.le_of_ble_eq_true rfl) ?_
  refine q_wrote ?_
  refine q_iconst (v := 0) d_Mo_walk_0 (by decide) ?_
  refine q_istore_n d_Mo_walk_1 rfl (by decide) rfl ?_
  exact l_Mo_wk0 hG hmk hW0 hN hf0 mo_K.rfl 30001 0 (by omega) A0 hp hA bg1_0.symm mo_K.rfl
end M13
