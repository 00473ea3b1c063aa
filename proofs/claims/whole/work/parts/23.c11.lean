/-! TextReader: a thing is added -/
section C11
variable {g : q_G}
def c_as (fm to n : Nat) (s : Nat → Nat) : Nat → Nat := fun j => if j < n ∧ fm.testBit j = true then s j ||| to else s j
theorem c_as_is {fm to n : Nat} {s : Nat → Nat} (hf : fm < 2 ^ 31) (hn : n ≤ 13) : co_as (nI fm) (nI to) n (fun j => nI (s j)) = fun j => nI (c_as fm to n s j) := by
  funext j
  unfold co_as c_as
  by_cases hj : j < n
  · have hb := tb_1 (j := j) hf (by omega)
    by_cases h : fm.testBit j = true
    · rw [if_pos ⟨hj, fun q => by rw [hb.mp q] at h; cases h⟩, if_pos ⟨hj, h⟩, tb_or]
    · have h0 : fm.testBit j = false := by simpa using h
      rw [if_neg (fun q => q.2 (hb.mpr h0)), if_neg (fun q => h q.2)]
  · rw [if_neg (fun q => hj q.1), if_neg (fun q => hj q.1)]
/-- the thing: the act, or the choices of a text that has been closed -/
def x_tg (S : x_S) (o : Option Nat) : p_T := match o with
  | none => x_ac S
  | some i => x_ch S i
def x_ta (o : Option Nat) : Nat := match o with
  | none => 40
  | some i => 41 + 2 * i
def x_ts (S : x_S) (o : Option Nat) (t : p_T) : x_S := match o with
  | none => (x_d S, x_a S, x_k S, x_p S, x_ch S, x_rw S, t, x_C S)
  | some i => (x_d S, x_a S, x_k S, x_p S, va_up (x_ch S) i t, x_rw S, x_ac S, x_C S)
def x_to (o : Option Nat) : Prop := ∀ i, o = some i → i < 13
section
variable {p n : Nat} {f : Nat → Int32} {nv np : Nat} {z : Nat → Nat} {S : x_S} {hp : List va_E}
theorem X_A.tg {o : Option Nat} (h : X_A p n f nv np z S hp) (ho : x_to o) : hp[x_ta o]? = some (o_Pn (x_tg S o)) := by
  cases o with
  | none => exact h.2.2.2.1
  | some i => exact h.2.2.2.2.1 i (ho i rfl)
theorem X_A.ts {o : Option Nat} {t : p_T} (hp6 : p < 6) (h : X_A p n f nv np z S hp) (ho : x_to o) : X_A p n f nv np z (x_ts S o t) (hp.set (x_ta o) (o_Pn t)) := by
  cases o with
  | none => exact h.ac hp6
  | some i => exact h.ch hp6 (ho i rfl)
theorem x_ta_in {o : Option Nat} (ho : x_to o) : 40 ≤ x_ta o ∧ x_ta o ≤ 66 ∧ ∀ d, x_ta o ≠ 42 + 2 * d := by
  cases o with
  | none => exact ⟨Nat.le_refl _, by decide, fun d h => by have h : 40 = 42 + 2 * d := h; omega⟩
  | some i =>
    have := ho i rfl
    refine ⟨?_, ?_, fun d => ?_⟩ <;> (show _) <;> simp only [x_ta] <;> omega
theorem X_A.st {s' : Nat → Nat} (hp6 : p < 6) (h : X_A p n f nv np z S hp) : X_A p n f nv np z (x_d S, x_a S, x_k S, x_p S, x_ch S, x_rw S, x_ac S, (c_n (x_C S), c_e (x_C S), s', c_k (x_C S), c_v (x_C S), c_f (x_C S))) (hp.set (7 + 5 * p + 1) (a_N 13 s')) := by
  have hc := h.2.2.2.2.2.2.1
  refine h.co hp6 (fun k hk => List.getElem?_set_ne (by omega)) ?_
  exact ⟨q_keep rfl hc.1 (by omega), q_self hc.2.1, q_keep rfl hc.2.2.1 (by omega), q_keep rfl hc.2.2.2.1 (by omega), q_keep rfl hc.2.2.2.2 (by omega)⟩
end
/-- a star -/
def x_star (o : Option Nat) (S : x_S) : x_S := x_ts (x_d S, x_a S + 1, x_k S, x_p S, x_ch S, x_rw S, x_ac S, (c_n (x_C S), c_e (x_C S), c_as (x_tg S o).2.2 (x_tg S o).2.1 (c_n (x_C S)) (c_s (x_C S)), c_k (x_C S), c_v (x_C S), c_f (x_C S))) o (1, (x_tg S o).2.1, (x_tg S o).2.2)
def x_sl (n : Nat) (tb : Nat → Nat) (o : Option Nat) : Nat → x_S → x_S
  | 0, S => S
  | k + 1, S => if x_a S < n ∧ tb (x_a S) = 42 then x_sl n tb o k (x_star o S) else S
def x_end (o : Option Nat) (S : x_S) : x_S := (x_d S, x_a S, x_k S, x_p S, x_ch S, va_up (x_rw S) (x_d S) (p_seq (x_rw S (x_d S)) (x_tg S o)), x_ac S, (c_n (x_C S), c_e (x_C S), c_as (x_rw S (x_d S)).2.2 (x_tg S o).2.1 (c_n (x_C S)) (c_s (x_C S)), c_k (x_C S), c_v (x_C S), c_f (x_C S)))
/-- all of a thing -/
def x_add (n : Nat) (tb : Nat → Nat) (o : Option Nat) (S : x_S) : x_S := x_end o (x_sl n tb o (n - x_a S) S)
/-- what the reader keeps -/
def x_ok (n : Nat) (S : x_S) : Prop := x_d S < 13 ∧ x_a S ≤ n ∧ (∀ i, i < 13 → p_ok (x_ch S i) ∧ p_ok (x_rw S i)) ∧ p_ok (x_ac S) ∧ c_ok (x_C S)
theorem or_lt {a b : Nat} (h : a < 8192) (k : b < 8192) : a ||| b < 8192 := Nat.or_lt_two_pow (n := 13) h k
theorem x_ok.tg {n : Nat} {S : x_S} {o : Option Nat} (h : x_ok n S) (ho : x_to o) : p_ok (x_tg S o) := by
  cases o with
  | none => exact h.2.2.2.1
  | some i => exact (h.2.2.1 i (ho i rfl)).1
theorem c_as_lt {fm to n : Nat} {s : Nat → Nat} {j : Nat} (h : s j < 8192) (ht : to < 8192) : c_as fm to n s j < 8192 := by
  unfold c_as
  split
  · exact or_lt h ht
  · exact h
theorem c_ok.as {C : c_T} {fm to m : Nat} (h : c_ok C) (ht : to < 8192) : c_ok (c_n C, c_e C, c_as fm to m (c_s C), c_k C, c_v C, c_f C) := by
  obtain ⟨h1, h2, h3, h4⟩ := h
  exact ⟨h1, h2, h3, fun j hj => ⟨c_as_lt (h4 j hj).1 ht, (h4 j hj).2⟩⟩
theorem x_ok.star {n : Nat} {S : x_S} {o : Option Nat} (h : x_ok n S) (ho : x_to o) (ha : x_a S < n) : x_ok n (x_star o S) := by
  have ht := h.tg ho
  obtain ⟨h1, h2, h3, h4, h5⟩ := h
  have ho1 : p_ok (1, (x_tg S o).2.1, (x_tg S o).2.2) := ⟨Nat.lt_succ_self 1, ht.2⟩
  cases o with
  | none => exact ⟨h1, ha, h3, ho1, h5.as ht.2.1⟩
  | some i =>
    refine ⟨h1, ha, fun j hj => ⟨?_, (h3 j hj).2⟩, h4, h5.as ht.2.1⟩
    show p_ok (va_up _ i _ j)
    unfold va_up
    split
    · exact ho1
    · exact (h3 j hj).1
theorem p_seq_ok {s t : p_T} (hs : p_ok s) (ht : p_ok t) : p_ok (p_seq s t) := by
  refine ⟨Nat.lt_of_le_of_lt Nat.and_le_left hs.1, or_lt hs.2.1 ?_, or_lt ht.2.2 ?_⟩
  · split
    · decide
    · exact ht.2.1
  · split
    · decide
    · exact hs.2.2
theorem x_ok.fin {n : Nat} {S : x_S} {o : Option Nat} (h : x_ok n S) (ho : x_to o) : x_ok n (x_end o S) := by
  have ht := h.tg ho
  obtain ⟨h1, h2, h3, h4, h5⟩ := h
  refine ⟨h1, h2, fun j hj => ⟨(h3 j hj).1, ?_⟩, h4, h5.as ht.2.1⟩
  show p_ok (va_up _ _ _ j)
  unfold va_up
  split
  · exact p_seq_ok (h3 _ h1).2 ht
  · exact (h3 j hj).2
theorem x_ok.sl {n : Nat} {tb : Nat → Nat} {o : Option Nat} (ho : x_to o) : ∀ (k : Nat) (S : x_S), x_ok n S → x_ok n (x_sl n tb o k S) := by
  intro k
  induction k with
  | zero => intro S h; exact h
  | succ k ih =>
    intro S h
    unfold x_sl
    split
    · next hc => exact ih _ (h.star ho hc.1)
    · exact h
theorem x_ok.add {n : Nat} {tb : Nat → Nat} {o : Option Nat} {S : x_S} (h : x_ok n S) (ho : x_to o) : x_ok n (x_add n tb o S) := (h.sl ho _).fin ho
def t_ok (n : Nat) (f : Nat → Int32) (tb : Nat → Nat) : Prop := n ≤ 100 ∧ ∀ j, j < n → f j &&& 255 = nI (tb j) ∧ tb j < 256
set_option maxRecDepth 10000 in
set_option maxHeartbeats 1000000 in
theorem l_Re_addEnd (hG : q_GG g) {p n : Nat} {f : Nat → Int32} {nv np : Nat} {z : Nat → Nat} {S : x_S} {hp : List va_E} {o : Option Nat} {hpb : List va_E} (hp6 : p < 6) (ho : x_to o) (h : X_A p n f nv np z S hp) (hF : F_A p hpb hp) (hok : x_ok n S) : q_J g m_Re_addThing true (q_R 1 15 0 0) (q_ho none (fun hp2 => X_A p n f nv np z (x_end o S) hp2 ∧ F_A p hpb hp2)) 60 [some (.ref 37), some (.ref (7 + 5 * p)), some (.ref (x_ta o))] [] hp 0 0 true := by
  have hd := hok.1
  have h_r := h.1
  have h_rw := h.2.2.1
  have h_y := h.2.2.2.2.2.1 _ hd
  have h_t := h.tg ho
  have h_c := h.2.2.2.2.2.2.1.1
  have hin : vp_in (nI (x_d S)) 13 := vp_in_nI hd (by decide)
  have hyo := (hok.2.2.1 _ hd).2
  have hC1 := c_Co_addSteps hG (fm := nI (x_rw S (x_d S)).2.2) (to := nI (x_tg S o).2.1) h_c h.2.2.2.2.2.2.1.2.1 hok.2.2.2.2.2.1
  rw [c_as_is (by have := hyo.2.2; omega) hok.2.2.2.2.2.1] at hC1
  refine q_aload_n d_Re_addThing_60 rfl rfl ?_
  refine q_aload_n d_Re_addThing_61 rfl rfl ?_
  refine q_get d_Re_addThing_62 f_Re_17 h_r rfl ?_
  refine q_aload_n d_Re_addThing_65 rfl rfl ?_
  refine q_get d_Re_addThing_66 f_Re_43 h_r rfl ?_
  refine q_aald d_Re_addThing_69 h_rw rfl hin (rw_at hd) ?_
  refine q_get d_Re_addThing_70 f_Re_123 h_y rfl ?_
  refine q_aload_n d_Re_addThing_73 rfl rfl ?_
  refine q_get d_Re_addThing_74 f_Re_126 h_t rfl ?_
  refine x_callV d_Re_addThing_77 l_Re_129 i_Co_addSteps v_Co_addSteps rfl h_c (hC1) rfl rfl (Nat.le_of_ble_eq_true rfl) (Nat.le_of_ble_eq_true rfl) (Nat.le_of_ble_eq_true rfl) (Nat.le_of_ble_eq_true rfl) ?_
  have h2 := h.st (s' := c_as (x_rw S (x_d S)).2.2 (x_tg S o).2.1 (c_n (x_C S)) (c_s (x_C S))) hp6
  have h_r := h2.1
  have h_rw := h2.2.2.1
  have h_y := h2.2.2.2.2.2.1 _ hd
  have h_t : _ = some (o_Pn (x_tg S o)) := h2.tg ho
  have hC2 := c_Pa_addBehind hG h_y h_t (fun q => (x_ta_in ho).2.2 _ q.symm) (p_B (hok.2.2.1 _ hd).2) (p_B (hok.tg ho))
  rw [o_seq (hok.2.2.1 _ hd).2 (hok.tg ho)] at hC2
  refine q_aload_n d_Re_addThing_80 rfl rfl ?_
  refine q_get d_Re_addThing_81 f_Re_17 h_r rfl ?_
  refine q_aload_n d_Re_addThing_84 rfl rfl ?_
  refine q_get d_Re_addThing_85 f_Re_43 h_r rfl ?_
  refine q_aald d_Re_addThing_88 h_rw rfl hin (rw_at hd) ?_
  refine q_aload_n d_Re_addThing_89 rfl rfl ?_
  refine x_callV d_Re_addThing_90 l_Re_137 i_Pa_addBehind v_Pa_addBehind rfl h_y (hC2) rfl rfl (Nat.le_of_ble_eq_true rfl) (Nat.le_of_ble_eq_true rfl) (Nat.le_of_ble_eq_true rfl) (Nat.le_of_ble_eq_true rfl) ?_
  refine q_vret d_Re_addThing_93 rfl ?_ (Nat.le_of_ble_eq_true rfl) (Nat.le_of_ble_eq_true rfl) (by decide)
  refine ⟨_, rfl, rfl, h2.rw (t := p_seq (x_rw S (x_d S)) (x_tg S o)) hp6 hd, hF.trans ((F_A.set hp6 _ (by omega)).trans (F_A.set hp6 _ (by omega)))⟩
theorem x_star_a (o : Option Nat) (S : x_S) : x_a (x_star o S) = x_a S + 1 := by cases o <;> rfl
set_option maxRecDepth 10000 in
set_option maxHeartbeats 1000000 in
theorem l_Re_addThing (hG : q_GG g) {p n : Nat} {f : Nat → Int32} {tb : Nat → Nat} {nv np : Nat} {z : Nat → Nat} {o : Option Nat} {hpb : List va_E} (hp6 : p < 6) (ho : x_to o) (htb : t_ok n f tb) : ∀ (k : Nat) (S : x_S) (hp : List va_E), X_A p n f nv np z S hp → x_ok n S → F_A p hpb hp → n ≤ x_a S + k → q_J g m_Re_addThing true (q_R 1 15 0 0) (q_ho none (fun hp2 => X_A p n f nv np z (x_end o (x_sl n tb o k S)) hp2 ∧ F_A p hpb hp2)) 0 [some (.ref 37), some (.ref (7 + 5 * p)), some (.ref (x_ta o))] [] hp 0 0 true := by
  intro k
  induction k with
  | zero =>
    intro S hp h hok hF hk
    have h_r := h.1
    have h_ta := h.2.2.2.2.2.2.2.1
    show q_J g m_Re_addThing true (q_R 1 15 0 0) (q_ho none (fun hp2 => X_A p n f nv np z (x_end o S) hp2 ∧ F_A p hpb hp2)) 0 _ _ _ _ _ _
    refine q_aload_n d_Re_addThing_0 rfl rfl ?_
    refine q_get d_Re_addThing_1 f_Re_40 h_r rfl ?_
    refine q_aload_n d_Re_addThing_4 rfl rfl ?_
    refine q_get d_Re_addThing_5 f_Re_29 h_r rfl ?_
    refine q_get d_Re_addThing_8 f_Re_54 h_ta rfl ?_
    refine q_icmp_ge (tgt := 60) d_Re_addThing_11 (by decide) (fun b11 => ?_) (fun b11 => ?_)
    · skip
      exact l_Re_addEnd hG hp6 ho h hF hok
    · skip
      exact absurd (nI_le (show n ≤ x_a S by omega) (by have := htb.1; have := hok.2.1; omega)) b11
  | succ k ih =>
    intro S hp h hok hF hk
    have h_r := h.1
    have h_ta := h.2.2.2.2.2.2.2.1
    have h_by := h.2.2.2.2.2.2.2.2.1
    have h_t := h.tg ho
    have hto := hok.tg ho
    have hal := hok.2.1
    have hn100 := htb.1
    refine q_aload_n d_Re_addThing_0 rfl rfl ?_
    refine q_get d_Re_addThing_1 f_Re_40 h_r rfl ?_
    refine q_aload_n d_Re_addThing_4 rfl rfl ?_
    refine q_get d_Re_addThing_5 f_Re_29 h_r rfl ?_
    refine q_get d_Re_addThing_8 f_Re_54 h_ta rfl ?_
    refine q_icmp_ge (tgt := 60) d_Re_addThing_11 (by decide) (fun b11 => ?_) (fun b11 => ?_)
    · skip
      have hge : ¬ x_a S < n := fun q => nI_ge q (by have := htb.1; omega) b11
      have hS : x_sl n tb o (k + 1) S = S := by simp [x_sl, hge]
      rw [hS]
      exact l_Re_addEnd hG hp6 ho h hF hok
    · skip
      have hlt : x_a S < n := Nat.lt_of_not_le fun q => b11 (nI_le q (by have := htb.1; omega))
      refine q_aload_n d_Re_addThing_14 rfl rfl ?_
      refine q_get d_Re_addThing_15 f_Re_29 h_r rfl ?_
      refine q_aload_n d_Re_addThing_18 rfl rfl ?_
      refine q_get d_Re_addThing_19 f_Re_40 h_r rfl ?_
      refine x_callV d_Re_addThing_22 l_Re_74 i_Ta_byteAt v_Ta_byteAt rfl h_ta (c_Ta_byteAt hG h_ta h_by htb.1 (i := x_a S) (by omega)) rfl rfl (Nat.le_of_ble_eq_true rfl) (Nat.le_of_ble_eq_true rfl) (Nat.le_of_ble_eq_true rfl) (Nat.le_of_ble_eq_true rfl) ?_
      rw [if_pos hlt, (htb.2 _ hlt).1]
      refine q_bipush (v := 42) d_Re_addThing_25 (by decide) ?_
      refine q_icmp_ne (tgt := 60) d_Re_addThing_27 (by decide) (fun b27 => ?_) (fun b27 => ?_)
      · skip
        have hne : ¬ tb (x_a S) = 42 := fun q => b27 (by rw [q]; rfl)
        have hS : x_sl n tb o (k + 1) S = S := by simp [x_sl, hne]
        rw [hS]
        exact l_Re_addEnd hG hp6 ho h hF hok
      · skip
        have heq : tb (x_a S) = 42 := (nI_eq (b := 42) (by have := (htb.2 _ hlt).2; omega) (by decide)).mp b27
        have hS : x_sl n tb o (k + 1) S = x_sl n tb o k (x_star o S) := by simp [x_sl, hlt, heq]
        rw [hS]
        refine q_aload_n d_Re_addThing_30 rfl rfl ?_
        refine q_dup d_Re_addThing_31 rfl ?_
        refine q_get d_Re_addThing_32 f_Re_40 h_r rfl ?_
        refine q_iconst (v := 1) d_Re_addThing_35 (by decide) ?_
        refine q_iadd d_Re_addThing_36 ?_
        refine x_put d_Re_addThing_37 f_Re_40 h_r (Nat.le_of_ble_eq_true rfl) rfl rfl (fun hp1 e1 h_r => ?_)
        have h_t := q_keep e1 h_t (by have := (x_ta_in ho).1; omega)
        rw [nI_1] at e1 h_r
        have h2 : X_A p n f nv np z (x_d S, x_a S + 1, x_k S, x_p S, x_ch S, x_rw S, x_ac S, x_C S) hp1 := by rw [e1]; exact h.re hp6
        have hF2 : F_A p hpb hp1 := by rw [e1]; exact hF.trans (F_A.set hp6 _ (by omega))
        have h_c := h2.2.2.2.2.2.2.1.1
        have hC1 := c_Co_addSteps hG (fm := nI (x_tg S o).2.2) (to := nI (x_tg S o).2.1) h_c h2.2.2.2.2.2.2.1.2.1 hok.2.2.2.2.2.1
        rw [c_as_is (by have := hto.2.2; omega) hok.2.2.2.2.2.1] at hC1
        refine q_aload_n d_Re_addThing_40 rfl rfl ?_
        refine q_aload_n d_Re_addThing_41 rfl rfl ?_
        refine q_get d_Re_addThing_42 f_Re_123 h_t rfl ?_
        refine q_aload_n d_Re_addThing_45 rfl rfl ?_
        refine q_get d_Re_addThing_46 f_Re_126 h_t rfl ?_
        refine x_callV d_Re_addThing_49 l_Re_129 i_Co_addSteps v_Co_addSteps rfl h_c (hC1) rfl rfl (Nat.le_of_ble_eq_true rfl) (Nat.le_of_ble_eq_true rfl) (Nat.le_of_ble_eq_true rfl) (Nat.le_of_ble_eq_true rfl) ?_
        have h3 := h2.st (s' := c_as (x_tg S o).2.2 (x_tg S o).2.1 (c_n (x_C S)) (c_s (x_C S))) hp6
        have h_t := h3.tg ho
        refine q_aload_n d_Re_addThing_52 rfl rfl ?_
        refine q_iconst (v := 1) d_Re_addThing_53 (by decide) ?_
        refine x_put d_Re_addThing_54 f_Re_133 h_t (Nat.le_of_ble_eq_true rfl) rfl rfl (fun hp2 e2 h_t => ?_)
        refine q_goto (tgt := 0) d_Re_addThing_57 (by decide) ?_
        refine ih (x_star o S) hp2 ?_ (hok.star ho hlt) ?_ (by rw [x_star_a]; omega)
        · rw [e2]; exact h3.ts (t := (1, (x_tg S o).2.1, (x_tg S o).2.2)) hp6 ho
        · rw [e2]; exact hF2.trans ((F_A.set hp6 _ (by omega)).trans (F_A.set hp6 _ (by have := x_ta_in ho; omega)))
set_option maxRecDepth 10000 in
set_option maxHeartbeats 1000000 in
theorem c_Re_addThing (hG : q_GG g) {p n : Nat} {f : Nat → Int32} {tb : Nat → Nat} {nv np : Nat} {z : Nat → Nat} {S : x_S} {hp : List va_E} {o : Option Nat} (hp6 : p < 6) (ho : x_to o) (htb : t_ok n f tb) (h : X_A p n f nv np z S hp) (hok : x_ok n S) : q_C g m_Re_addThing true (q_R 1 15 0 0) [.ref 37, .ref (7 + 5 * p), .ref (x_ta o)] hp (q_ho none (fun hp2 => X_A p n f nv np z (x_add n tb o S) hp2 ∧ F_A p hp hp2)) := by
  refine q_C.of hG (by decide) (Nat.le_of_ble_eq_true rfl) ?_
  refine q_wrote ?_
  exact l_Re_addThing hG hp6 ho htb (n - x_a S) S hp h hok (F_A.refl p hp) (by omega)

end C11
