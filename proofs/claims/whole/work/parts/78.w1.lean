/-! the law: what holds between the calls -/
section W1
theorem cn_cut {M : Nat → Bool} {N : Nat} (h : ∀ m, N ≤ m → M m = false) : ∀ k, cn M (N + k) = cn M N := by
  intro k
  induction k with
  | zero => rfl
  | succ k ih =>
    show cn M (N + k) + (if M (N + k) then 1 else 0) = _
    rw [h (N + k) (by omega), ih]
    rfl
theorem cn_uniq {M : Nat → Bool} {x y : Nat} (hx : M x = true) (hy : M y = true) (h : cn M x = cn M y) : x = y := by
  rcases Nat.lt_trichotomy x y with q | q | q
  · have := cn_lt2 (M := M) q hx
    omega
  · exact q
  · have := cn_lt2 (M := M) q hy
    omega
theorem w_R_lt {w : w_T} {a t : Nat} (ha : a < w_q w) (hs : ∀ x y, N_sc w x y = true → y < w_q w) (h : rr_R (w_S w) a t) : t < w_q w := h (fun k => k < w_q w) ha (fun x y _ s => hs x y s.2)
theorem mv_uniq {w : w_T} {pl vl : Nat → Nat} {q1 q2 : Nat} {k : Nat} (h1 : w_mv w pl vl q1 ≤ k) (h2 : k < w_mv w pl vl (q1 + 1)) (h3 : w_mv w pl vl q2 ≤ k) (h4 : k < w_mv w pl vl (q2 + 1)) : q1 = q2 := by
  rcases Nat.lt_trichotomy q1 q2 with q | q | q
  · have := w_mv_le (w := w) (pl := pl) (vl := vl) (q1 + 1) q2 q
    omega
  · exact q
  · have := w_mv_le (w := w) (pl := pl) (vl := vl) (q2 + 1) q1 q
    omega
theorem pb_uniq {x i j : Nat} (hi : x.testBit i = true) (hj : x.testBit j = true) (h : pb_cnt i x = pb_cnt j x) : i = j := by
  have e : ∀ a b, a < b → x.testBit a = true → pb_cnt a x < pb_cnt b x := by
    intro a b hab ha
    induction b with
    | zero => omega
    | succ b ih =>
      rw [pb_cnt_s]
      by_cases q : a = b
      · subst q
        rw [if_pos ha]
        omega
      · have := ih (by omega)
        omega
  rcases Nat.lt_trichotomy i j with q | q | q
  · have := e i j q hi
    omega
  · exact q
  · have := e j i q hj
    omega
theorem uu_congr {w : w_T} {pl pl' : Nat → Nat} : ∀ r, (∀ q, q < r → pl q = pl' q) → w_u1 w pl r = w_u1 w pl' r := by
  intro r
  induction r with
  | zero => exact fun _ => rfl
  | succ r ih =>
    intro h
    show w_u1 w pl r * _ + pl r = w_u1 w pl' r * _ + pl' r
    rw [ih (fun q hq => h q (by omega)), h r (by omega)]
theorem u_congr {w : w_T} {pl pl' vl vl' : Nat → Nat} (h1 : ∀ q, q < w_p w → pl q = pl' q) (h2 : ∀ v, v < 5 → vl v = vl' v) : w_u w pl vl = w_u w pl' vl' := by
  have e : ∀ r, r ≤ 5 → w_u2 w pl vl r = w_u2 w pl' vl' r := by
    intro r
    induction r with
    | zero => exact fun _ => uu_congr _ h1
    | succ r ih =>
      intro hr
      show w_u2 w pl vl r * _ + vl r = w_u2 w pl' vl' r * _ + vl' r
      rw [ih (by omega), h2 r (by omega)]
  exact e 5 (Nat.le_refl _)
theorem u_first {w : w_T} {cp cv : Nat → Nat} (hok : w_ok w) : w_u w (cp0 cp) (cv0 (w_f w) cv) = w_0 w :=
  u_congr (fun q hq => if_pos (Nat.lt_of_lt_of_le hq hok.2.1)) (fun v hv => if_pos hv)
theorem w_00_lt {w : w_T} (hok : w_ok w) : w_0 w < w_q w := by
  have h := s_lt (c_first (cp := fun _ => 0) (cv := fun _ => 0) hok)
  rw [u_first hok] at h
  exact h
theorem w_R_q {w : w_T} (hmk : w_mk w) {a t : Nat} (ha : a < w_q w) (h : rr_R (w_S w) a t) : t < w_q w := w_R_lt ha (fun _ _ hs => N_sc_lt hmk.1 hmk.fz hs) h
theorem w_f_0 {w : w_T} (hmk : w_mk w) {v : Nat} (h1 : w_n w ≤ v) (h2 : v < 5) : w_f w v = 0 := by
  have a := (hmk.1.2.2.1 v h2).2.2
  rw [hmk.2.2.2 v h1 h2] at a
  omega
/-- both know the same stuck states -/
theorem sk_tie {w : w_T} {R St sn : Nat → Bool} {o : Nat × Nat × Nat × Nat} (hmk : w_mk w) (hN : w_q w ≤ 30000) (h : S_K w R St o) (hsn : ∀ k, sn k = true ↔ rr_R (w_S w) (w_0 w) k) : (∀ m, m < 30016 → St m = f_F w sn m) ∧ o.1 = cn (f_F w sn) (w_q w) ∧ o.2.1 = cn (f_E w sn) (w_q w) := by
  have hR : ∀ m, m < 30016 → R m = sn m := fun m hm => by
    have a := h.1 m hm
    have b := hsn m
    cases hr : R m <;> cases hs : sn m
    · rfl
    · exact absurd (a.mpr (b.mp hs)) (by rw [hr]; exact Bool.false_ne_true)
    · exact absurd (b.mpr (a.mp hr)) (by rw [hs]; exact Bool.false_ne_true)
    · rfl
  have hS : ∀ m, m < 30016 → St m = f_F w sn m := fun m hm => by rw [h.2.1 m hm, hR m hm]
  have hz : ∀ m, w_q w ≤ m → f_F w sn m = false := fun m hm => by
    cases hs : sn m
    · show (sn m && _) = false
      rw [hs]
      rfl
    · have := w_R_q hmk (w_00_lt hmk.1) ((hsn m).mp hs)
      omega
  have e1 := cn_cut hz (30016 - w_q w)
  have e2 := cn_cut (M := f_E w sn) (N := w_q w) (fun m hm => by show (f_F w sn m && _) = false; rw [hz m hm]; rfl) (30016 - w_q w)
  rw [show w_q w + (30016 - w_q w) = 30016 by omega] at e1 e2
  refine ⟨hS, ?_, ?_⟩
  · rw [h.2.2.1, ← e1]
    exact cn_eq 30016 hS
  · rw [h.2.2.2, ← e2]
    exact cn_eq 30016 (fun m hm => by show (St m && _) = (f_F w sn m && _); rw [hS m hm])
theorem m_ct_is {C : c_T} (hC : c_ok C) : co_cs (fun j => nI (c_s C j)) (c_n C) = nI (m_ct C 13) := by
  have e1 : ∀ i, i ≤ c_n C → co_cs (fun j => nI (c_s C j)) i = nI (m_ct C i) := by
    intro i
    induction i with
    | zero => exact fun _ => rfl
    | succ i ih =>
      intro hi
      have h13 := hC.2.1
      show co_cs _ i + j_ib (nI (c_s C i)) = nI (m_ct C i + pb_cnt 13 (if i < c_n C then c_s C i else 0))
      rw [ih (by omega), if_pos (by omega), pb_ib _ (hC.2.2.2 i (by omega)).1, nI_add]
  have e2 : ∀ k, m_ct C (c_n C + k) = m_ct C (c_n C) := by
    intro k
    induction k with
    | zero => rfl
    | succ k ih =>
      show m_ct C (c_n C + k) + pb_cnt 13 (if c_n C + k < c_n C then _ else 0) = _
      rw [if_neg (by omega), pb_z, ih]
      rfl
  have h3 := e2 (13 - c_n C)
  rw [show c_n C + (13 - c_n C) = 13 by have := hC.2.1; omega] at h3
  rw [e1 _ (Nat.le_refl _), h3]
/-- the class's cells -/
def C_P (n : Nat) (tb : Nat → Nat) (w : w_T) (S : x_S) (cp cv : Nat → Nat) (gone : Nat) (hp : List va_E) : Prop := ∃ (f : Nat → Int32) (B : z_S), T_A n f w S B cp cv gone hp ∧ t_ok n f tb ∧ z_K w B hp
def P_P (w : w_T) (S : x_S) (cp cv : Nat → Nat) : Prop := w_mk w ∧ (∃ n0, x_ok n0 S) ∧ s_ok w cp cv ∧ w_R w (w_u w cp cv)
def N_M (cp cv : Nat → Nat) (A : Nat → Nat → Int32) : Prop := (∀ q, q < 6 → A 19 q = nI (cp q)) ∧ ∀ v, v < 5 → A 19 (6 + v) = nI (cv v)
def M_R (n : Nat) (tb : Nat → Nat) (w : w_T) (S : x_S) (cp cv : Nat → Nat) (gone : Nat) (m : Nat → Int32) (A : Nat → Nat → Int32) : Prop := m 2 = nI n ∧ (∀ j, j < n → A 0 j = nI (tb j)) ∧ m 3 = nI (x_k S) ∧ m 4 = x_p S ∧ W_M w m A ∧ N_M cp cv A ∧ m 34 = nI gone ∧ k_St w m A
def M_P (n : Nat) (tb : Nat → Nat) (w : w_T) (S : x_S) (cp cv : Nat → Nat) (gone : Nat) (hp : List va_E) : Prop := ∃ (m : Nat → Int32) (A : Nat → Nat → Int32), M_A hp m A hp ∧ M_R n tb w S cp cv gone m A
def O_P (hp : List va_E) : Prop := ∃ f, hp[110]? = some (a_J 1 f)
def I_L (hp : List va_E) : Prop := ∃ (n : Nat) (tb : Nat → Nat) (w : w_T) (S : x_S) (cp cv : Nat → Nat) (gone : Nat), C_P n tb w S cp cv gone hp ∧ P_P w S cp cv ∧ M_P n tb w S cp cv gone hp ∧ O_P hp
section
variable {n : Nat} {tb : Nat → Nat} {w : w_T} {S : x_S} {cp cv : Nat → Nat} {gone : Nat} {hp hp' : List va_E} {f : Nat → Int32} {B : z_S}
theorem T_A.keep (h : T_A n f w S B cp cv gone hp) (k : ∀ i, i < 84 → hp'[i]? = hp[i]?) : T_A n f w S B cp cv gone hp' := by
  obtain ⟨h0, h1, h2, h3, h4, h5, h6⟩ := h
  refine ⟨(k _ (by omega)).trans h0, (k _ (by omega)).trans h1, (k _ (by omega)).trans h2, ?_, ?_, z_A_of h5 (fun i a b => k i (by omega)), (k _ (by omega)).trans h6.1, (k _ (by omega)).trans h6.2.1, (k _ (by omega)).trans h6.2.2⟩
  · exact ⟨(k _ (by omega)).trans h3.1, (k _ (by omega)).trans h3.2.1, (k _ (by omega)).trans h3.2.2.1, (k _ (by omega)).trans h3.2.2.2.1, fun q hq => ⟨(k _ (by omega)).trans (h3.2.2.2.2 q hq).1, (k _ (by omega)).trans (h3.2.2.2.2 q hq).2.1, (k _ (by omega)).trans (h3.2.2.2.2 q hq).2.2.1, (k _ (by omega)).trans (h3.2.2.2.2 q hq).2.2.2.1, (k _ (by omega)).trans (h3.2.2.2.2 q hq).2.2.2.2⟩⟩
  · exact ⟨(k _ (by omega)).trans h4.1, (k _ (by omega)).trans h4.2.1, (k _ (by omega)).trans h4.2.2.1, (k _ (by omega)).trans h4.2.2.2.1, fun i hi => (k _ (by omega)).trans (h4.2.2.2.2.1 i hi), fun i hi => (k _ (by omega)).trans (h4.2.2.2.2.2 i hi)⟩
theorem C_P.keep (h : C_P n tb w S cp cv gone hp) (k : ∀ i, i < 84 → hp'[i]? = hp[i]?) : C_P n tb w S cp cv gone hp' := by
  obtain ⟨f, B, h1, h2, h3⟩ := h
  exact ⟨f, B, h1.keep k, h2, h3.keep (k _ (by omega)) (k _ (by omega))⟩
theorem M_A.move {b : List va_E} {m : Nat → Int32} {A : Nat → Nat → Int32} (h : M_A b m A hp) (k : ∀ i, 84 ≤ i → i ≤ 109 → hp'[i]? = hp[i]?) : M_A hp' m A hp' :=
  ⟨(k _ (by omega) (by omega)).trans h.1, fun j hj => (k _ (by omega) (by omega)).trans (h.2.1 j hj), F_M.refl _⟩
theorem M_P.keep (h : M_P n tb w S cp cv gone hp) (k : ∀ i, 84 ≤ i → i ≤ 109 → hp'[i]? = hp[i]?) : M_P n tb w S cp cv gone hp' := by
  obtain ⟨m, A, h1, h2⟩ := h
  exact ⟨m, A, h1.move k, h2⟩
theorem O_P.keep (h : O_P hp) (k : hp'[110]? = hp[110]?) : O_P hp' := by
  obtain ⟨f, h⟩ := h
  exact ⟨f, k.trans h⟩
theorem O_P.len (h : O_P hp) : 110 < hp.length := by
  obtain ⟨f, h⟩ := h
  exact (List.getElem?_eq_some_iff.mp h).1
theorem P_P.mT (h : C_P n tb w S cp cv gone hp) : m_T n tb := by
  obtain ⟨f, B, -, h2, -⟩ := h
  exact ⟨h2.1, fun j hj => (h2.2 j hj).2⟩
theorem N_M.st {A : Nat → Nat → Int32} (h : N_M cp cv A) (hok : w_ok w) : st_M w cp cv (A 19) := ⟨fun q hq => h.1 q (Nat.lt_of_lt_of_le hq hok.2.1), fun v hv => h.2 v (Nat.lt_of_lt_of_le hv hok.1)⟩
/-- the model's begin -/
theorem N_M.begin {A A' : Nat → Nat → Int32} {cp cv : Nat → Nat} (hmk : w_mk w) (hf : ∀ v, v < w_n w → A 2 v = nI (w_f w v)) (e : A' 19 = bg2 (w_n w) 5 (A 2) (bg1 6 (A 19))) : N_M (cp0 cp) (cv0 (w_f w) cv) A' := by
  refine ⟨fun q hq => ?_, fun v hv => ?_⟩
  · rw [e]
    show (if 6 ≤ q ∧ q < 6 + 5 then _ else (if q < 6 then (0 : Int32) else _)) = nI (if q < 6 then 0 else _)
    rw [if_neg (by omega), if_pos hq, if_pos hq]
    rfl
  · rw [e]
    show (if 6 ≤ 6 + v ∧ 6 + v < 6 + 5 then (if 6 + v - 6 < w_n w then A 2 (6 + v - 6) else 0) else _) = nI (if v < 5 then w_f w v else _)
    rw [if_pos (by omega), if_pos hv, show 6 + v - 6 = v by omega]
    by_cases h : v < w_n w
    · rw [if_pos h, hf v h]
    · rw [if_neg h, w_f_0 hmk (by omega) hv]
      rfl
end
/-- worlds -/
theorem w_mk.av {w : w_T} {x y : Nat} (h : w_mk w) (hn : w_n w < 5) (hx2 : 2 ≤ x) (hx5 : x ≤ 5) (hyx : y < x) : w_mk (w_av w x y) := by
  refine ⟨w_av_ok h.1 hn hx2 hx5 hyx, h.2.1.av hx2, h.2.2.1, fun v h1 h2 => ?_⟩
  have h1 : w_n w + 1 ≤ v := h1
  show va_up (w_z w) (w_n w) x v = 1
  rw [va_up_ne _ _ (by omega)]
  exact h.2.2.2 v (by omega) h2
theorem w_mk.cl {w : w_T} (h : w_mk w) : w_mk (w_cl w) := ⟨w_cl_ok h.1, w_ky.cl, fun q hq => absurd hq (Nat.not_lt_zero q), fun v _ h2 => if_pos h2⟩
theorem w_mk.sc {w : w_T} {C : c_T} (h : w_mk w) (hC : c_ok C) : w_mk (w_sc w (w_p w) C) := by
  refine ⟨w_sc_ok h.1 hC, h.2.1.sc, fun q hq => ?_, h.2.2.2⟩
  have hq : q < w_p w := hq
  show c_bz (if q = w_p w then C else w_c w q)
  rw [if_neg (by omega)]
  exact h.2.2.1 q hq
theorem w_mk.in {w : w_T} {C : c_T} (h : w_mk w) (hp : w_p w < 6) (hC : c_ok C) (hk : c_ky (w_n w) (w_z w) C) (hb : c_bz C) : w_mk (w_in (w_sc w (w_p w) C)) := by
  refine ⟨w_in_ok (w_sc_ok h.1 hC) hp, h.2.1.in hk, fun q hq => ?_, h.2.2.2⟩
  have hq : q < w_p w + 1 := hq
  show c_bz (if q = w_p w then C else w_c w q)
  by_cases e : q = w_p w
  · rw [if_pos e]; exact hb
  · rw [if_neg e]; exact h.2.2.1 q (by omega)
theorem P_P.first {w : w_T} {S : x_S} {cp cv : Nat → Nat} (hmk : w_mk w) (hx : ∃ n0, x_ok n0 S) : P_P w S (cp0 cp) (cv0 (w_f w) cv) :=
  ⟨hmk, hx, c_first hmk.1, by rw [u_first hmk.1]; exact rr_self _ _⟩
end W1
