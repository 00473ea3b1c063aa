/-! Search: weights -/
section C17
variable {g : q_G}
abbrev o_Se (sc ec sk fk : Nat) : va_E := .inr (6, [.ref 3, .ref 68, .ref 70, .ref 72, .ref 74, .ref 76, .ref 79, .ref 80, .int (nI sc), .int (nI ec), .int (nI sk), .int (nI fk)])
/-- the weights -/
def w_vk (w : w_T) : Nat → Nat
  | 0 => 1
  | k + 1 => w_vk w k * w_z w (4 - k)
def w_pk (w : w_T) : Nat → Nat
  | 0 => w_vk w 5
  | k + 1 => w_pk w k * c_n (w_c w (w_p w - 1 - k))
def w_vw (w : w_T) (v : Nat) : Nat := w_vk w (4 - v)
def w_pw (w : w_T) (q : Nat) : Nat := w_pk w (w_p w - 1 - q)
set_option maxRecDepth 10000 in
set_option maxHeartbeats 2000000 in
theorem l_Se_wB {hpb : List va_E} {w : w_T} {pl : Nat → Int32} {sc ec sk fk : Nat} (hok : w_ok w) : ∀ (r : Nat), r ≤ w_p w → ∀ (hp0 : List va_E), hp0[67]? = some (o_Se sc ec sk fk) → hp0[3]? = some (o_Wo (w_n w) (w_p w)) → hp0[6]? = some a_Cr → (∀ q, q < 6 → hp0[7 + 5 * q]? = some (o_Co (7 + 5 * q) (nI (c_n (w_c w q))) (nI (c_e (w_c w q))))) → hp0[79]? = some (a_I 6 (w_dn r (w_p w) (w_pw w) pl)) → hp0 = hpb.set 79 (a_I 6 (w_dn r (w_p w) (w_pw w) pl)) → q_J g m_Se_weigh true (q_R 0 0 0 0) (q_ret none (hpb.set 79 (a_I 6 (w_dn 0 (w_p w) (w_pw w) pl)))) 43 [some (.ref 67), some (.int (nI (w_pk w (w_p w - r)))), some (.int (wo_c r))] [] hp0 0 0 true := by
  have hp6 := hok.2.1
  intro r
  induction r with
  | zero =>
    intro hr hp0 h_s h_w h_r h_cs h_pw e0
    refine q_iload_n d_Se_weigh_43 rfl ?_
    refine q_if_lt (tgt := 75) d_Se_weigh_44 (by decide) (fun b44 => ?_) (fun b44 => ?_)
    · skip
      refine q_vret d_Se_weigh_75 rfl ?_ (Nat.le_of_ble_eq_true rfl) (Nat.le_of_ble_eq_true rfl) (by decide)
      exact ⟨rfl, e0⟩
    · skip
      exact absurd (by decide) b44
  | succ r ih =>
    intro hr hp0 h_s h_w h_r h_cs h_pw e0
    rw [show wo_c (r + 1) = nI r from rfl]
    have hcl : (nI r).toNatClampNeg = r := nI_clamp (by omega)
    have hin : vp_in (nI r) 6 := vp_in_nI (by omega) (by decide)
    have hdv : nI (w_pk w (w_p w - (r + 1))) * nI (c_n (w_c w r)) = nI (w_pk w (w_p w - r)) := by
      rw [pk_mul, show w_p w - r = (w_p w - (r + 1)) + 1 by omega]
      show _ = nI (w_pk w (w_p w - (r + 1)) * c_n (w_c w (w_p w - 1 - (w_p w - (r + 1)))))
      rw [show w_p w - 1 - (w_p w - (r + 1)) = r by omega]
    have hd : nI (w_pk w (w_p w - (r + 1))) = nI (w_pw w r) := by
      unfold w_pw
      rw [show w_p w - 1 - r = w_p w - (r + 1) by omega]
    refine q_iload_n d_Se_weigh_43 rfl ?_
    refine q_if_lt (tgt := 75) d_Se_weigh_44 (by decide) (fun b44 => ?_) (fun b44 => ?_)
    · skip
      exact absurd b44 (nI_pos (by omega))
    · skip
      refine q_aload_n d_Se_weigh_47 rfl rfl ?_
      refine q_get d_Se_weigh_48 f_Se_34 h_s rfl ?_
      refine q_iload_n d_Se_weigh_51 rfl ?_
      refine q_iload_n d_Se_weigh_52 rfl ?_
      refine x_iast d_Se_weigh_53 h_pw rfl hin (fun hp1 e1 h_pw => ?_)
      have h_s := q_keep e1 h_s (by omega)
      have h_w := q_keep e1 h_w (by omega)
      rw [w_dn_s (show r < _ by omega) hcl hd] at e1 h_pw
      have h_r := q_keep e1 h_r (by omega)
      have h_cs : ∀ q, q < 6 → hp1[7 + 5 * q]? = some (o_Co (7 + 5 * q) (nI (c_n (w_c w q))) (nI (c_e (w_c w q)))) := fun q hq => q_keep e1 (h_cs q hq) (by omega)
      have h_c := h_cs r (by omega)
      refine q_iload_n d_Se_weigh_54 rfl ?_
      refine q_aload_n d_Se_weigh_55 rfl rfl ?_
      refine q_get d_Se_weigh_56 f_Se_41 h_s rfl ?_
      refine q_get d_Se_weigh_59 f_Se_110 h_w rfl ?_
      refine q_iload_n d_Se_weigh_62 rfl ?_
      refine q_aald d_Se_weigh_63 h_r rfl hin (cr_at (by omega)) ?_
      refine q_get d_Se_weigh_64 f_Se_114 h_c rfl ?_
      refine q_imul d_Se_weigh_67 ?_
      rw [hdv]
      refine q_istore_n d_Se_weigh_68 rfl (by decide) rfl ?_
      refine q_iinc d_Se_weigh_69 rfl (show _ + Int32.ofInt (-1) = _ + (-1) from rfl) (by decide) rfl ?_
      refine q_goto (tgt := 43) d_Se_weigh_72 (by decide) ?_
      rw [wo_c_m]
      exact ih (by omega) hp1 h_s h_w h_r h_cs h_pw (by rw [e1, e0, List.set_set])
set_option maxRecDepth 10000 in
set_option maxHeartbeats 2000000 in
theorem l_Se_wA {hp : List va_E} {w : w_T} {pl vl : Nat → Int32} {sc ec sk fk : Nat} (hok : w_ok w) (hw : w_A w hp) (h_p : hp[79]? = some (a_I 6 pl)) : ∀ (r : Nat), r ≤ 5 → ∀ (hp0 : List va_E), hp0[67]? = some (o_Se sc ec sk fk) → hp0[3]? = some (o_Wo (w_n w) (w_p w)) → hp0[4]? = some (a_N 5 (w_z w)) → hp0[80]? = some (a_I 5 (w_dn r 5 (w_vw w) vl)) → hp0 = hp.set 80 (a_I 5 (w_dn r 5 (w_vw w) vl)) → q_J g m_Se_weigh true (q_R 0 0 0 0) (q_ret none ((hp.set 80 (a_I 5 (w_dn 0 5 (w_vw w) vl))).set 79 (a_I 6 (w_dn 0 (w_p w) (w_pw w) pl)))) 4 [some (.ref 67), some (.int (nI (w_vk w (5 - r)))), some (.int (wo_c r))] [] hp0 0 0 true := by
  have hp6 := hok.2.1
  have hcn : nI (w_p w) - 1 = wo_c (w_p w) := by rw [← wo_c_m]; exact Int32.sub_eq_add_neg ..
  intro r
  induction r with
  | zero =>
    intro hr hp0 h_s h_w h_z h_vw e0
    refine q_iload_n d_Se_weigh_4 rfl ?_
    refine q_if_lt (tgt := 33) d_Se_weigh_5 (by decide) (fun b5 => ?_) (fun b5 => ?_)
    · skip
      refine q_aload_n d_Se_weigh_33 rfl rfl ?_
      refine q_get d_Se_weigh_34 f_Se_41 h_s rfl ?_
      refine q_get d_Se_weigh_37 f_Se_107 h_w rfl ?_
      refine q_iconst (v := 1) d_Se_weigh_40 (by decide) ?_
      refine q_isub d_Se_weigh_41 ?_
      rw [hcn]
      refine q_istore_n d_Se_weigh_42 rfl (by decide) rfl ?_
      rw [show w_vk w (5 - 0) = w_pk w (w_p w - w_p w) by rw [Nat.sub_self]; rfl]
      refine l_Se_wB hok (w_p w) (Nat.le_refl _) _ h_s h_w ?_ ?_ ?_ ?_
      · rw [e0]; exact q_keep rfl hw.2.2.2.1 (by omega)
      · intro q hq
        rw [e0]; exact q_keep rfl (hw.2.2.2.2 q hq).1 (by omega)
      · rw [e0, w_dn_m]; exact q_keep rfl h_p (by omega)
      · rw [e0, w_dn_m]; exact (q_same (q_keep rfl h_p (by omega))).symm
    · skip
      exact absurd (by decide) b5
  | succ r ih =>
    intro hr hp0 h_s h_w h_z h_vw e0
    rw [show wo_c (r + 1) = nI r from rfl]
    have hcl : (nI r).toNatClampNeg = r := nI_clamp (by omega)
    have hin : vp_in (nI r) 5 := vp_in_nI (by omega) (by decide)
    have hdv : nI (w_vk w (5 - (r + 1))) * nI (w_z w r) = nI (w_vk w (5 - r)) := by
      rw [pk_mul, show 5 - r = (5 - (r + 1)) + 1 by omega]
      show _ = nI (w_vk w (5 - (r + 1)) * w_z w (4 - (5 - (r + 1))))
      rw [show 4 - (5 - (r + 1)) = r by omega]
    have hd : nI (w_vk w (5 - (r + 1))) = nI (w_vw w r) := by
      unfold w_vw
      rw [show 4 - r = 5 - (r + 1) by omega]
    refine q_iload_n d_Se_weigh_4 rfl ?_
    refine q_if_lt (tgt := 33) d_Se_weigh_5 (by decide) (fun b5 => ?_) (fun b5 => ?_)
    · skip
      exact absurd b5 (nI_pos (by omega))
    · skip
      refine q_aload_n d_Se_weigh_8 rfl rfl ?_
      refine q_get d_Se_weigh_9 f_Se_38 h_s rfl ?_
      refine q_iload_n d_Se_weigh_12 rfl ?_
      refine q_iload_n d_Se_weigh_13 rfl ?_
      refine x_iast d_Se_weigh_14 h_vw rfl hin (fun hp1 e1 h_vw => ?_)
      have h_s := q_keep e1 h_s (by omega)
      have h_w := q_keep e1 h_w (by omega)
      have h_z := q_keep e1 h_z (by omega)
      rw [w_dn_s (show r < _ by omega) hcl hd] at e1 h_vw
      refine q_iload_n d_Se_weigh_15 rfl ?_
      refine q_aload_n d_Se_weigh_16 rfl rfl ?_
      refine q_get d_Se_weigh_17 f_Se_41 h_s rfl ?_
      refine q_get d_Se_weigh_20 f_Se_104 h_w rfl ?_
      refine q_iload_n d_Se_weigh_23 rfl ?_
      refine q_iald d_Se_weigh_24 h_z rfl hin ?_
      rw [hcl]
      refine q_imul d_Se_weigh_25 ?_
      rw [hdv]
      refine q_istore_n d_Se_weigh_26 rfl (by decide) rfl ?_
      refine q_iinc d_Se_weigh_27 rfl (show _ + Int32.ofInt (-1) = _ + (-1) from rfl) (by decide) rfl ?_
      refine q_goto (tgt := 4) d_Se_weigh_30 (by decide) ?_
      rw [wo_c_m]
      exact ih (by omega) hp1 h_s h_w h_z h_vw (by rw [e1, e0, List.set_set])
set_option maxRecDepth 10000 in
set_option maxHeartbeats 2000000 in
theorem c_Se_weigh (hG : q_GG g) {hp : List va_E} {w : w_T} {pl vl : Nat → Int32} {sc ec sk fk : Nat} (hok : w_ok w) (hw : w_A w hp) (h_s : hp[67]? = some (o_Se sc ec sk fk)) (h_p : hp[79]? = some (a_I 6 pl)) (h_v : hp[80]? = some (a_I 5 vl)) : q_C g m_Se_weigh true (q_R 0 0 0 0) [.ref 67] hp (q_ret none ((hp.set 80 (a_I 5 (w_dn 0 5 (w_vw w) vl))).set 79 (a_I 6 (w_dn 0 (w_p w) (w_pw w) pl)))) := by
  refine q_C.of hG (by decide) (Nat.le_of_ble_eq_true rfl) ?_
  refine q_iconst (v := 1) d_Se_weigh_0 (by decide) ?_
  refine q_istore_n d_Se_weigh_1 rfl (by decide) rfl ?_
  refine q_iconst (v := 4) d_Se_weigh_2 (by decide) ?_
  refine q_istore_n d_Se_weigh_3 rfl (by decide) rfl ?_
  refine q_wrote ?_
  exact l_Se_wA hok hw h_p 5 (Nat.le_refl _) hp h_s hw.1 hw.2.1 (by rw [w_dn_m]; exact h_v) (by rw [w_dn_m]; exact (q_same h_v).symm)
set_option maxRecDepth 10000 in
set_option maxHeartbeats 2000000 in
theorem c_Se_forget (hG : q_GG g) {hp : List va_E} {sc ec sk fk : Nat} (h_s : hp[67]? = some (o_Se sc ec sk fk)) : q_C g m_Se_forget true (q_R 0 0 0 0) [.ref 67] hp (q_ret none (hp.set 67 (o_Se sc ec 0 0))) := by
  refine q_C.of hG (by decide) (Nat.le_of_ble_eq_true rfl) ?_
  refine q_aload_n d_Se_forget_0 rfl rfl ?_
  refine q_iconst (v := 0) d_Se_forget_1 (by decide) ?_
  refine x_put d_Se_forget_2 f_Se_45 h_s (Nat.le_of_ble_eq_true rfl) rfl rfl (fun hp1 e1 h_s => ?_)
  refine q_aload_n d_Se_forget_5 rfl rfl ?_
  refine q_iconst (v := 0) d_Se_forget_6 (by decide) ?_
  refine x_put d_Se_forget_7 f_Se_49 h_s (Nat.le_of_ble_eq_true rfl) rfl rfl (fun hp2 e2 h_s => ?_)
  refine q_vret d_Se_forget_10 rfl ?_ (Nat.le_of_ble_eq_true rfl) (Nat.le_of_ble_eq_true rfl) (by decide)
  exact ⟨rfl, by subst e1; subst e2; rw [List.set_set]; rfl⟩
end C17
