/-! The engine, 9: the rows that throw -/
section ENG9
variable {g : q_G} {M : q_Me} {fr : Bool} {rm : Room} {P : Outcome → List va_E → Prop} {pc : Nat} {ls : List (Option Value)} {hp : List va_E} {c s : Nat}
set_option maxRecDepth 100000 in
theorem x_thr1 {si : Nat} {text : String} (hG : q_GG g) (hM : M.1.cls = "StuckSearch") (hd0 : decode M.2.1 pc = .ok (.new 48, 3)) (hd1 : decode M.2.1 (pc + 3) = .ok (.dup, 1)) (hd2 : decode M.2.1 (pc + 4) = .ok (.ldc si, 2)) (hd3 : decode M.2.1 (pc + 6) = .ok (.invokespecial 52, 3)) (hd4 : decode M.2.1 (pc + 9) = .ok (.athrow, 1)) (hw4 : Jvm.Cond.stringRef "StuckSearch" si text ∈ q_gw) (hnh : M.2.2.2.2 = []) (hfr : 5 < rm.frames) (hlo : 82 ≤ rm.locals) (hce : 1 ≤ rm.cells) (hsl : 6 ≤ rm.slots) (hP : P (.threw hp.length) (hp ++ [.inr (10, [])])) : q_J g M fr rm P pc ls [] hp c s false :=
  q_throwS (Ex := "java/lang/IllegalArgumentException") (ci := 10) (tf := []) _ rfl hd0 hd1 hd2 hd3 hd4 (by rw [hM]; exact q_i 523 (by rfl)) (q_i 524 (by rfl)) (q_i 15 (by rfl)) (by rw [hM]; exact hw4) (by decide) (by decide)
    (fun u args hu hh => by rw [hM]; exact q_own2 hG hu hh ow_1 ot_1) hG.2.2.2.2 hnh hfr hlo hce hsl hP
    (fun u hu cX hc => Option.some.inj (hc.symm.trans (u_Kn_moved hu.alike (hG.2.1 10 _ rfl)).2.1)) ⟨_, rfl, rfl⟩
set_option maxRecDepth 100000 in
theorem x_thr2 {si : Nat} {text : String} (hG : q_GG g) (hM : M.1.cls = "StuckSearch") (hd0 : decode M.2.1 pc = .ok (.new 164, 3)) (hd1 : decode M.2.1 (pc + 3) = .ok (.dup, 1)) (hd2 : decode M.2.1 (pc + 4) = .ok (.ldc si, 2)) (hd3 : decode M.2.1 (pc + 6) = .ok (.invokespecial 168, 3)) (hd4 : decode M.2.1 (pc + 9) = .ok (.athrow, 1)) (hw4 : Jvm.Cond.stringRef "StuckSearch" si text ∈ q_gw) (hnh : M.2.2.2.2 = []) (hfr : 5 < rm.frames) (hlo : 82 ≤ rm.locals) (hce : 1 ≤ rm.cells) (hsl : 6 ≤ rm.slots) (hP : P (.threw hp.length) (hp ++ [.inr (11, [])])) : q_J g M fr rm P pc ls [] hp c s false :=
  q_throwS (Ex := "java/lang/IndexOutOfBoundsException") (ci := 11) (tf := []) _ rfl hd0 hd1 hd2 hd3 hd4 (by rw [hM]; exact q_i 617 (by rfl)) (q_i 618 (by rfl)) (q_i 16 (by rfl)) (by rw [hM]; exact hw4) (by decide) (by decide)
    (fun u args hu hh => by rw [hM]; exact q_own2 hG hu hh ow_2 ot_2) hG.2.2.2.2 hnh hfr hlo hce hsl hP
    (fun u hu cX hc => Option.some.inj (hc.symm.trans (u_Kn_moved hu.alike (hG.2.1 11 _ rfl)).2.1)) ⟨_, rfl, rfl⟩
set_option maxRecDepth 100000 in
theorem x_thr3 {si : Nat} {text : String} (hG : q_GG g) (hM : M.1.cls = "StuckSearch") (hd0 : decode M.2.1 pc = .ok (.new 196, 3)) (hd1 : decode M.2.1 (pc + 3) = .ok (.dup, 1)) (hd2 : decode M.2.1 (pc + 4) = .ok (.ldc si, 2)) (hd3 : decode M.2.1 (pc + 6) = .ok (.invokespecial 200, 3)) (hd4 : decode M.2.1 (pc + 9) = .ok (.athrow, 1)) (hw4 : Jvm.Cond.stringRef "StuckSearch" si text ∈ q_gw) (hnh : M.2.2.2.2 = []) (hfr : 5 < rm.frames) (hlo : 82 ≤ rm.locals) (hce : 1 ≤ rm.cells) (hsl : 6 ≤ rm.slots) (hP : P (.threw hp.length) (hp ++ [.inr (12, [])])) : q_J g M fr rm P pc ls [] hp c s false :=
  q_throwS (Ex := "java/lang/IllegalStateException") (ci := 12) (tf := []) _ rfl hd0 hd1 hd2 hd3 hd4 (by rw [hM]; exact q_i 651 (by rfl)) (q_i 652 (by rfl)) (q_i 20 (by rfl)) (by rw [hM]; exact hw4) (by decide) (by decide)
    (fun u args hu hh => by rw [hM]; exact q_own2 hG hu hh ow_3 ot_3) hG.2.2.2.2 hnh hfr hlo hce hsl hP
    (fun u hu cX hc => Option.some.inj (hc.symm.trans (u_Kn_moved hu.alike (hG.2.1 12 _ rfl)).2.1)) ⟨_, rfl, rfl⟩
end ENG9
