/-! plans, the class: harms of a path, kept -/
def HP (s : Nat → Nat → Int32) (p : Nat) (J : Nat → Nat → Int64) : Prop := ∀ y, y < cY s → ∀ d, d ≤ fr s (y + 1) → J (27 + p) (y * 49 + d) = lN (nHarm s (nLv s p y) (cW s + d) y (gB s y))
section
variable {X : hX} {d : Nat} {s I : Nat → Nat → Int32} {J : Nat → Nat → Int64} {R : Nat → Nat → Option Nat} {N : Nat → Nat} {G : hG} {Q : Option Value → hM → Prop}
theorem l_fl1 (hS : St s I) (hW : Wf s) (hL : Lk s R N) {p : Nat} (hp : p < cP s) (hB : ∀ y, y < cY s → I 25 y = gB s y) {y : Nat} (hy : y < cY s) (kk : ∀ (I1 : Nat → Nat → Int32) (J1 : Nat → Nat → Int64), Only [oT (cLw s) + 3, oT (cLw s) + 2] I I1 → OnlyJ [27 + p] J J1 → (∀ y', y' < y → ∀ d', d' ≤ fr s (y' + 1) → J1 (27 + p) (y' * 49 + d') = lN (nHarm s (nLv s p y') (cW s + d') y' (gB s y'))) → (∀ d', d' ≤ fr s (y + 1) → J1 (27 + p) (y * 49 + d') = lN (nHarm s (nLv s p y) (cW s + d') y (gB s y))) → XP X (d + 4) k_Planner_fillHarms 68 [.ref (21), .int (nI (p)), .int (nI (cY s)), .int (nI (y)), .int (nI (nLv s p y)), .int (nI (fr s (y + 1) + 1))] [] (I1, J1, Rx R, N, G) Q) :
    ∀ (n dd : Nat) (I1 : Nat → Nat → Int32) (J1 : Nat → Nat → Int64), dd + n = fr s (y + 1) + 1 → Only [oT (cLw s) + 3, oT (cLw s) + 2] I I1 → OnlyJ [27 + p] J J1 → (∀ y', y' < y → ∀ d', d' ≤ fr s (y' + 1) → J1 (27 + p) (y' * 49 + d') = lN (nHarm s (nLv s p y') (cW s + d') y' (gB s y'))) → (∀ d', d' < dd → J1 (27 + p) (y * 49 + d') = lN (nHarm s (nLv s p y) (cW s + d') y (gB s y))) → XP X (d + 4) k_Planner_fillHarms 32 [.ref (21), .int (nI (p)), .int (nI (cY s)), .int (nI (y)), .int (nI (nLv s p y)), .int (nI (dd))] [] (I1, J1, Rx R, N, G) Q := by
  have hy16 := hW.y.2.2
  have hp4 := hW.p.2
  have hw60 := hW.w.2
  have hf1 := fr_le s (show y + 1 ≤ 16 by omega)
  intro n
  induction n with
  | zero =>
    rintro dd I1 J1 hd hO1 hJ1 hr1 hr2
    have hS1 : St s I1 := St_only hS hO1 (lw_scr hW)
    obtain rfl : dd = fr s (y + 1) + 1 := by omega
    refine XP_n 5 (pc' := 37) (ls' := [.ref (21), .int (nI (p)), .int (nI (cY s)), .int (nI (y)), .int (nI (nLv s p y)), .int (nI (fr s (y + 1) + 1))]) (st' := [.int ((nI (y)) + (nI (1))), .ref (21), .int (nI (fr s (y + 1) + 1))]) (M' := (I1, J1, Rx R, N, G)) rfl ?_
    rw [show (nI (y)) + (nI (1)) = nI (y + 1) from nI_addE (rfl) (rfl)]
    refine XP_pure rfl rfl (c_fr hS1 hW (by omega)) ?_
    refine XP_icN (x := fr s (y + 1) + 1) (y := fr s (y + 1)) rfl (by omega) (by omega) (fun (b38 : fr s (y + 1) < fr s (y + 1) + 1) => ?_) (fun (b38 : fr s (y + 1) + 1 ≤ fr s (y + 1)) => absurd b38 (by omega))
    exact kk _ _ hO1 hJ1 hr1 (fun d' h => hr2 d' (by omega))
  | succ n ih =>
    rintro dd I1 J1 hd hO1 hJ1 hr1 hr2
    have hS1 : St s I1 := St_only hS hO1 (lw_scr hW)
    have hl150 := (nLv_ok hW hp (show y ≤ 15 by omega)).2
    have hB1 : I1 25 y = gB s y := (congrFun (hO1 25 (by have := oT_ge (cLw s); simp; omega)) y).trans (hB y hy)
    refine XP_n 5 (pc' := 37) (ls' := [.ref (21), .int (nI (p)), .int (nI (cY s)), .int (nI (y)), .int (nI (nLv s p y)), .int (nI (dd))]) (st' := [.int ((nI (y)) + (nI (1))), .ref (21), .int (nI (dd))]) (M' := (I1, J1, Rx R, N, G)) rfl ?_
    rw [show (nI (y)) + (nI (1)) = nI (y + 1) from nI_addE (rfl) (rfl)]
    refine XP_pure rfl rfl (c_fr hS1 hW (by omega)) ?_
    refine XP_icN (x := dd) (y := fr s (y + 1)) rfl (by omega) (by omega) (fun (b38 : fr s (y + 1) < dd) => absurd b38 (by omega)) (fun (b38 : dd ≤ fr s (y + 1)) => ?_)
    refine XP_n 2 (pc' := 41) (ls' := [.ref (21), .int (nI (p)), .int (nI (cY s)), .int (nI (y)), .int (nI (nLv s p y)), .int (nI (dd))]) (st' := [.int (nI (49)), .int (nI (dd))]) (M' := (I1, J1, Rx R, N, G)) rfl ?_
    refine XP_icN (x := dd) (y := 49) rfl (by omega) (by omega) (fun (b41 : 49 ≤ dd) => absurd b41 (by omega)) (fun (b41 : dd < 49) => ?_)
    refine XP_n 3 (pc' := 45) (ls' := [.ref (21), .int (nI (p)), .int (nI (cY s)), .int (nI (y)), .int (nI (nLv s p y)), .int (nI (dd))]) (st' := [.int (nI (p)), .ref (26)]) (M' := (I1, J1, Rx R, N, G)) rfl ?_
    refine XP_aaldS (a := 27 + p) rfl rfl (show p < 4 by omega) rfl (by omega) (rx26 R (by omega)) ?_
    refine XP_n 10 (pc' := 56) (ls' := [.ref (21), .int (nI (p)), .int (nI (cY s)), .int (nI (y)), .int (nI (nLv s p y)), .int (nI (dd))]) (st' := [.ref (1), .int (nI (nLv s p y)), .ref (1), .int (((nI (y)) * (nI (49))) + (nI (dd))), .ref (27 + p)]) (M' := (I1, J1, Rx R, N, G)) rfl ?_
    rw [show ((nI (y)) * (nI (49))) + (nI (dd)) = nI ((y) * (49) + dd) from nI_addE (nI_mulE (rfl) (rfl)) (rfl)]
    refine XP_geti hS1 rfl rfl rfl ?_
    rw [hW.w.1]
    refine XP_n 6 (pc' := 63) (ls' := [.ref (21), .int (nI (p)), .int (nI (cY s)), .int (nI (y)), .int (nI (nLv s p y)), .int (nI (dd))]) (st' := [.int (nI (y)), .ref (25), .int (nI (y)), .int ((nI (cW s)) + (nI (dd))), .int (nI (nLv s p y)), .ref (1), .int (nI ((y) * (49) + dd)), .ref (27 + p)]) (M' := (I1, J1, Rx R, N, G)) rfl ?_
    rw [show (nI (cW s)) + (nI (dd)) = nI (cW s + dd) from nI_addE (rfl) (rfl)]
    refine XP_iraw rfl rfl (show y < 17 by omega) rfl (by omega) ?_
    rw [show I1 25 y = gB s y from hB1]
    refine XP_call rfl (rfl) (c_harm hS1 hW hL (by omega) (by omega) _ _) ?_
    rintro v21 M21 ⟨rfl, I21, rfl, hO21⟩
    have hS21 : St s I21 := St_only hS1 hO21 (lw_scr hW)
    have hn21 : Only [oT (cLw s) + 3, oT (cLw s) + 2] I I21 := Only.c hO1 hO21 (by simp)
    rw [(nHarm_ok hW (nLv s p y) (cW s + dd) (y) (gB s y)).1]
    refine XP_last rfl (a27 (by omega)) (show (y) * (49) + dd < 784 by omega) (l27 N (by omega)) (by omega) ?_
    refine XP_n 1 (pc' := 67) (ls' := [.ref (21), .int (nI (p)), .int (nI (cY s)), .int (nI (y)), .int (nI (nLv s p y)), .int (nI (dd) + nI (1))]) (st' := []) (M' := (I21, (rw2 J1 (27 + p) ((y) * (49) + dd) (lN (nHarm s (nLv s p y) (cW s + dd) (y) (gB s y)))), Rx R, N, G)) rfl ?_
    rw [show nI (dd) + nI (1) = nI (dd + 1) from nI_addE (rfl) rfl]
    refine XP_n 1 (pc' := 32) (ls' := [.ref (21), .int (nI (p)), .int (nI (cY s)), .int (nI (y)), .int (nI (nLv s p y)), .int (nI (dd + 1))]) (st' := []) (M' := (I21, (rw2 J1 (27 + p) ((y) * (49) + dd) (lN (nHarm s (nLv s p y) (cW s + dd) (y) (gB s y)))), Rx R, N, G)) rfl ?_
    refine ih (dd + 1) _ _ (by omega) hn21 (OnlyJ.w hJ1 (by simp)) (fun y' h1 d' h2 => ?_) (fun d' h => ?_)
    · have hf2 := fr_le s (show y' + 1 ≤ 16 by omega)
      rw [rw2_nj _ _ _ (by omega)]
      exact hr1 y' h1 d' h2
    · by_cases e : d' = dd
      · subst e
        rw [rw2_at]
      · rw [rw2_nj _ _ _ (by omega)]
        exact hr2 d' (by omega)
theorem l_fl2 (hS : St s I) (hW : Wf s) (hL : Lk s R N) {p : Nat} (hp : p < cP s) (hB : ∀ y, y < cY s → I 25 y = gB s y) : ∀ (n y : Nat) (I1 : Nat → Nat → Int32) (J1 : Nat → Nat → Int64) (w4 w5 : Value), y + n = cY s → Only [oT (cLw s) + 3, oT (cLw s) + 2] I I1 → OnlyJ [27 + p] J J1 → (∀ y', y' < y → ∀ d', d' ≤ fr s (y' + 1) → J1 (27 + p) (y' * 49 + d') = lN (nHarm s (nLv s p y') (cW s + d') y' (gB s y'))) → XP X (d + 4) k_Planner_fillHarms 18 [.ref (21), .int (nI (p)), .int (nI (cY s)), .int (nI (y)), w4, w5] [] (I1, J1, Rx R, N, G) (fun v M' => v = none ∧ ∃ I' J', M' = (I', J', Rx R, N, G) ∧ Only [31, oT (cLw s) + 3, oT (cLw s) + 2] I I' ∧ (∀ o, ¬ o = p → I' 31 o = I 31 o) ∧ I' 31 p = s 1 15 ∧ OnlyJ [27 + p] J J' ∧ HP s p J') := by
  have hy16 := hW.y.2.2
  have hp4 := hW.p.2
  have hw60 := hW.w.2
  intro n
  induction n with
  | zero =>
    rintro y I1 J1 w4 w5 hyn hO1 hJ1 hr1
    have hS1 : St s I1 := St_only hS hO1 (lw_scr hW)
    obtain rfl : y = cY s := by omega
    refine XP_n 2 (pc' := 20) (ls' := [.ref (21), .int (nI (p)), .int (nI (cY s)), .int (nI (cY s)), w4, w5]) (st' := [.int (nI (cY s)), .int (nI (cY s))]) (M' := (I1, J1, Rx R, N, G)) rfl ?_
    refine XP_icN (x := cY s) (y := cY s) rfl (by omega) (by omega) (fun (b20 : cY s ≤ cY s) => ?_) (fun (b20 : cY s < cY s) => absurd b20 (by omega))
    refine XP_n 5 (pc' := 75) (ls' := [.ref (21), .int (nI (p)), .int (nI (cY s)), .int (nI (cY s)), w4, w5]) (st' := [.ref (1), .int (nI (p)), .ref (31)]) (M' := (I1, J1, Rx R, N, G)) rfl ?_
    refine XP_geti hS1 rfl rfl rfl ?_
    refine XP_iast rfl rfl (show p < 4 by omega) rfl (by omega) ?_
    refine XP_ret rfl ⟨rfl, _, _, rfl, Only.w (hO1.sub (by simp)) (by simp), fun o ho => ?_, rw2_at _ _ _ _, hJ1, hr1⟩
    rw [rw2_nj _ _ _ ho]
    exact congrFun (hO1 31 (by have := oT_ge (cLw s); simp; omega)) o
  | succ n ih =>
    rintro y I1 J1 w4 w5 hyn hO1 hJ1 hr1
    have hS1 : St s I1 := St_only hS hO1 (lw_scr hW)
    refine XP_n 2 (pc' := 20) (ls' := [.ref (21), .int (nI (p)), .int (nI (cY s)), .int (nI (y)), w4, w5]) (st' := [.int (nI (cY s)), .int (nI (y))]) (M' := (I1, J1, Rx R, N, G)) rfl ?_
    refine XP_icN (x := y) (y := cY s) rfl (by omega) (by omega) (fun (b20 : cY s ≤ y) => absurd b20 (by omega)) (fun (b20 : y < cY s) => ?_)
    refine XP_n 2 (pc' := 23) (ls' := [.ref (21), .int (nI (p)), .int (nI (cY s)), .int (nI (y)), w4, w5]) (st' := [.int (nI (16)), .int (nI (y))]) (M' := (I1, J1, Rx R, N, G)) rfl ?_
    refine XP_icN (x := y) (y := 16) rfl (by omega) (by omega) (fun (b23 : 16 ≤ y) => absurd b23 (by omega)) (fun (b23 : y < 16) => ?_)
    refine XP_n 4 (pc' := 28) (ls' := [.ref (21), .int (nI (p)), .int (nI (cY s)), .int (nI (y)), w4, w5]) (st' := [.int (nI (y)), .int (nI (p)), .ref (1)]) (M' := (I1, J1, Rx R, N, G)) rfl ?_
    refine XP_pure rfl rfl (c_lv hS1 hW hp (by omega)) ?_
    have hl150 := (nLv_ok hW hp (show y ≤ 15 by omega)).2
    refine XP_n 3 (pc' := 32) (ls' := [.ref (21), .int (nI (p)), .int (nI (cY s)), .int (nI (y)), .int (nI (nLv s p y)), .int (nI (0))]) (st' := []) (M' := (I1, J1, Rx R, N, G)) rfl ?_
    refine l_fl1 hS1 hW hL hp (fun y' h => (congrFun (hO1 25 (by have := oT_ge (cLw s); simp; omega)) y').trans (hB y' h)) (by omega) ?_ (fr s (y + 1) + 1) 0 _ _ (by omega) Only.rf OnlyJ.rf hr1 (fun d' h => absurd h (by omega))
    intro Ib Jb hOb hJb hrb1 hrb2
    refine XP_n 1 (pc' := 69) (ls' := [.ref (21), .int (nI (p)), .int (nI (cY s)), .int (nI (y) + nI (1)), .int (nI (nLv s p y)), .int (nI (fr s (y + 1) + 1))]) (st' := []) (M' := (Ib, Jb, Rx R, N, G)) rfl ?_
    rw [show nI (y) + nI (1) = nI (y + 1) from nI_addE (rfl) rfl]
    refine XP_n 1 (pc' := 18) (ls' := [.ref (21), .int (nI (p)), .int (nI (cY s)), .int (nI (y + 1)), .int (nI (nLv s p y)), .int (nI (fr s (y + 1) + 1))]) (st' := []) (M' := (Ib, Jb, Rx R, N, G)) rfl ?_
    exact ih (y + 1) _ _ _ _ (by omega) (Only.c hO1 hOb (by simp)) (OnlyJ.c hJ1 hJb (by simp)) (fun y' h1 d' h2 => by
      by_cases e : y' = y
      · subst e
        exact hrb2 d' h2
      · exact hrb1 y' (by omega) d' h2)
theorem c_fill (hS : St s I) (hW : Wf s) (hL : Lk s R N) {p : Nat} (hp : p < cP s) (hB : ∀ y, y < cY s → I 25 y = gB s y) (hC : I 31 p = s 1 15 → HP s p J) : TP X (d + 4) n_Planner_fillHarms [.ref 21, .int (nI p), .int (nI (cY s))] (I, J, Rx R, N, G) (fun v M' => v = none ∧ ∃ I' J', M' = (I', J', Rx R, N, G) ∧ Only [31, oT (cLw s) + 3, oT (cLw s) + 2] I I' ∧ (∀ o, ¬ o = p → I' 31 o = I 31 o) ∧ I' 31 p = s 1 15 ∧ OnlyJ [27 + p] J J' ∧ HP s p J') := by
  have hy16 := hW.y.2.2
  have hp4 := hW.p.2
  have hw60 := hW.w.2
  unfold TP
  show XP X _ k_Planner_fillHarms 0 [.ref (21), .int (nI (p)), .int (nI (cY s)), xj, xj, xj] [] _ _
  refine XP_n 1 (pc' := 1) (ls' := [.ref (21), .int (nI (p)), .int (nI (cY s)), xj, xj, xj]) (st' := [.int (nI (p))]) (M' := (I, J, Rx R, N, G)) rfl ?_
  refine XP_ifN (x := p)  rfl (by omega) (fun (b1 : p < 0) => absurd b1 (by omega)) (fun (b1 : 0 ≤ p) => ?_)
  refine XP_n 4 (pc' := 6) (ls' := [.ref (21), .int (nI (p)), .int (nI (cY s)), xj, xj, xj]) (st' := [.int (nI (4)), .int (nI (p))]) (M' := (I, J, Rx R, N, G)) rfl ?_
  refine XP_icN (x := p) (y := 4) rfl (by omega) (by omega) (fun (b6 : 4 ≤ p) => absurd b6 (by omega)) (fun (b6 : p < 4) => ?_)
  refine XP_n 3 (pc' := 10) (ls' := [.ref (21), .int (nI (p)), .int (nI (cY s)), xj, xj, xj]) (st' := [.int (nI (p)), .ref (31)]) (M' := (I, J, Rx R, N, G)) rfl ?_
  refine XP_iraw rfl rfl (show p < 4 by omega) rfl (by omega) ?_
  refine XP_n 2 (pc' := 13) (ls' := [.ref (21), .int (nI (p)), .int (nI (cY s)), xj, xj, xj]) (st' := [.ref (1), .int (I 31 p)]) (M' := (I, J, Rx R, N, G)) rfl ?_
  refine XP_geti hS rfl rfl rfl ?_
  refine XP_icD rfl (fun (b14 : ¬ I 31 p = s 1 15) => ?_) (fun (b14 : I 31 p = s 1 15) => ?_)
  · refine XP_n 2 (pc' := 18) (ls' := [.ref (21), .int (nI (p)), .int (nI (cY s)), .int (nI (0)), xj, xj]) (st' := []) (M' := (I, J, Rx R, N, G)) rfl ?_
    exact l_fl2 hS hW hL hp hB (cY s) 0 _ _ _ _ (by omega) Only.rf OnlyJ.rf (fun y' h => absurd h (by omega))
  · exact XP_ret rfl ⟨rfl, _, _, rfl, Only.rf, fun _ _ => rfl, b14, OnlyJ.rf, hC b14⟩
end
