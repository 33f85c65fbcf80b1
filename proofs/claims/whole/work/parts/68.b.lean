/-! faces: the best plans -/
theorem qP_s (p : Nat) : qP (p + 1) = nI p := by
  unfold qP
  rw [if_neg (by omega), Nat.add_sub_cancel]
theorem qP_z : qP 0 = cI (-1) := rfl
theorem l_ss (a b c : Nat) : lN a - lN b - lN c = lN a - lN (b + c) := by
  rw [← lN_add, Int64.sub_eq_add_neg, Int64.sub_eq_add_neg, Int64.sub_eq_add_neg, Int64.neg_add, Int64.add_assoc]
  first | rfl | rw [Int64.sub_eq_add_neg]
section
variable {X : hX} {d : Nat} {s I : Nat → Nat → Int32} {J : Nat → Nat → Int64} {R : Nat → Nat → Option Nat} {N : Nat → Nat} {G : hG}
theorem q_C_bestP (hI : Inv s R N I J) {p : Nat} (hp : p < cP s) : TP X (d + 7) n_Planner_bestOn [.ref 21, .int (nI p)] (I, J, Rx R, N, G) (fun v M' => v = some (.ref (68 + 2 * (p + 1))) ∧ ∃ I' J', M' = (I', J', Rx R, N, G) ∧ Inv s R N I' J' ∧ PlOk s (p + 1) I' J' ∧ ∀ k, k < 21 ∨ 77 < k → (k ≠ oT (cLw s) + 3 → k ≠ oT (cLw s) + 2 → I' k = I k) ∧ J' k = J k) := by
  have h := q_C_best (X := X) (d := d) (G := G) hI (q := p + 1) (by omega)
  rw [qP_s] at h
  exact h
theorem q_C_bestA (hI : Inv s R N I J) : TP X (d + 7) n_Planner_bestOn [.ref 21, .int (cI (-1))] (I, J, Rx R, N, G) (fun v M' => v = some (.ref (68 + 2 * 0)) ∧ ∃ I' J', M' = (I', J', Rx R, N, G) ∧ Inv s R N I' J' ∧ PlOk s 0 I' J' ∧ ∀ k, k < 21 ∨ 77 < k → (k ≠ oT (cLw s) + 3 → k ≠ oT (cLw s) + 2 → I' k = I k) ∧ J' k = J k) := by
  have h := q_C_best (X := X) (d := d) (G := G) hI (q := 0) (by omega)
  rw [qP_z] at h
  exact h
theorem q_M_bestR (hI : Inv s R N I J) {q no : Nat} (hq : q ≤ cP s) (hno : no ≤ 16) : TP X (d + 4) n_M_bestOf [.ref 99, .int (qP q), .int (nI no)] (I, J, Rx R, N, G) (fun v M' => v = some (.long (lN (pBest s q (s 99 3) no))) ∧ ∃ I' J', M' = (I', J', Rx R, N, G) ∧ Inv s R N I' J' ∧ ∀ y, y < cY s → I' 132 y = nI (pU s q (s 99 3) no y)) :=
  TP_mono (m_best hI.1 hI.2.1 hq hno) (fun v M' ⟨a, I', J', b, c, e, f⟩ => ⟨a, I', J', b, hI.m (c.sub (by simp)) (e.sub (by simp)), f⟩)
theorem q_M_bestP (hI : Inv s R N I J) {p no : Nat} (hp : p < cP s) (hno : no ≤ 16) : TP X (d + 4) n_M_bestOf [.ref 99, .int (nI p), .int (nI no)] (I, J, Rx R, N, G) (fun v M' => v = some (.long (lN (pBest s (p + 1) (s 99 3) no))) ∧ ∃ I' J', M' = (I', J', Rx R, N, G) ∧ Inv s R N I' J' ∧ ∀ y, y < cY s → I' 132 y = nI (pU s (p + 1) (s 99 3) no y)) := by
  have h := q_M_bestR (X := X) (d := d) (G := G) hI (q := p + 1) (no := no) (by omega) hno
  rw [qP_s] at h
  exact h
theorem q_M_bestA (hI : Inv s R N I J) {no : Nat} (hno : no ≤ 16) : TP X (d + 4) n_M_bestOf [.ref 99, .int (cI (-1)), .int (nI no)] (I, J, Rx R, N, G) (fun v M' => v = some (.long (lN (pBest s 0 (s 99 3) no))) ∧ ∃ I' J', M' = (I', J', Rx R, N, G) ∧ Inv s R N I' J' ∧ ∀ y, y < cY s → I' 132 y = nI (pU s 0 (s 99 3) no y)) := by
  have h := q_M_bestR (X := X) (d := d) (G := G) hI (q := 0) (no := no) (by omega) hno
  rw [qP_z] at h
  exact h
theorem f_best (hI : Inv s R N I J) (p : Int32) (part : Int32) : ∃ v, TP X (d + 12) n_H_best [.ref 0, .int p, .int part] (I, J, Rx R, N, G) (QP s R N G (.long v)) ∧ ∀ I J, Inv s R N I J → TP X (d + 12) n_M_best [.ref 99, .int p, .int part] (I, J, Rx R, N, G) (QP s R N G (.long v)) := by
  have hI0 := hI
  obtain ⟨hS, hW, hL, hC, hch⟩ := hI0
  have hy16 := hW.y.2
  have hp4 := hW.p.2
  have hs6 := hW.ns.2
  have hr8 := hW.r.2
  have hst8 := hW.st.2
  have ht3 := hW.t.2
  have hw60 := hW.w.2
  have hcwa := cWA_le hW
  by_cases g0 : iv 0 1 (part)
  rotate_left
  · skip
    refine ⟨cL (-4611686018427387904), ?_, fun I J hI => ?_⟩
    · unfold TP
      show XP X _ k_H_best 0 [.ref (0), .int (p), .int (part)] [] _ _
      refine XP_n 1 (pc' := 1) (ls' := [.ref (0), .int (p), .int (part)]) (st' := [.int (part)]) (M' := (I, J, Rx R, N, G)) rfl ?_
      refine XP_pure rfl rfl (t_H_isPart X _ _ _) ?_
      refine XP_s rfl ?_
      refine XP_beq (fun b2 => ?_) (fun b2 => absurd b2 g0)
      refine XP_n 1 (pc' := 12) (ls' := [.ref (0), .int (p), .int (part)]) (st' := [.long (cL (-4611686018427387904))]) (M' := (I, J, Rx R, N, G)) rfl ?_
      exact XP_ret rfl ⟨rfl, _, _, rfl, hI⟩
    · unfold TP
      show XP X _ k_M_best 0 [.ref (99), .int (p), .int (part)] [] _ _
      refine XP_n 2 (pc' := 2) (ls' := [.ref (99), .int (p), .int (part)]) (st' := [.int (cI (-1)), .int (p)]) (M' := (I, J, Rx R, N, G)) rfl ?_
      refine XP_icD rfl (fun (b2 : p = cI (-1)) => ?_) (fun (b2 : ¬ p = cI (-1)) => ?_)
      · refine XP_n 3 (pc' := 10) (ls' := [.ref (99), .int (p), .int (part)]) (st' := [.int (nI (1)), .int (nI (0)), .int (part)]) (M' := (I, J, Rx R, N, G)) rfl ?_
        refine XP_pure rfl rfl (w_M X _ _ 0 1 _) ?_
        refine XP_s rfl ?_
        refine XP_bne (fun b11 => absurd b11 g0) (fun b11 => ?_)
        refine XP_n 1 (pc' := 13) (ls' := [.ref (99), .int (p), .int (part)]) (st' := [.long (cL (-4611686018427387904))]) (M' := (I, J, Rx R, N, G)) rfl ?_
        exact XP_ret rfl ⟨rfl, _, _, rfl, hI⟩
      · refine XP_n 2 (pc' := 5) (ls' := [.ref (99), .int (p), .int (part)]) (st' := [.int (p), .ref (99)]) (M' := (I, J, Rx R, N, G)) rfl ?_
        refine XP_pure rfl rfl (m_isPath hI.1 hI.2.1 _) ?_
        refine XP_s rfl ?_
        refine XP_beq (fun (b6 : ¬ (inN (p) (cP s))) => ?_) (fun (b6 : inN (p) (cP s)) => ?_)
        · refine XP_n 1 (pc' := 13) (ls' := [.ref (99), .int (p), .int (part)]) (st' := [.long (cL (-4611686018427387904))]) (M' := (I, J, Rx R, N, G)) rfl ?_
          exact XP_ret rfl ⟨rfl, _, _, rfl, hI⟩
        · refine XP_n 3 (pc' := 10) (ls' := [.ref (99), .int (p), .int (part)]) (st' := [.int (nI (1)), .int (nI (0)), .int (part)]) (M' := (I, J, Rx R, N, G)) rfl ?_
          refine XP_pure rfl rfl (w_M X _ _ 0 1 _) ?_
          refine XP_s rfl ?_
          refine XP_bne (fun b11 => absurd b11 g0) (fun b11 => ?_)
          refine XP_n 1 (pc' := 13) (ls' := [.ref (99), .int (p), .int (part)]) (st' := [.long (cL (-4611686018427387904))]) (M' := (I, J, Rx R, N, G)) rfl ?_
          exact XP_ret rfl ⟨rfl, _, _, rfl, hI⟩
  obtain ⟨partn, hpartn0, hpartn, rfl, epart⟩ := iv_nat g0 (by omega) (by omega)
  have hcw0 : cP s = 0 → cWA s = 0 := (cWA_0 hW).mpr
  have hcw1 : ¬ cP s = 0 → ¬ cWA s = 0 := fun h z => h ((cWA_0 hW).mp z)
  by_cases hm : p = cI (-1)
  · subst hm
    refine ⟨gMB s (lN (pBest s 0 (s 99 3) 0)) partn, ?_, fun I J hI => ?_⟩
    · unfold TP
      show XP X _ k_H_best 0 [.ref (0), .int (cI (-1)), .int (nI (partn))] [] _ _
      refine XP_n 1 (pc' := 1) (ls' := [.ref (0), .int (cI (-1)), .int (nI (partn))]) (st' := [.int (nI (partn))]) (M' := (I, J, Rx R, N, G)) rfl ?_
      refine XP_pure rfl rfl (t_H_isPart X _ _ _) ?_
      refine XP_s rfl ?_
      refine XP_beq (fun b2 => absurd g0 b2) (fun b2 => ?_)
      refine XP_n 2 (pc' := 5) (ls' := [.ref (0), .int (cI (-1)), .int (nI (partn))]) (st' := [.int (cI (-1)), .int (cI (-1))]) (M' := (I, J, Rx R, N, G)) rfl ?_
      refine XP_icD rfl (fun (b5 : cI (-1) = cI (-1)) => ?_) (fun (b5 : ¬ cI (-1) = cI (-1)) => absurd b5 (by first | exact rfl | exact fun z => z rfl | omega))
      refine XP_n 2 (pc' := 15) (ls' := [.ref (0), .int (cI (-1)), .int (nI (partn))]) (st' := [.int (cI (-1)), .int (cI (-1))]) (M' := (I, J, Rx R, N, G)) rfl ?_
      refine XP_icD rfl (fun (b15 : ¬ cI (-1) = cI (-1)) => absurd b15 (by first | exact rfl | exact fun z => z rfl | omega)) (fun (b15 : cI (-1) = cI (-1)) => ?_)
      refine XP_n 4 (pc' := 20) (ls' := [.ref (0), .int (cI (-1)), .int (nI (partn))]) (st' := [.int (cI (-1)), .ref (21), .ref (0)]) (M' := (I, J, Rx R, N, G)) rfl ?_
      refine XP_call rfl rfl (q_C_bestA hI) ?_
      rintro v21 M21 ⟨rfl, I21, J21, rfl, hI21, hpl21, hfr21⟩
      have hpb21 := pL_b hI21.2.1 0 (s 99 3) 0 (cY s) 0 (by omega)
      rw [show pL s 0 (s 99 3) 0 (cY s) 0 = pBest s 0 (s 99 3) 0 from rfl] at hpb21
      refine XP_getlw rfl (by rw [(plq R N (show 0 < 5 by omega)).1]; rfl) ?_
      show XP X _ k_H_best 22 [.ref (0), .int (cI (-1)), .int (nI (partn))] [.long (J21 (68 + 2 * 0) 1), .ref (0)] _ _
      rw [show J21 (68 + 2 * 0) 1 = lN (pBest s 0 (s 99 3) 0) from hpl21.1]
      refine XP_n 1 (pc' := 23) (ls' := [.ref (0), .int (cI (-1)), .int (nI (partn))]) (st' := [.int (nI (partn)), .long (lN (pBest s 0 (s 99 3) 0)), .ref (0)]) (M' := (I21, J21, Rx R, N, G)) rfl ?_
      refine XP_pure rfl rfl (c_meanBy hI21.1 hW (l_min (by omega)) (by omega)) ?_
      exact XP_ret rfl ⟨rfl, _, _, rfl, hI21⟩
    · have hz := (hcw1 : _)
      unfold TP
      show XP X _ k_M_best 0 [.ref (99), .int (cI (-1)), .int (nI (partn))] [] _ _
      refine XP_n 2 (pc' := 2) (ls' := [.ref (99), .int (cI (-1)), .int (nI (partn))]) (st' := [.int (cI (-1)), .int (cI (-1))]) (M' := (I, J, Rx R, N, G)) rfl ?_
      refine XP_icD rfl (fun (b2 : cI (-1) = cI (-1)) => ?_) (fun (b2 : ¬ cI (-1) = cI (-1)) => absurd b2 (by first | exact rfl | exact fun z => z rfl | omega))
      refine XP_n 3 (pc' := 10) (ls' := [.ref (99), .int (cI (-1)), .int (nI (partn))]) (st' := [.int (nI (1)), .int (nI (0)), .int (nI (partn))]) (M' := (I, J, Rx R, N, G)) rfl ?_
      refine XP_pure rfl rfl (w_M X _ _ 0 1 _) ?_
      refine XP_s rfl ?_
      refine XP_bne (fun b11 => ?_) (fun b11 => absurd g0 b11)
      refine XP_n 1 (pc' := 15) (ls' := [.ref (99), .int (cI (-1)), .int (nI (partn))]) (st' := [.ref (99)]) (M' := (I, J, Rx R, N, G)) rfl ?_
      refine XP_geti hI.1 rfl rfl rfl ?_
      rw [hW.p.1]
      refine XP_ifN (x := cP s)  rfl (by omega) (fun (b16 : ¬ cP s = 0) => ?_) (fun (b16 : cP s = 0) => ?_)
      · refine XP_n 3 (pc' := 23) (ls' := [.ref (99), .int (cI (-1)), .int (nI (partn))]) (st' := [.int (nI (0)), .int (cI (-1)), .ref (99)]) (M' := (I, J, Rx R, N, G)) rfl ?_
        refine XP_call rfl rfl (q_M_bestA hI (by omega)) ?_
        rintro v22 M22 ⟨rfl, I22, J22, rfl, hI22, hpl22⟩
        have hpb22 := pL_b hI22.2.1 0 (s 99 3) 0 (cY s) 0 (by omega)
        rw [show pL s 0 (s 99 3) 0 (cY s) 0 = pBest s 0 (s 99 3) 0 from rfl] at hpb22
        refine XP_n 2 (pc' := 26) (ls' := [.ref (99), .int (cI (-1)), .int (nI (partn))]) (st' := [.int (cI (-1)), .int (cI (-1)), .long (lN (pBest s 0 (s 99 3) 0))]) (M' := (I22, J22, Rx R, N, G)) rfl ?_
        refine XP_icD rfl (fun (b26 : ¬ cI (-1) = cI (-1)) => absurd b26 (by first | exact rfl | exact fun z => z rfl | omega)) (fun (b26 : cI (-1) = cI (-1)) => ?_)
        refine XP_n 2 (pc' := 29) (ls' := [.ref (99), .int (cI (-1)), .int (nI (partn))]) (st' := [.ref (99), .long (lN (1000)), .long (lN (pBest s 0 (s 99 3) 0))]) (M' := (I22, J22, Rx R, N, G)) rfl ?_
        refine XP_pure rfl rfl (m_weights hI22.1 hW) ?_
        refine XP_n 3 (pc' := 34) (ls' := [.ref (99), .int (cI (-1)), .int (nI (partn))]) (st' := [.int (nI (partn)), .long ((lN (1000)) * (lN (cWA s))), .long (lN (pBest s 0 (s 99 3) 0))]) (M' := (I22, J22, Rx R, N, G)) rfl ?_
        rw [show (lN (1000)) * (lN (cWA s)) = lN ((1000) * (cWA s)) from lN_mulE (rfl) (rfl)]
        refine XP_pure rfl rfl (m_low (by omega) (by intro _; omega) (by omega) (l_min (by omega))) ?_
        exact XP_ret rfl ⟨by unfold gMB; rw [if_neg (hcw1 b16)], _, _, rfl, hI22⟩
      · refine XP_n 2 (pc' := 19) (ls' := [.ref (99), .int (cI (-1)), .int (nI (partn))]) (st' := [.long ((nI (partn)).toInt64)]) (M' := (I, J, Rx R, N, G)) rfl ?_
        rw [show (nI (partn)).toInt64 = lN (partn) from nI_lE (rfl) (by omega)]
        exact XP_ret rfl ⟨by unfold gMB; rw [if_pos (hcw0 b16)], _, _, rfl, hI⟩
  · by_cases g9 : inN p (cP s)
    rotate_left
    · skip
      refine ⟨cL (-4611686018427387904), ?_, fun I J hI => ?_⟩
      · unfold TP
        show XP X _ k_H_best 0 [.ref (0), .int (p), .int (nI (partn))] [] _ _
        refine XP_n 1 (pc' := 1) (ls' := [.ref (0), .int (p), .int (nI (partn))]) (st' := [.int (nI (partn))]) (M' := (I, J, Rx R, N, G)) rfl ?_
        refine XP_pure rfl rfl (t_H_isPart X _ _ _) ?_
        refine XP_s rfl ?_
        refine XP_beq (fun b2 => absurd g0 b2) (fun b2 => ?_)
        refine XP_n 2 (pc' := 5) (ls' := [.ref (0), .int (p), .int (nI (partn))]) (st' := [.int (cI (-1)), .int (p)]) (M' := (I, J, Rx R, N, G)) rfl ?_
        refine XP_icD rfl (fun (b5 : p = cI (-1)) => absurd b5 (by first | exact hm | exact fun z => z hm | omega)) (fun (b5 : ¬ p = cI (-1)) => ?_)
        refine XP_n 3 (pc' := 9) (ls' := [.ref (0), .int (p), .int (nI (partn))]) (st' := [.int (p), .ref (1)]) (M' := (I, J, Rx R, N, G)) rfl ?_
        refine XP_pure rfl rfl (c_hasPath hI.1 hI.2.1 _) ?_
        refine XP_s rfl ?_
        refine XP_bne (fun b10 => absurd b10 g9) (fun b10 => ?_)
        refine XP_n 1 (pc' := 12) (ls' := [.ref (0), .int (p), .int (nI (partn))]) (st' := [.long (cL (-4611686018427387904))]) (M' := (I, J, Rx R, N, G)) rfl ?_
        exact XP_ret rfl ⟨rfl, _, _, rfl, hI⟩
      · unfold TP
        show XP X _ k_M_best 0 [.ref (99), .int (p), .int (nI (partn))] [] _ _
        refine XP_n 2 (pc' := 2) (ls' := [.ref (99), .int (p), .int (nI (partn))]) (st' := [.int (cI (-1)), .int (p)]) (M' := (I, J, Rx R, N, G)) rfl ?_
        refine XP_icD rfl (fun (b2 : p = cI (-1)) => absurd b2 (by first | exact hm | exact fun z => z hm | omega)) (fun (b2 : ¬ p = cI (-1)) => ?_)
        refine XP_n 2 (pc' := 5) (ls' := [.ref (99), .int (p), .int (nI (partn))]) (st' := [.int (p), .ref (99)]) (M' := (I, J, Rx R, N, G)) rfl ?_
        refine XP_pure rfl rfl (m_isPath hI.1 hI.2.1 _) ?_
        refine XP_s rfl ?_
        refine XP_beq (fun b6 => ?_) (fun b6 => absurd b6 g9)
        refine XP_n 1 (pc' := 13) (ls' := [.ref (99), .int (p), .int (nI (partn))]) (st' := [.long (cL (-4611686018427387904))]) (M' := (I, J, Rx R, N, G)) rfl ?_
        exact XP_ret rfl ⟨rfl, _, _, rfl, hI⟩
    obtain ⟨pn, hpn, rfl, ep⟩ := inN_nat g9 (by omega)
    refine ⟨gLow (lN (pBest s (pn + 1) (s 99 3) 0)) 1000 partn, ?_, fun I J hI => ?_⟩
    · unfold TP
      show XP X _ k_H_best 0 [.ref (0), .int (nI (pn)), .int (nI (partn))] [] _ _
      refine XP_n 1 (pc' := 1) (ls' := [.ref (0), .int (nI (pn)), .int (nI (partn))]) (st' := [.int (nI (partn))]) (M' := (I, J, Rx R, N, G)) rfl ?_
      refine XP_pure rfl rfl (t_H_isPart X _ _ _) ?_
      refine XP_s rfl ?_
      refine XP_beq (fun b2 => absurd g0 b2) (fun b2 => ?_)
      refine XP_n 2 (pc' := 5) (ls' := [.ref (0), .int (nI (pn)), .int (nI (partn))]) (st' := [.int (cI (-1)), .int (nI (pn))]) (M' := (I, J, Rx R, N, G)) rfl ?_
      refine XP_icD rfl (fun (b5 : nI (pn) = cI (-1)) => absurd b5 (by first | exact hm | exact fun z => z hm | omega)) (fun (b5 : ¬ nI (pn) = cI (-1)) => ?_)
      refine XP_n 3 (pc' := 9) (ls' := [.ref (0), .int (nI (pn)), .int (nI (partn))]) (st' := [.int (nI (pn)), .ref (1)]) (M' := (I, J, Rx R, N, G)) rfl ?_
      refine XP_pure rfl rfl (c_hasPath hI.1 hI.2.1 _) ?_
      refine XP_s rfl ?_
      refine XP_bne (fun b10 => ?_) (fun b10 => absurd g9 b10)
      refine XP_n 2 (pc' := 15) (ls' := [.ref (0), .int (nI (pn)), .int (nI (partn))]) (st' := [.int (cI (-1)), .int (nI (pn))]) (M' := (I, J, Rx R, N, G)) rfl ?_
      refine XP_icD rfl (fun (b15 : ¬ nI (pn) = cI (-1)) => ?_) (fun (b15 : nI (pn) = cI (-1)) => absurd b15 (by first | exact hm | exact fun z => z hm | omega))
      refine XP_n 3 (pc' := 28) (ls' := [.ref (0), .int (nI (pn)), .int (nI (partn))]) (st' := [.int (nI (pn)), .ref (21)]) (M' := (I, J, Rx R, N, G)) rfl ?_
      refine XP_call rfl rfl (q_C_bestP hI (show pn < cP s by omega)) ?_
      rintro v23 M23 ⟨rfl, I23, J23, rfl, hI23, hpl23, hfr23⟩
      have hpb23 := pL_b hI23.2.1 (pn + 1) (s 99 3) 0 (cY s) 0 (by omega)
      rw [show pL s (pn + 1) (s 99 3) 0 (cY s) 0 = pBest s (pn + 1) (s 99 3) 0 from rfl] at hpb23
      refine XP_getlw rfl (by rw [(plq R N (show (pn + 1) < 5 by omega)).1]; rfl) ?_
      show XP X _ k_H_best 30 [.ref (0), .int (nI (pn)), .int (nI (partn))] [.long (J23 (68 + 2 * (pn + 1)) 1)] _ _
      rw [show J23 (68 + 2 * (pn + 1)) 1 = lN (pBest s (pn + 1) (s 99 3) 0) from hpl23.1]
      refine XP_n 2 (pc' := 32) (ls' := [.ref (0), .int (nI (pn)), .int (nI (partn))]) (st' := [.int (nI (partn)), .long (lN (1000)), .long (lN (pBest s (pn + 1) (s 99 3) 0))]) (M' := (I23, J23, Rx R, N, G)) rfl ?_
      refine XP_pure rfl rfl (h_low (by omega) (by omega) (by omega) (l_min (by omega))) ?_
      exact XP_ret rfl ⟨rfl, _, _, rfl, hI23⟩
    · unfold TP
      show XP X _ k_M_best 0 [.ref (99), .int (nI (pn)), .int (nI (partn))] [] _ _
      refine XP_n 2 (pc' := 2) (ls' := [.ref (99), .int (nI (pn)), .int (nI (partn))]) (st' := [.int (cI (-1)), .int (nI (pn))]) (M' := (I, J, Rx R, N, G)) rfl ?_
      refine XP_icD rfl (fun (b2 : nI (pn) = cI (-1)) => absurd b2 (by first | exact hm | exact fun z => z hm | omega)) (fun (b2 : ¬ nI (pn) = cI (-1)) => ?_)
      refine XP_n 2 (pc' := 5) (ls' := [.ref (99), .int (nI (pn)), .int (nI (partn))]) (st' := [.int (nI (pn)), .ref (99)]) (M' := (I, J, Rx R, N, G)) rfl ?_
      refine XP_pure rfl rfl (m_isPath hI.1 hI.2.1 _) ?_
      refine XP_s rfl ?_
      refine XP_beq (fun b6 => absurd g9 b6) (fun b6 => ?_)
      refine XP_n 3 (pc' := 10) (ls' := [.ref (99), .int (nI (pn)), .int (nI (partn))]) (st' := [.int (nI (1)), .int (nI (0)), .int (nI (partn))]) (M' := (I, J, Rx R, N, G)) rfl ?_
      refine XP_pure rfl rfl (w_M X _ _ 0 1 _) ?_
      refine XP_s rfl ?_
      refine XP_bne (fun b11 => ?_) (fun b11 => absurd g0 b11)
      refine XP_n 1 (pc' := 15) (ls' := [.ref (99), .int (nI (pn)), .int (nI (partn))]) (st' := [.ref (99)]) (M' := (I, J, Rx R, N, G)) rfl ?_
      refine XP_geti hI.1 rfl rfl rfl ?_
      rw [hW.p.1]
      refine XP_ifN (x := cP s)  rfl (by omega) (fun (b16 : ¬ cP s = 0) => ?_) (fun (b16 : cP s = 0) => absurd b16 (by first | exact (by omega) | exact fun z => z (by omega) | omega))
      refine XP_n 3 (pc' := 23) (ls' := [.ref (99), .int (nI (pn)), .int (nI (partn))]) (st' := [.int (nI (0)), .int (nI (pn)), .ref (99)]) (M' := (I, J, Rx R, N, G)) rfl ?_
      refine XP_call rfl rfl (q_M_bestP hI (show pn < cP s by omega) (by omega)) ?_
      rintro v24 M24 ⟨rfl, I24, J24, rfl, hI24, hpl24⟩
      have hpb24 := pL_b hI24.2.1 (pn + 1) (s 99 3) 0 (cY s) 0 (by omega)
      rw [show pL s (pn + 1) (s 99 3) 0 (cY s) 0 = pBest s (pn + 1) (s 99 3) 0 from rfl] at hpb24
      refine XP_n 2 (pc' := 26) (ls' := [.ref (99), .int (nI (pn)), .int (nI (partn))]) (st' := [.int (cI (-1)), .int (nI (pn)), .long (lN (pBest s (pn + 1) (s 99 3) 0))]) (M' := (I24, J24, Rx R, N, G)) rfl ?_
      refine XP_icD rfl (fun (b26 : ¬ nI (pn) = cI (-1)) => ?_) (fun (b26 : nI (pn) = cI (-1)) => absurd b26 (by first | exact hm | exact fun z => z hm | omega))
      refine XP_n 2 (pc' := 34) (ls' := [.ref (99), .int (nI (pn)), .int (nI (partn))]) (st' := [.int (nI (partn)), .long (lN (1000)), .long (lN (pBest s (pn + 1) (s 99 3) 0))]) (M' := (I24, J24, Rx R, N, G)) rfl ?_
      refine XP_pure rfl rfl (m_low (by omega) (by first | (intro _; omega) | exact fun h => absurd rfl h) (by omega) (l_min (by omega))) ?_
      exact XP_ret rfl ⟨rfl, _, _, rfl, hI24⟩
theorem f_waits (hI : Inv s R N I J) (n : Int32) (part : Int32) : ∃ v, TP X (d + 12) n_H_waits [.ref 0, .int n, .int part] (I, J, Rx R, N, G) (QP s R N G (.long v)) ∧ ∀ I J, Inv s R N I J → TP X (d + 12) n_M_waits [.ref 99, .int n, .int part] (I, J, Rx R, N, G) (QP s R N G (.long v)) := by
  have hI0 := hI
  obtain ⟨hS, hW, hL, hC, hch⟩ := hI0
  have hy16 := hW.y.2
  have hp4 := hW.p.2
  have hs6 := hW.ns.2
  have hr8 := hW.r.2
  have hst8 := hW.st.2
  have ht3 := hW.t.2
  have hw60 := hW.w.2
  have hcwa := cWA_le hW
  have hcw0 : cP s = 0 → cWA s = 0 := (cWA_0 hW).mpr
  have hcw1 : ¬ cP s = 0 → ¬ cWA s = 0 := fun h z => h ((cWA_0 hW).mp z)
  by_cases g0 : iv 0 16 (n)
  rotate_left
  · skip
    refine ⟨cL (-4611686018427387904), ?_, fun I J hI => ?_⟩
    · unfold TP
      show XP X _ k_H_waits 0 [.ref (0), .int (n), .int (part)] [] _ _
      refine XP_n 3 (pc' := 3) (ls' := [.ref (0), .int (n), .int (part)]) (st' := [.int (nI (16)), .int (nI (0)), .int (n)]) (M' := (I, J, Rx R, N, G)) rfl ?_
      refine XP_pure rfl rfl (w_H X _ _ 0 16 _) ?_
      refine XP_s rfl ?_
      refine XP_beq (fun b4 => ?_) (fun b4 => absurd b4 g0)
      refine XP_n 1 (pc' := 9) (ls' := [.ref (0), .int (n), .int (part)]) (st' := [.long (cL (-4611686018427387904))]) (M' := (I, J, Rx R, N, G)) rfl ?_
      exact XP_ret rfl ⟨rfl, _, _, rfl, hI⟩
    · unfold TP
      show XP X _ k_M_waits 0 [.ref (99), .int (n), .int (part)] [] _ _
      refine XP_n 3 (pc' := 3) (ls' := [.ref (99), .int (n), .int (part)]) (st' := [.int (nI (16)), .int (nI (0)), .int (n)]) (M' := (I, J, Rx R, N, G)) rfl ?_
      refine XP_pure rfl rfl (w_M X _ _ 0 16 _) ?_
      refine XP_s rfl ?_
      refine XP_beq (fun b4 => ?_) (fun b4 => absurd b4 g0)
      refine XP_n 1 (pc' := 11) (ls' := [.ref (99), .int (n), .int (part)]) (st' := [.long (cL (-4611686018427387904))]) (M' := (I, J, Rx R, N, G)) rfl ?_
      exact XP_ret rfl ⟨rfl, _, _, rfl, hI⟩
  obtain ⟨nn, hnn0, hnn, rfl, en⟩ := iv_nat g0 (by omega) (by omega)
  by_cases g1 : iv 0 1 (part)
  rotate_left
  · skip
    refine ⟨cL (-4611686018427387904), ?_, fun I J hI => ?_⟩
    · unfold TP
      show XP X _ k_H_waits 0 [.ref (0), .int (nI (nn)), .int (part)] [] _ _
      refine XP_n 3 (pc' := 3) (ls' := [.ref (0), .int (nI (nn)), .int (part)]) (st' := [.int (nI (16)), .int (nI (0)), .int (nI (nn))]) (M' := (I, J, Rx R, N, G)) rfl ?_
      refine XP_pure rfl rfl (w_H X _ _ 0 16 _) ?_
      refine XP_s rfl ?_
      refine XP_beq (fun b4 => absurd g0 b4) (fun b4 => ?_)
      refine XP_n 1 (pc' := 6) (ls' := [.ref (0), .int (nI (nn)), .int (part)]) (st' := [.int (part)]) (M' := (I, J, Rx R, N, G)) rfl ?_
      refine XP_pure rfl rfl (t_H_isPart X _ _ _) ?_
      refine XP_s rfl ?_
      refine XP_bne (fun b7 => absurd b7 g1) (fun b7 => ?_)
      refine XP_n 1 (pc' := 9) (ls' := [.ref (0), .int (nI (nn)), .int (part)]) (st' := [.long (cL (-4611686018427387904))]) (M' := (I, J, Rx R, N, G)) rfl ?_
      exact XP_ret rfl ⟨rfl, _, _, rfl, hI⟩
    · unfold TP
      show XP X _ k_M_waits 0 [.ref (99), .int (nI (nn)), .int (part)] [] _ _
      refine XP_n 3 (pc' := 3) (ls' := [.ref (99), .int (nI (nn)), .int (part)]) (st' := [.int (nI (16)), .int (nI (0)), .int (nI (nn))]) (M' := (I, J, Rx R, N, G)) rfl ?_
      refine XP_pure rfl rfl (w_M X _ _ 0 16 _) ?_
      refine XP_s rfl ?_
      refine XP_beq (fun b4 => absurd g0 b4) (fun b4 => ?_)
      refine XP_n 3 (pc' := 8) (ls' := [.ref (99), .int (nI (nn)), .int (part)]) (st' := [.int (nI (1)), .int (nI (0)), .int (part)]) (M' := (I, J, Rx R, N, G)) rfl ?_
      refine XP_pure rfl rfl (w_M X _ _ 0 1 _) ?_
      refine XP_s rfl ?_
      refine XP_bne (fun b9 => absurd b9 g1) (fun b9 => ?_)
      refine XP_n 1 (pc' := 11) (ls' := [.ref (99), .int (nI (nn)), .int (part)]) (st' := [.long (cL (-4611686018427387904))]) (M' := (I, J, Rx R, N, G)) rfl ?_
      exact XP_ret rfl ⟨rfl, _, _, rfl, hI⟩
  obtain ⟨partn, hpartn0, hpartn, rfl, epart⟩ := iv_nat g1 (by omega) (by omega)
  refine ⟨gMB s (lN (pBest s 0 (s 99 3) nn) - lN (pBest s 0 (s 99 3) 0)) partn, ?_, fun I J hI => ?_⟩
  · unfold TP
    show XP X _ k_H_waits 0 [.ref (0), .int (nI (nn)), .int (nI (partn))] [] _ _
    refine XP_n 3 (pc' := 3) (ls' := [.ref (0), .int (nI (nn)), .int (nI (partn))]) (st' := [.int (nI (16)), .int (nI (0)), .int (nI (nn))]) (M' := (I, J, Rx R, N, G)) rfl ?_
    refine XP_pure rfl rfl (w_H X _ _ 0 16 _) ?_
    refine XP_s rfl ?_
    refine XP_beq (fun b4 => absurd g0 b4) (fun b4 => ?_)
    refine XP_n 1 (pc' := 6) (ls' := [.ref (0), .int (nI (nn)), .int (nI (partn))]) (st' := [.int (nI (partn))]) (M' := (I, J, Rx R, N, G)) rfl ?_
    refine XP_pure rfl rfl (t_H_isPart X _ _ _) ?_
    refine XP_s rfl ?_
    refine XP_bne (fun b7 => ?_) (fun b7 => absurd g1 b7)
    refine XP_n 6 (pc' := 16) (ls' := [.ref (0), .int (nI (nn)), .int (nI (partn))]) (st' := [.ref (1), .int (nI (nn)), .ref (21), .ref (0)]) (M' := (I, J, Rx R, N, G)) rfl ?_
    refine XP_geti hI.1 rfl rfl rfl ?_
    rw [hL.2.2.2.2.2.2]
    refine XP_call rfl (rfl) (q_C_least hI (by omega)) ?_
    rintro v25 M25 ⟨rfl, I25, J25, rfl, hI25⟩
    have hpb25 := pL_b hI25.2.1 0 (s 99 3) nn (cY s) 0 (by omega)
    rw [show pL s 0 (s 99 3) nn (cY s) 0 = pBest s 0 (s 99 3) nn from rfl] at hpb25
    refine XP_n 3 (pc' := 21) (ls' := [.ref (0), .int (nI (nn)), .int (nI (partn))]) (st' := [.int (cI (-1)), .ref (21), .long (lN (pBest s 0 (s 99 3) nn)), .ref (0)]) (M' := (I25, J25, Rx R, N, G)) rfl ?_
    refine XP_call rfl rfl (q_C_bestA hI25) ?_
    rintro v26 M26 ⟨rfl, I26, J26, rfl, hI26, hpl26, hfr26⟩
    have hpb26 := pL_b hI26.2.1 0 (s 99 3) 0 (cY s) 0 (by omega)
    rw [show pL s 0 (s 99 3) 0 (cY s) 0 = pBest s 0 (s 99 3) 0 from rfl] at hpb26
    refine XP_getlw rfl (by rw [(plq R N (show 0 < 5 by omega)).1]; rfl) ?_
    show XP X _ k_H_waits 23 [.ref (0), .int (nI (nn)), .int (nI (partn))] [.long (J26 (68 + 2 * 0) 1), .long (lN (pBest s 0 (s 99 3) nn)), .ref (0)] _ _
    rw [show J26 (68 + 2 * 0) 1 = lN (pBest s 0 (s 99 3) 0) from hpl26.1]
    refine XP_n 2 (pc' := 25) (ls' := [.ref (0), .int (nI (nn)), .int (nI (partn))]) (st' := [.int (nI (partn)), .long ((lN (pBest s 0 (s 99 3) nn)) - (lN (pBest s 0 (s 99 3) 0))), .ref (0)]) (M' := (I26, J26, Rx R, N, G)) rfl ?_
    refine XP_pure rfl rfl (c_meanBy hI26.1 hW (l_min2 (by omega) (by omega)) (by omega)) ?_
    exact XP_ret rfl ⟨rfl, _, _, rfl, hI26⟩
  · unfold TP
    show XP X _ k_M_waits 0 [.ref (99), .int (nI (nn)), .int (nI (partn))] [] _ _
    refine XP_n 3 (pc' := 3) (ls' := [.ref (99), .int (nI (nn)), .int (nI (partn))]) (st' := [.int (nI (16)), .int (nI (0)), .int (nI (nn))]) (M' := (I, J, Rx R, N, G)) rfl ?_
    refine XP_pure rfl rfl (w_M X _ _ 0 16 _) ?_
    refine XP_s rfl ?_
    refine XP_beq (fun b4 => absurd g0 b4) (fun b4 => ?_)
    refine XP_n 3 (pc' := 8) (ls' := [.ref (99), .int (nI (nn)), .int (nI (partn))]) (st' := [.int (nI (1)), .int (nI (0)), .int (nI (partn))]) (M' := (I, J, Rx R, N, G)) rfl ?_
    refine XP_pure rfl rfl (w_M X _ _ 0 1 _) ?_
    refine XP_s rfl ?_
    refine XP_bne (fun b9 => ?_) (fun b9 => absurd g1 b9)
    refine XP_n 1 (pc' := 13) (ls' := [.ref (99), .int (nI (nn)), .int (nI (partn))]) (st' := [.ref (99)]) (M' := (I, J, Rx R, N, G)) rfl ?_
    refine XP_geti hI.1 rfl rfl rfl ?_
    rw [hW.p.1]
    refine XP_ifN (x := cP s)  rfl (by omega) (fun (b14 : ¬ cP s = 0) => ?_) (fun (b14 : cP s = 0) => ?_)
    · refine XP_n 3 (pc' := 21) (ls' := [.ref (99), .int (nI (nn)), .int (nI (partn))]) (st' := [.int (nI (nn)), .int (cI (-1)), .ref (99)]) (M' := (I, J, Rx R, N, G)) rfl ?_
      refine XP_call rfl rfl (q_M_bestA hI (by omega)) ?_
      rintro v27 M27 ⟨rfl, I27, J27, rfl, hI27, hpl27⟩
      have hpb27 := pL_b hI27.2.1 0 (s 99 3) nn (cY s) 0 (by omega)
      rw [show pL s 0 (s 99 3) nn (cY s) 0 = pBest s 0 (s 99 3) nn from rfl] at hpb27
      refine XP_n 3 (pc' := 25) (ls' := [.ref (99), .int (nI (nn)), .int (nI (partn))]) (st' := [.int (nI (0)), .int (cI (-1)), .ref (99), .long (lN (pBest s 0 (s 99 3) nn))]) (M' := (I27, J27, Rx R, N, G)) rfl ?_
      refine XP_call rfl rfl (q_M_bestA hI27 (by omega)) ?_
      rintro v28 M28 ⟨rfl, I28, J28, rfl, hI28, hpl28⟩
      have hpb28 := pL_b hI28.2.1 0 (s 99 3) 0 (cY s) 0 (by omega)
      rw [show pL s 0 (s 99 3) 0 (cY s) 0 = pBest s 0 (s 99 3) 0 from rfl] at hpb28
      refine XP_n 3 (pc' := 29) (ls' := [.ref (99), .int (nI (nn)), .int (nI (partn))]) (st' := [.ref (99), .long (lN (1000)), .long ((lN (pBest s 0 (s 99 3) nn)) - (lN (pBest s 0 (s 99 3) 0)))]) (M' := (I28, J28, Rx R, N, G)) rfl ?_
      refine XP_pure rfl rfl (m_weights hI28.1 hW) ?_
      refine XP_n 2 (pc' := 32) (ls' := [.ref (99), .int (nI (nn)), .int (nI (partn))]) (st' := [.int (nI (partn)), .long ((lN (1000)) * (lN (cWA s))), .long ((lN (pBest s 0 (s 99 3) nn)) - (lN (pBest s 0 (s 99 3) 0)))]) (M' := (I28, J28, Rx R, N, G)) rfl ?_
      rw [show (lN (1000)) * (lN (cWA s)) = lN ((1000) * (cWA s)) from lN_mulE (rfl) (rfl)]
      refine XP_pure rfl rfl (m_low (by omega) (by intro _; omega) (by omega) (l_min2 (by omega) (by omega))) ?_
      exact XP_ret rfl ⟨by unfold gMB; rw [if_neg (hcw1 (by omega))], _, _, rfl, hI28⟩
    · refine XP_n 3 (pc' := 33) (ls' := [.ref (99), .int (nI (nn)), .int (nI (partn))]) (st' := [.long ((nI (partn)).toInt64)]) (M' := (I, J, Rx R, N, G)) rfl ?_
      rw [show (nI (partn)).toInt64 = lN (partn) from nI_lE (rfl) (by omega)]
      exact XP_ret rfl ⟨by unfold gMB; rw [if_pos (hcw0 (by omega))], _, _, rfl, hI⟩
theorem f_planned (hI : Inv s R N I J) (p : Int32) (y : Int32) : ∃ v, TP X (d + 12) n_H_planned [.ref 0, .int p, .int y] (I, J, Rx R, N, G) (QP s R N G (.int v)) ∧ ∀ I J, Inv s R N I J → TP X (d + 12) n_M_planned [.ref 99, .int p, .int y] (I, J, Rx R, N, G) (QP s R N G (.int v)) := by
  have hI0 := hI
  obtain ⟨hS, hW, hL, hC, hch⟩ := hI0
  have hy16 := hW.y.2
  have hp4 := hW.p.2
  have hs6 := hW.ns.2
  have hr8 := hW.r.2
  have hst8 := hW.st.2
  have ht3 := hW.t.2
  have hw60 := hW.w.2
  have hcwa := cWA_le hW
  by_cases hp0 : cP s = 0
  · have hno : ¬ inN p (cP s) := fun z => by rw [hp0] at z; unfold inN at z; omega
    refine ⟨cI (-5), ?_, fun I J hI => ?_⟩
    · unfold TP
      show XP X _ k_H_planned 0 [.ref (0), .int (p), .int (y)] [] _ _
      refine XP_n 3 (pc' := 3) (ls' := [.ref (0), .int (p), .int (y)]) (st' := [.int (p), .ref (1)]) (M' := (I, J, Rx R, N, G)) rfl ?_
      refine XP_pure rfl rfl (c_hasPath hI.1 hI.2.1 _) ?_
      refine XP_s rfl ?_
      refine XP_bne (fun b4 => absurd b4 hno) (fun b4 => ?_)
      refine XP_n 2 (pc' := 7) (ls' := [.ref (0), .int (p), .int (y)]) (st' := [.int (cI (-1)), .int (p)]) (M' := (I, J, Rx R, N, G)) rfl ?_
      refine XP_icD rfl (fun (b7 : ¬ p = cI (-1)) => ?_) (fun (b7 : p = cI (-1)) => ?_)
      · refine XP_n 1 (pc' := 13) (ls' := [.ref (0), .int (p), .int (y)]) (st' := [.int (cI (-5))]) (M' := (I, J, Rx R, N, G)) rfl ?_
        exact XP_ret rfl ⟨rfl, _, _, rfl, hI⟩
      · refine XP_n 2 (pc' := 10) (ls' := [.ref (0), .int (p), .int (y)]) (st' := [.ref (1)]) (M' := (I, J, Rx R, N, G)) rfl ?_
        refine XP_geti hI.1 rfl rfl rfl ?_
        rw [hW.p.1]
        refine XP_ifN (x := cP s)  rfl (by omega) (fun (b11 : ¬ cP s = 0) => absurd b11 (by first | exact hp0 | exact fun z => z hp0 | omega)) (fun (b11 : cP s = 0) => ?_)
        refine XP_n 1 (pc' := 13) (ls' := [.ref (0), .int (p), .int (y)]) (st' := [.int (cI (-5))]) (M' := (I, J, Rx R, N, G)) rfl ?_
        exact XP_ret rfl ⟨rfl, _, _, rfl, hI⟩
    · unfold TP
      show XP X _ k_M_planned 0 [.ref (99), .int (p), .int (y)] [] _ _
      refine XP_n 1 (pc' := 1) (ls' := [.ref (99), .int (p), .int (y)]) (st' := [.ref (99)]) (M' := (I, J, Rx R, N, G)) rfl ?_
      refine XP_geti hI.1 rfl rfl rfl ?_
      rw [hW.p.1]
      refine XP_ifN (x := cP s)  rfl (by omega) (fun (b2 : cP s = 0) => ?_) (fun (b2 : ¬ cP s = 0) => absurd b2 (by first | exact hp0 | exact fun z => z hp0 | omega))
      refine XP_n 1 (pc' := 11) (ls' := [.ref (99), .int (p), .int (y)]) (st' := [.int (cI (-5))]) (M' := (I, J, Rx R, N, G)) rfl ?_
      exact XP_ret rfl ⟨rfl, _, _, rfl, hI⟩
  · by_cases hm : p = cI (-1)
    · subst hm
      have hnp : ¬ inN (cI (-1)) (cP s) := fun z => absurd z.1 (by decide)
      by_cases g8 : inN y (cY s)
      rotate_left
      · skip
        refine ⟨cI (-7), ?_, fun I J hI => ?_⟩
        · unfold TP
          show XP X _ k_H_planned 0 [.ref (0), .int (cI (-1)), .int (y)] [] _ _
          refine XP_n 3 (pc' := 3) (ls' := [.ref (0), .int (cI (-1)), .int (y)]) (st' := [.int (cI (-1)), .ref (1)]) (M' := (I, J, Rx R, N, G)) rfl ?_
          refine XP_pure rfl rfl (c_hasPath hI.1 hI.2.1 _) ?_
          refine XP_s rfl ?_
          refine XP_bne (fun b4 => absurd b4 hnp) (fun b4 => ?_)
          refine XP_n 2 (pc' := 7) (ls' := [.ref (0), .int (cI (-1)), .int (y)]) (st' := [.int (cI (-1)), .int (cI (-1))]) (M' := (I, J, Rx R, N, G)) rfl ?_
          refine XP_icD rfl (fun (b7 : ¬ cI (-1) = cI (-1)) => absurd b7 (by first | exact rfl | exact fun z => z rfl | omega)) (fun (b7 : cI (-1) = cI (-1)) => ?_)
          refine XP_n 2 (pc' := 10) (ls' := [.ref (0), .int (cI (-1)), .int (y)]) (st' := [.ref (1)]) (M' := (I, J, Rx R, N, G)) rfl ?_
          refine XP_geti hI.1 rfl rfl rfl ?_
          rw [hW.p.1]
          refine XP_ifN (x := cP s)  rfl (by omega) (fun (b11 : ¬ cP s = 0) => ?_) (fun (b11 : cP s = 0) => absurd b11 (by first | exact hp0 | exact fun z => z hp0 | omega))
          refine XP_n 2 (pc' := 16) (ls' := [.ref (0), .int (cI (-1)), .int (y)]) (st' := [.int (y), .ref (0)]) (M' := (I, J, Rx R, N, G)) rfl ?_
          refine XP_pure rfl rfl (h_isYear hI.1 hI.2.1 _) ?_
          refine XP_s rfl ?_
          refine XP_beq (fun b17 => ?_) (fun b17 => absurd b17 g8)
          refine XP_n 1 (pc' := 26) (ls' := [.ref (0), .int (cI (-1)), .int (y)]) (st' := [.int (cI (-7))]) (M' := (I, J, Rx R, N, G)) rfl ?_
          exact XP_ret rfl ⟨rfl, _, _, rfl, hI⟩
        · unfold TP
          show XP X _ k_M_planned 0 [.ref (99), .int (cI (-1)), .int (y)] [] _ _
          refine XP_n 1 (pc' := 1) (ls' := [.ref (99), .int (cI (-1)), .int (y)]) (st' := [.ref (99)]) (M' := (I, J, Rx R, N, G)) rfl ?_
          refine XP_geti hI.1 rfl rfl rfl ?_
          rw [hW.p.1]
          refine XP_ifN (x := cP s)  rfl (by omega) (fun (b2 : cP s = 0) => absurd b2 (by first | exact hp0 | exact fun z => z hp0 | omega)) (fun (b2 : ¬ cP s = 0) => ?_)
          refine XP_n 2 (pc' := 5) (ls' := [.ref (99), .int (cI (-1)), .int (y)]) (st' := [.int (cI (-1)), .int (cI (-1))]) (M' := (I, J, Rx R, N, G)) rfl ?_
          refine XP_icD rfl (fun (b5 : cI (-1) = cI (-1)) => ?_) (fun (b5 : ¬ cI (-1) = cI (-1)) => absurd b5 (by first | exact rfl | exact fun z => z rfl | omega))
          refine XP_n 2 (pc' := 14) (ls' := [.ref (99), .int (cI (-1)), .int (y)]) (st' := [.int (y), .ref (99)]) (M' := (I, J, Rx R, N, G)) rfl ?_
          refine XP_pure rfl rfl (m_isYear hI.1 hI.2.1 _) ?_
          refine XP_s rfl ?_
          refine XP_bne (fun b15 => absurd b15 g8) (fun b15 => ?_)
          refine XP_n 1 (pc' := 17) (ls' := [.ref (99), .int (cI (-1)), .int (y)]) (st' := [.int (cI (-7))]) (M' := (I, J, Rx R, N, G)) rfl ?_
          exact XP_ret rfl ⟨rfl, _, _, rfl, hI⟩
      obtain ⟨yn, hyn, rfl, ey⟩ := inN_nat g8 (by omega)
      refine ⟨nI (pU s 0 (s 99 3) 0 yn), ?_, fun I J hI => ?_⟩
      · unfold TP
        show XP X _ k_H_planned 0 [.ref (0), .int (cI (-1)), .int (nI (yn))] [] _ _
        refine XP_n 3 (pc' := 3) (ls' := [.ref (0), .int (cI (-1)), .int (nI (yn))]) (st' := [.int (cI (-1)), .ref (1)]) (M' := (I, J, Rx R, N, G)) rfl ?_
        refine XP_pure rfl rfl (c_hasPath hI.1 hI.2.1 _) ?_
        refine XP_s rfl ?_
        refine XP_bne (fun b4 => absurd b4 hnp) (fun b4 => ?_)
        refine XP_n 2 (pc' := 7) (ls' := [.ref (0), .int (cI (-1)), .int (nI (yn))]) (st' := [.int (cI (-1)), .int (cI (-1))]) (M' := (I, J, Rx R, N, G)) rfl ?_
        refine XP_icD rfl (fun (b7 : ¬ cI (-1) = cI (-1)) => absurd b7 (by first | exact rfl | exact fun z => z rfl | omega)) (fun (b7 : cI (-1) = cI (-1)) => ?_)
        refine XP_n 2 (pc' := 10) (ls' := [.ref (0), .int (cI (-1)), .int (nI (yn))]) (st' := [.ref (1)]) (M' := (I, J, Rx R, N, G)) rfl ?_
        refine XP_geti hI.1 rfl rfl rfl ?_
        rw [hW.p.1]
        refine XP_ifN (x := cP s)  rfl (by omega) (fun (b11 : ¬ cP s = 0) => ?_) (fun (b11 : cP s = 0) => absurd b11 (by first | exact hp0 | exact fun z => z hp0 | omega))
        refine XP_n 2 (pc' := 16) (ls' := [.ref (0), .int (cI (-1)), .int (nI (yn))]) (st' := [.int (nI (yn)), .ref (0)]) (M' := (I, J, Rx R, N, G)) rfl ?_
        refine XP_pure rfl rfl (h_isYear hI.1 hI.2.1 _) ?_
        refine XP_s rfl ?_
        refine XP_beq (fun b17 => absurd g8 b17) (fun b17 => ?_)
        refine XP_n 3 (pc' := 21) (ls' := [.ref (0), .int (cI (-1)), .int (nI (yn))]) (st' := [.int (cI (-1)), .ref (21)]) (M' := (I, J, Rx R, N, G)) rfl ?_
        refine XP_call rfl rfl (q_C_bestA hI) ?_
        rintro v29 M29 ⟨rfl, I29, J29, rfl, hI29, hpl29, hfr29⟩
        have hpb29 := pL_b hI29.2.1 0 (s 99 3) 0 (cY s) 0 (by omega)
        rw [show pL s 0 (s 99 3) 0 (cY s) 0 = pBest s 0 (s 99 3) 0 from rfl] at hpb29
        refine XP_n 1 (pc' := 23) (ls' := [.ref (0), .int (cI (-1)), .int (nI (yn))]) (st' := [.int (nI (yn)), .ref (68 + 2 * 0)]) (M' := (I29, J29, Rx R, N, G)) rfl ?_
        refine XP_pure rfl (by show (isO (68 + 2 * 0) 4 || false) = true; rw [(plq R N (show 0 < 5 by omega)).1]; rfl) (c_plin (plq R N (show 0 < 5 by omega)) (show yn < 16 by omega)) ?_
        rw [hpl29.2 yn (by omega)]
        refine XP_n 1 (pc' := 26) (ls' := [.ref (0), .int (cI (-1)), .int (nI (yn))]) (st' := [.int (nI (pU s 0 (s 99 3) 0 yn))]) (M' := (I29, J29, Rx R, N, G)) rfl ?_
        exact XP_ret rfl ⟨rfl, _, _, rfl, hI29⟩
      · unfold TP
        show XP X _ k_M_planned 0 [.ref (99), .int (cI (-1)), .int (nI (yn))] [] _ _
        refine XP_n 1 (pc' := 1) (ls' := [.ref (99), .int (cI (-1)), .int (nI (yn))]) (st' := [.ref (99)]) (M' := (I, J, Rx R, N, G)) rfl ?_
        refine XP_geti hI.1 rfl rfl rfl ?_
        rw [hW.p.1]
        refine XP_ifN (x := cP s)  rfl (by omega) (fun (b2 : cP s = 0) => absurd b2 (by first | exact hp0 | exact fun z => z hp0 | omega)) (fun (b2 : ¬ cP s = 0) => ?_)
        refine XP_n 2 (pc' := 5) (ls' := [.ref (99), .int (cI (-1)), .int (nI (yn))]) (st' := [.int (cI (-1)), .int (cI (-1))]) (M' := (I, J, Rx R, N, G)) rfl ?_
        refine XP_icD rfl (fun (b5 : cI (-1) = cI (-1)) => ?_) (fun (b5 : ¬ cI (-1) = cI (-1)) => absurd b5 (by first | exact rfl | exact fun z => z rfl | omega))
        refine XP_n 2 (pc' := 14) (ls' := [.ref (99), .int (cI (-1)), .int (nI (yn))]) (st' := [.int (nI (yn)), .ref (99)]) (M' := (I, J, Rx R, N, G)) rfl ?_
        refine XP_pure rfl rfl (m_isYear hI.1 hI.2.1 _) ?_
        refine XP_s rfl ?_
        refine XP_bne (fun b15 => ?_) (fun b15 => absurd g8 b15)
        refine XP_n 3 (pc' := 21) (ls' := [.ref (99), .int (cI (-1)), .int (nI (yn))]) (st' := [.int (nI (0)), .int (cI (-1)), .ref (99)]) (M' := (I, J, Rx R, N, G)) rfl ?_
        refine XP_call rfl rfl (q_M_bestA hI (by omega)) ?_
        rintro v30 M30 ⟨rfl, I30, J30, rfl, hI30, hpl30⟩
        have hpb30 := pL_b hI30.2.1 0 (s 99 3) 0 (cY s) 0 (by omega)
        rw [show pL s 0 (s 99 3) 0 (cY s) 0 = pBest s 0 (s 99 3) 0 from rfl] at hpb30
        refine XP_n 4 (pc' := 26) (ls' := [.ref (99), .int (cI (-1)), .int (nI (yn))]) (st' := [.int (nI (yn)), .ref (132)]) (M' := (I30, J30, Rx R, N, G)) rfl ?_
        refine XP_iraw rfl rfl (show yn < 16 by omega) rfl (by omega) ?_
        rw [show I30 132 yn = nI (pU s 0 (s 99 3) 0 yn) from hpl30 yn hyn]
        exact XP_ret rfl ⟨rfl, _, _, rfl, hI30⟩
    · by_cases g9 : inN p (cP s)
      rotate_left
      · skip
        refine ⟨cI (-5), ?_, fun I J hI => ?_⟩
        · unfold TP
          show XP X _ k_H_planned 0 [.ref (0), .int (p), .int (y)] [] _ _
          refine XP_n 3 (pc' := 3) (ls' := [.ref (0), .int (p), .int (y)]) (st' := [.int (p), .ref (1)]) (M' := (I, J, Rx R, N, G)) rfl ?_
          refine XP_pure rfl rfl (c_hasPath hI.1 hI.2.1 _) ?_
          refine XP_s rfl ?_
          refine XP_bne (fun b4 => absurd b4 g9) (fun b4 => ?_)
          refine XP_n 2 (pc' := 7) (ls' := [.ref (0), .int (p), .int (y)]) (st' := [.int (cI (-1)), .int (p)]) (M' := (I, J, Rx R, N, G)) rfl ?_
          refine XP_icD rfl (fun (b7 : ¬ p = cI (-1)) => ?_) (fun (b7 : p = cI (-1)) => absurd b7 (by first | exact hm | exact fun z => z hm | omega))
          refine XP_n 1 (pc' := 13) (ls' := [.ref (0), .int (p), .int (y)]) (st' := [.int (cI (-5))]) (M' := (I, J, Rx R, N, G)) rfl ?_
          exact XP_ret rfl ⟨rfl, _, _, rfl, hI⟩
        · unfold TP
          show XP X _ k_M_planned 0 [.ref (99), .int (p), .int (y)] [] _ _
          refine XP_n 1 (pc' := 1) (ls' := [.ref (99), .int (p), .int (y)]) (st' := [.ref (99)]) (M' := (I, J, Rx R, N, G)) rfl ?_
          refine XP_geti hI.1 rfl rfl rfl ?_
          rw [hW.p.1]
          refine XP_ifN (x := cP s)  rfl (by omega) (fun (b2 : cP s = 0) => absurd b2 (by first | exact hp0 | exact fun z => z hp0 | omega)) (fun (b2 : ¬ cP s = 0) => ?_)
          refine XP_n 2 (pc' := 5) (ls' := [.ref (99), .int (p), .int (y)]) (st' := [.int (cI (-1)), .int (p)]) (M' := (I, J, Rx R, N, G)) rfl ?_
          refine XP_icD rfl (fun (b5 : p = cI (-1)) => absurd b5 (by first | exact hm | exact fun z => z hm | omega)) (fun (b5 : ¬ p = cI (-1)) => ?_)
          refine XP_n 2 (pc' := 8) (ls' := [.ref (99), .int (p), .int (y)]) (st' := [.int (p), .ref (99)]) (M' := (I, J, Rx R, N, G)) rfl ?_
          refine XP_pure rfl rfl (m_isPath hI.1 hI.2.1 _) ?_
          refine XP_s rfl ?_
          refine XP_bne (fun b9 => absurd b9 g9) (fun b9 => ?_)
          refine XP_n 1 (pc' := 11) (ls' := [.ref (99), .int (p), .int (y)]) (st' := [.int (cI (-5))]) (M' := (I, J, Rx R, N, G)) rfl ?_
          exact XP_ret rfl ⟨rfl, _, _, rfl, hI⟩
      obtain ⟨pn, hpn, rfl, ep⟩ := inN_nat g9 (by omega)
      by_cases g8 : inN y (cY s)
      rotate_left
      · skip
        refine ⟨cI (-7), ?_, fun I J hI => ?_⟩
        · unfold TP
          show XP X _ k_H_planned 0 [.ref (0), .int (nI (pn)), .int (y)] [] _ _
          refine XP_n 3 (pc' := 3) (ls' := [.ref (0), .int (nI (pn)), .int (y)]) (st' := [.int (nI (pn)), .ref (1)]) (M' := (I, J, Rx R, N, G)) rfl ?_
          refine XP_pure rfl rfl (c_hasPath hI.1 hI.2.1 _) ?_
          refine XP_s rfl ?_
          refine XP_bne (fun b4 => ?_) (fun b4 => absurd g9 b4)
          refine XP_n 2 (pc' := 16) (ls' := [.ref (0), .int (nI (pn)), .int (y)]) (st' := [.int (y), .ref (0)]) (M' := (I, J, Rx R, N, G)) rfl ?_
          refine XP_pure rfl rfl (h_isYear hI.1 hI.2.1 _) ?_
          refine XP_s rfl ?_
          refine XP_beq (fun b17 => ?_) (fun b17 => absurd b17 g8)
          refine XP_n 1 (pc' := 26) (ls' := [.ref (0), .int (nI (pn)), .int (y)]) (st' := [.int (cI (-7))]) (M' := (I, J, Rx R, N, G)) rfl ?_
          exact XP_ret rfl ⟨rfl, _, _, rfl, hI⟩
        · unfold TP
          show XP X _ k_M_planned 0 [.ref (99), .int (nI (pn)), .int (y)] [] _ _
          refine XP_n 1 (pc' := 1) (ls' := [.ref (99), .int (nI (pn)), .int (y)]) (st' := [.ref (99)]) (M' := (I, J, Rx R, N, G)) rfl ?_
          refine XP_geti hI.1 rfl rfl rfl ?_
          rw [hW.p.1]
          refine XP_ifN (x := cP s)  rfl (by omega) (fun (b2 : cP s = 0) => absurd b2 (by first | exact hp0 | exact fun z => z hp0 | omega)) (fun (b2 : ¬ cP s = 0) => ?_)
          refine XP_n 2 (pc' := 5) (ls' := [.ref (99), .int (nI (pn)), .int (y)]) (st' := [.int (cI (-1)), .int (nI (pn))]) (M' := (I, J, Rx R, N, G)) rfl ?_
          refine XP_icD rfl (fun (b5 : nI (pn) = cI (-1)) => absurd b5 (by first | exact hm | exact fun z => z hm | omega)) (fun (b5 : ¬ nI (pn) = cI (-1)) => ?_)
          refine XP_n 2 (pc' := 8) (ls' := [.ref (99), .int (nI (pn)), .int (y)]) (st' := [.int (nI (pn)), .ref (99)]) (M' := (I, J, Rx R, N, G)) rfl ?_
          refine XP_pure rfl rfl (m_isPath hI.1 hI.2.1 _) ?_
          refine XP_s rfl ?_
          refine XP_bne (fun b9 => ?_) (fun b9 => absurd g9 b9)
          refine XP_n 2 (pc' := 14) (ls' := [.ref (99), .int (nI (pn)), .int (y)]) (st' := [.int (y), .ref (99)]) (M' := (I, J, Rx R, N, G)) rfl ?_
          refine XP_pure rfl rfl (m_isYear hI.1 hI.2.1 _) ?_
          refine XP_s rfl ?_
          refine XP_bne (fun b15 => absurd b15 g8) (fun b15 => ?_)
          refine XP_n 1 (pc' := 17) (ls' := [.ref (99), .int (nI (pn)), .int (y)]) (st' := [.int (cI (-7))]) (M' := (I, J, Rx R, N, G)) rfl ?_
          exact XP_ret rfl ⟨rfl, _, _, rfl, hI⟩
      obtain ⟨yn, hyn, rfl, ey⟩ := inN_nat g8 (by omega)
      refine ⟨nI (pU s (pn + 1) (s 99 3) 0 yn), ?_, fun I J hI => ?_⟩
      · unfold TP
        show XP X _ k_H_planned 0 [.ref (0), .int (nI (pn)), .int (nI (yn))] [] _ _
        refine XP_n 3 (pc' := 3) (ls' := [.ref (0), .int (nI (pn)), .int (nI (yn))]) (st' := [.int (nI (pn)), .ref (1)]) (M' := (I, J, Rx R, N, G)) rfl ?_
        refine XP_pure rfl rfl (c_hasPath hI.1 hI.2.1 _) ?_
        refine XP_s rfl ?_
        refine XP_bne (fun b4 => ?_) (fun b4 => absurd g9 b4)
        refine XP_n 2 (pc' := 16) (ls' := [.ref (0), .int (nI (pn)), .int (nI (yn))]) (st' := [.int (nI (yn)), .ref (0)]) (M' := (I, J, Rx R, N, G)) rfl ?_
        refine XP_pure rfl rfl (h_isYear hI.1 hI.2.1 _) ?_
        refine XP_s rfl ?_
        refine XP_beq (fun b17 => absurd g8 b17) (fun b17 => ?_)
        refine XP_n 3 (pc' := 21) (ls' := [.ref (0), .int (nI (pn)), .int (nI (yn))]) (st' := [.int (nI (pn)), .ref (21)]) (M' := (I, J, Rx R, N, G)) rfl ?_
        refine XP_call rfl rfl (q_C_bestP hI (show pn < cP s by omega)) ?_
        rintro v31 M31 ⟨rfl, I31, J31, rfl, hI31, hpl31, hfr31⟩
        have hpb31 := pL_b hI31.2.1 (pn + 1) (s 99 3) 0 (cY s) 0 (by omega)
        rw [show pL s (pn + 1) (s 99 3) 0 (cY s) 0 = pBest s (pn + 1) (s 99 3) 0 from rfl] at hpb31
        refine XP_n 1 (pc' := 23) (ls' := [.ref (0), .int (nI (pn)), .int (nI (yn))]) (st' := [.int (nI (yn)), .ref (68 + 2 * (pn + 1))]) (M' := (I31, J31, Rx R, N, G)) rfl ?_
        refine XP_pure rfl (by show (isO (68 + 2 * (pn + 1)) 4 || false) = true; rw [(plq R N (show (pn + 1) < 5 by omega)).1]; rfl) (c_plin (plq R N (show (pn + 1) < 5 by omega)) (show yn < 16 by omega)) ?_
        rw [hpl31.2 yn (by omega)]
        refine XP_n 1 (pc' := 26) (ls' := [.ref (0), .int (nI (pn)), .int (nI (yn))]) (st' := [.int (nI (pU s (pn + 1) (s 99 3) 0 yn))]) (M' := (I31, J31, Rx R, N, G)) rfl ?_
        exact XP_ret rfl ⟨rfl, _, _, rfl, hI31⟩
      · unfold TP
        show XP X _ k_M_planned 0 [.ref (99), .int (nI (pn)), .int (nI (yn))] [] _ _
        refine XP_n 1 (pc' := 1) (ls' := [.ref (99), .int (nI (pn)), .int (nI (yn))]) (st' := [.ref (99)]) (M' := (I, J, Rx R, N, G)) rfl ?_
        refine XP_geti hI.1 rfl rfl rfl ?_
        rw [hW.p.1]
        refine XP_ifN (x := cP s)  rfl (by omega) (fun (b2 : cP s = 0) => absurd b2 (by first | exact hp0 | exact fun z => z hp0 | omega)) (fun (b2 : ¬ cP s = 0) => ?_)
        refine XP_n 2 (pc' := 5) (ls' := [.ref (99), .int (nI (pn)), .int (nI (yn))]) (st' := [.int (cI (-1)), .int (nI (pn))]) (M' := (I, J, Rx R, N, G)) rfl ?_
        refine XP_icD rfl (fun (b5 : nI (pn) = cI (-1)) => absurd b5 (by first | exact hm | exact fun z => z hm | omega)) (fun (b5 : ¬ nI (pn) = cI (-1)) => ?_)
        refine XP_n 2 (pc' := 8) (ls' := [.ref (99), .int (nI (pn)), .int (nI (yn))]) (st' := [.int (nI (pn)), .ref (99)]) (M' := (I, J, Rx R, N, G)) rfl ?_
        refine XP_pure rfl rfl (m_isPath hI.1 hI.2.1 _) ?_
        refine XP_s rfl ?_
        refine XP_bne (fun b9 => ?_) (fun b9 => absurd g9 b9)
        refine XP_n 2 (pc' := 14) (ls' := [.ref (99), .int (nI (pn)), .int (nI (yn))]) (st' := [.int (nI (yn)), .ref (99)]) (M' := (I, J, Rx R, N, G)) rfl ?_
        refine XP_pure rfl rfl (m_isYear hI.1 hI.2.1 _) ?_
        refine XP_s rfl ?_
        refine XP_bne (fun b15 => ?_) (fun b15 => absurd g8 b15)
        refine XP_n 3 (pc' := 21) (ls' := [.ref (99), .int (nI (pn)), .int (nI (yn))]) (st' := [.int (nI (0)), .int (nI (pn)), .ref (99)]) (M' := (I, J, Rx R, N, G)) rfl ?_
        refine XP_call rfl rfl (q_M_bestP hI (show pn < cP s by omega) (by omega)) ?_
        rintro v32 M32 ⟨rfl, I32, J32, rfl, hI32, hpl32⟩
        have hpb32 := pL_b hI32.2.1 (pn + 1) (s 99 3) 0 (cY s) 0 (by omega)
        rw [show pL s (pn + 1) (s 99 3) 0 (cY s) 0 = pBest s (pn + 1) (s 99 3) 0 from rfl] at hpb32
        refine XP_n 4 (pc' := 26) (ls' := [.ref (99), .int (nI (pn)), .int (nI (yn))]) (st' := [.int (nI (yn)), .ref (132)]) (M' := (I32, J32, Rx R, N, G)) rfl ?_
        refine XP_iraw rfl rfl (show yn < 16 by omega) rfl (by omega) ?_
        rw [show I32 132 yn = nI (pU s (pn + 1) (s 99 3) 0 yn) from hpl32 yn hyn]
        exact XP_ret rfl ⟨rfl, _, _, rfl, hI32⟩
theorem kn_le {s : Nat → Nat → Int32} (hW : Wf s) {n : Nat} (hn : n ≤ cP s) : sumN (fun p => rWt s p * pBest s (p + 1) (s 99 3) 0) n ≤ 64000000000000 := by
  have h4 := hW.p.2
  have hy := hW.y.2.2
  have h1 := sumN_le (f := (fun p => rWt s p * pBest s (p + 1) (s 99 3) 0)) (n := n) (c := 99 * 160000000000) (fun i hi => Nat.mul_le_mul (hW.pw (show i < cP s by omega)).2.2 (pL_b hW (i + 1) (s 99 3) 0 (cY s) 0 hy))
  have h5 : n * (99 * 160000000000) ≤ 4 * (99 * 160000000000) := Nat.mul_le_mul_right _ (by omega)
  exact Nat.le_trans h1 (Nat.le_trans h5 (by decide))
theorem l_H_know {Q : Option Value → hM → Prop} (hW : Wf s) {part : Nat} (hpart : part ≤ 1) (kk : ∀ I J, Inv s R N I J → XP X (d + 9) k_H_know 36 [.ref (0), .int (nI (part)), .long (lN (pBest s 0 (s 99 3) 0) - lN (sumN (fun p => rWt s p * pBest s (p + 1) (s 99 3) 0) (cP s))), xj, .int (nI (cP s))] [] (I, J, Rx R, N, G) Q) : ∀ (n i : Nat) (I : Nat → Nat → Int32) (J : Nat → Nat → Int64) (acc : Int64), i + n = cP s → Inv s R N I J → acc = lN (pBest s 0 (s 99 3) 0) - lN (sumN (fun p => rWt s p * pBest s (p + 1) (s 99 3) 0) (i)) → XP X (d + 9) k_H_know 13 [.ref (0), .int (nI (part)), .long (acc), xj, .int (nI (i))] [] (I, J, Rx R, N, G) Q := by
  have hp4 := hW.p.2
  have hy16 := hW.y.2
  intro n
  induction n with
  | zero =>
    rintro i I J _ hi hI rfl
    obtain rfl : i = cP s := by omega
    have hL := hI.2.2.1
    refine XP_n 3 (pc' := 16) (ls' := [.ref (0), .int (nI (part)), .long (lN (pBest s 0 (s 99 3) 0) - lN (sumN (fun p => rWt s p * pBest s (p + 1) (s 99 3) 0) (cP s))), xj, .int (nI (cP s))]) (st' := [.ref (1), .int (nI (cP s))]) (M' := (I, J, Rx R, N, G)) rfl ?_
    refine XP_geti hI.1 rfl rfl rfl ?_
    rw [hW.p.1]
    refine XP_icN (x := cP s) (y := cP s) rfl (by omega) (by omega) (fun (b17 : cP s ≤ cP s) => ?_) (fun (b17 : cP s < cP s) => absurd b17 (by omega))
    exact kk _ _ hI
  | succ n ih =>
    rintro i I J _ hi hI rfl
    have hL := hI.2.2.1
    have ee : lN (pBest s 0 (s 99 3) 0) - lN (sumN (fun p => rWt s p * pBest s (p + 1) (s 99 3) 0) (i)) - lN (rWt s i) * lN (pBest s (i + 1) (s 99 3) 0) = lN (pBest s 0 (s 99 3) 0) - lN (sumN (fun p => rWt s p * pBest s (p + 1) (s 99 3) 0) (i + 1)) := by
      rw [lN_mul, l_ss]
      rfl
    refine XP_n 3 (pc' := 16) (ls' := [.ref (0), .int (nI (part)), .long (lN (pBest s 0 (s 99 3) 0) - lN (sumN (fun p => rWt s p * pBest s (p + 1) (s 99 3) 0) (i))), xj, .int (nI (i))]) (st' := [.ref (1), .int (nI (i))]) (M' := (I, J, Rx R, N, G)) rfl ?_
    refine XP_geti hI.1 rfl rfl rfl ?_
    rw [hW.p.1]
    refine XP_icN (x := i) (y := cP s) rfl (by omega) (by omega) (fun (b17 : cP s ≤ i) => absurd b17 (by omega)) (fun (b17 : i < cP s) => ?_)
    refine XP_n 6 (pc' := 24) (ls' := [.ref (0), .int (nI (part)), .long (lN (pBest s 0 (s 99 3) 0) - lN (sumN (fun p => rWt s p * pBest s (p + 1) (s 99 3) 0) (i))), xj, .int (nI (i))]) (st' := [.int ((nI (1)) <<< ((nI (i)) &&& 31)), .ref (1), .long (lN (pBest s 0 (s 99 3) 0) - lN (sumN (fun p => rWt s p * pBest s (p + 1) (s 99 3) 0) (i)))]) (M' := (I, J, Rx R, N, G)) rfl ?_
    refine XP_pure rfl rfl (c_wOne hI.1 hW (show i < cP s by omega)) ?_
    have hrw := (hW.pw (show i < cP s by omega)).2
    refine XP_n 4 (pc' := 29) (ls' := [.ref (0), .int (nI (part)), .long (lN (pBest s 0 (s 99 3) 0) - lN (sumN (fun p => rWt s p * pBest s (p + 1) (s 99 3) 0) (i))), xj, .int (nI (i))]) (st' := [.int (nI (i)), .ref (21), .long ((nI (rWt s i)).toInt64), .long (lN (pBest s 0 (s 99 3) 0) - lN (sumN (fun p => rWt s p * pBest s (p + 1) (s 99 3) 0) (i)))]) (M' := (I, J, Rx R, N, G)) rfl ?_
    rw [show (nI (rWt s i)).toInt64 = lN (rWt s i) from nI_lE (rfl) (by omega)]
    refine XP_call rfl rfl (q_C_bestP hI (show i < cP s by omega)) ?_
    rintro v33 M33 ⟨rfl, I33, J33, rfl, hI33, hpl33, hfr33⟩
    have hpb33 := pL_b hI33.2.1 (i + 1) (s 99 3) 0 (cY s) 0 (by omega)
    rw [show pL s (i + 1) (s 99 3) 0 (cY s) 0 = pBest s (i + 1) (s 99 3) 0 from rfl] at hpb33
    refine XP_getlw rfl (by rw [(plq R N (show (i + 1) < 5 by omega)).1]; rfl) ?_
    show XP X _ k_H_know 31 [.ref (0), .int (nI (part)), .long (lN (pBest s 0 (s 99 3) 0) - lN (sumN (fun p => rWt s p * pBest s (p + 1) (s 99 3) 0) (i))), xj, .int (nI (i))] [.long (J33 (68 + 2 * (i + 1)) 1), .long (lN (rWt s i)), .long (lN (pBest s 0 (s 99 3) 0) - lN (sumN (fun p => rWt s p * pBest s (p + 1) (s 99 3) 0) (i)))] _ _
    rw [show J33 (68 + 2 * (i + 1)) 1 = lN (pBest s (i + 1) (s 99 3) 0) from hpl33.1]
    refine XP_n 4 (pc' := 35) (ls' := [.ref (0), .int (nI (part)), .long ((lN (pBest s 0 (s 99 3) 0) - lN (sumN (fun p => rWt s p * pBest s (p + 1) (s 99 3) 0) (i))) - ((lN (rWt s i)) * (lN (pBest s (i + 1) (s 99 3) 0)))), xj, .int (nI (i) + nI (1))]) (st' := []) (M' := (I33, J33, Rx R, N, G)) rfl ?_
    rw [show nI (i) + nI (1) = nI (i + 1) from nI_addE (rfl) rfl]
    refine XP_n 1 (pc' := 13) (ls' := [.ref (0), .int (nI (part)), .long ((lN (pBest s 0 (s 99 3) 0) - lN (sumN (fun p => rWt s p * pBest s (p + 1) (s 99 3) 0) (i))) - ((lN (rWt s i)) * (lN (pBest s (i + 1) (s 99 3) 0)))), xj, .int (nI (i + 1))]) (st' := []) (M' := (I33, J33, Rx R, N, G)) rfl ?_
    exact ih (i + 1) _ _ _ (by omega) hI33 ee
theorem l_M_know {Q : Option Value → hM → Prop} (hW : Wf s) {part : Nat} (hpart : part ≤ 1) (kk : ∀ I J, Inv s R N I J → XP X (d + 9) k_M_know 39 [.ref (99), .int (nI (part)), .long (lN (pBest s 0 (s 99 3) 0) - lN (sumN (fun p => rWt s p * pBest s (p + 1) (s 99 3) 0) (cP s))), xj, .int (nI (cP s))] [] (I, J, Rx R, N, G) Q) : ∀ (n i : Nat) (I : Nat → Nat → Int32) (J : Nat → Nat → Int64) (acc : Int64), i + n = cP s → Inv s R N I J → acc = lN (pBest s 0 (s 99 3) 0) - lN (sumN (fun p => rWt s p * pBest s (p + 1) (s 99 3) 0) (i)) → XP X (d + 9) k_M_know 20 [.ref (99), .int (nI (part)), .long (acc), xj, .int (nI (i))] [] (I, J, Rx R, N, G) Q := by
  have hp4 := hW.p.2
  have hy16 := hW.y.2
  intro n
  induction n with
  | zero =>
    rintro i I J _ hi hI rfl
    obtain rfl : i = cP s := by omega
    have hL := hI.2.2.1
    refine XP_n 2 (pc' := 22) (ls' := [.ref (99), .int (nI (part)), .long (lN (pBest s 0 (s 99 3) 0) - lN (sumN (fun p => rWt s p * pBest s (p + 1) (s 99 3) 0) (cP s))), xj, .int (nI (cP s))]) (st' := [.ref (99), .int (nI (cP s))]) (M' := (I, J, Rx R, N, G)) rfl ?_
    refine XP_geti hI.1 rfl rfl rfl ?_
    rw [hW.p.1]
    refine XP_icN (x := cP s) (y := cP s) rfl (by omega) (by omega) (fun (b23 : cP s ≤ cP s) => ?_) (fun (b23 : cP s < cP s) => absurd b23 (by omega))
    exact kk _ _ hI
  | succ n ih =>
    rintro i I J _ hi hI rfl
    have hL := hI.2.2.1
    have ee : lN (pBest s 0 (s 99 3) 0) - lN (sumN (fun p => rWt s p * pBest s (p + 1) (s 99 3) 0) (i)) - lN (rWt s i) * lN (pBest s (i + 1) (s 99 3) 0) = lN (pBest s 0 (s 99 3) 0) - lN (sumN (fun p => rWt s p * pBest s (p + 1) (s 99 3) 0) (i + 1)) := by
      rw [lN_mul, l_ss]
      rfl
    refine XP_n 2 (pc' := 22) (ls' := [.ref (99), .int (nI (part)), .long (lN (pBest s 0 (s 99 3) 0) - lN (sumN (fun p => rWt s p * pBest s (p + 1) (s 99 3) 0) (i))), xj, .int (nI (i))]) (st' := [.ref (99), .int (nI (i))]) (M' := (I, J, Rx R, N, G)) rfl ?_
    refine XP_geti hI.1 rfl rfl rfl ?_
    rw [hW.p.1]
    refine XP_icN (x := i) (y := cP s) rfl (by omega) (by omega) (fun (b23 : cP s ≤ i) => absurd b23 (by omega)) (fun (b23 : i < cP s) => ?_)
    refine XP_n 4 (pc' := 28) (ls' := [.ref (99), .int (nI (part)), .long (lN (pBest s 0 (s 99 3) 0) - lN (sumN (fun p => rWt s p * pBest s (p + 1) (s 99 3) 0) (i))), xj, .int (nI (i))]) (st' := [.int (nI (i)), .ref (100), .long (lN (pBest s 0 (s 99 3) 0) - lN (sumN (fun p => rWt s p * pBest s (p + 1) (s 99 3) 0) (i)))]) (M' := (I, J, Rx R, N, G)) rfl ?_
    refine XP_iald hI.1 rfl rfl (show i < 4 by omega) rfl (by omega) rfl ?_
    obtain ⟨hq34, hr34⟩ := hW.pw (show i < cP s by omega)
    rw [hq34]
    refine XP_n 4 (pc' := 33) (ls' := [.ref (99), .int (nI (part)), .long (lN (pBest s 0 (s 99 3) 0) - lN (sumN (fun p => rWt s p * pBest s (p + 1) (s 99 3) 0) (i))), xj, .int (nI (i))]) (st' := [.int (nI (0)), .int (nI (i)), .ref (99), .long ((nI (rWt s i)).toInt64), .long (lN (pBest s 0 (s 99 3) 0) - lN (sumN (fun p => rWt s p * pBest s (p + 1) (s 99 3) 0) (i)))]) (M' := (I, J, Rx R, N, G)) rfl ?_
    rw [show (nI (rWt s i)).toInt64 = lN (rWt s i) from nI_lE (rfl) (by omega)]
    refine XP_call rfl rfl (q_M_bestP hI (show i < cP s by omega) (by omega)) ?_
    rintro v35 M35 ⟨rfl, I35, J35, rfl, hI35, hpl35⟩
    have hpb35 := pL_b hI35.2.1 (i + 1) (s 99 3) 0 (cY s) 0 (by omega)
    rw [show pL s (i + 1) (s 99 3) 0 (cY s) 0 = pBest s (i + 1) (s 99 3) 0 from rfl] at hpb35
    refine XP_n 4 (pc' := 38) (ls' := [.ref (99), .int (nI (part)), .long ((lN (pBest s 0 (s 99 3) 0) - lN (sumN (fun p => rWt s p * pBest s (p + 1) (s 99 3) 0) (i))) - ((lN (rWt s i)) * (lN (pBest s (i + 1) (s 99 3) 0)))), xj, .int (nI (i) + nI (1))]) (st' := []) (M' := (I35, J35, Rx R, N, G)) rfl ?_
    rw [show nI (i) + nI (1) = nI (i + 1) from nI_addE (rfl) rfl]
    refine XP_n 1 (pc' := 20) (ls' := [.ref (99), .int (nI (part)), .long ((lN (pBest s 0 (s 99 3) 0) - lN (sumN (fun p => rWt s p * pBest s (p + 1) (s 99 3) 0) (i))) - ((lN (rWt s i)) * (lN (pBest s (i + 1) (s 99 3) 0)))), xj, .int (nI (i + 1))]) (st' := []) (M' := (I35, J35, Rx R, N, G)) rfl ?_
    exact ih (i + 1) _ _ _ (by omega) hI35 ee
theorem f_know (hI : Inv s R N I J) (part : Int32) : ∃ v, TP X (d + 12) n_H_know [.ref 0, .int part] (I, J, Rx R, N, G) (QP s R N G (.long v)) ∧ ∀ I J, Inv s R N I J → TP X (d + 12) n_M_know [.ref 99, .int part] (I, J, Rx R, N, G) (QP s R N G (.long v)) := by
  have hI0 := hI
  obtain ⟨hS, hW, hL, hC, hch⟩ := hI0
  have hy16 := hW.y.2
  have hp4 := hW.p.2
  have hs6 := hW.ns.2
  have hr8 := hW.r.2
  have hst8 := hW.st.2
  have ht3 := hW.t.2
  have hw60 := hW.w.2
  have hcwa := cWA_le hW
  have hcw0 : cP s = 0 → cWA s = 0 := (cWA_0 hW).mpr
  have hcw1 : ¬ cP s = 0 → ¬ cWA s = 0 := fun h z => h ((cWA_0 hW).mp z)
  have hknl := kn_le hW (Nat.le_refl (cP s))
  have hpb0 := pL_b hW 0 (s 99 3) 0 (cY s) 0 (by omega)
  rw [show pL s 0 (s 99 3) 0 (cY s) 0 = pBest s 0 (s 99 3) 0 from rfl] at hpb0
  by_cases g0 : iv 0 1 (part)
  rotate_left
  · skip
    refine ⟨cL (-4611686018427387904), ?_, fun I J hI => ?_⟩
    · unfold TP
      show XP X _ k_H_know 0 [.ref (0), .int (part), xj, xj, xj] [] _ _
      refine XP_n 1 (pc' := 1) (ls' := [.ref (0), .int (part), xj, xj, xj]) (st' := [.int (part)]) (M' := (I, J, Rx R, N, G)) rfl ?_
      refine XP_pure rfl rfl (t_H_isPart X _ _ _) ?_
      refine XP_s rfl ?_
      refine XP_bne (fun b2 => absurd b2 g0) (fun b2 => ?_)
      refine XP_n 1 (pc' := 4) (ls' := [.ref (0), .int (part), xj, xj, xj]) (st' := [.long (cL (-4611686018427387904))]) (M' := (I, J, Rx R, N, G)) rfl ?_
      exact XP_ret rfl ⟨rfl, _, _, rfl, hI⟩
    · unfold TP
      show XP X _ k_M_know 0 [.ref (99), .int (part), xj, xj, xj] [] _ _
      refine XP_n 3 (pc' := 3) (ls' := [.ref (99), .int (part), xj, xj, xj]) (st' := [.int (nI (1)), .int (nI (0)), .int (part)]) (M' := (I, J, Rx R, N, G)) rfl ?_
      refine XP_pure rfl rfl (w_M X _ _ 0 1 _) ?_
      refine XP_s rfl ?_
      refine XP_bne (fun b4 => absurd b4 g0) (fun b4 => ?_)
      refine XP_n 1 (pc' := 6) (ls' := [.ref (99), .int (part), xj, xj, xj]) (st' := [.long (cL (-4611686018427387904))]) (M' := (I, J, Rx R, N, G)) rfl ?_
      exact XP_ret rfl ⟨rfl, _, _, rfl, hI⟩
  obtain ⟨partn, hpartn0, hpartn, rfl, epart⟩ := iv_nat g0 (by omega) (by omega)
  refine ⟨gMB s (lN (pBest s 0 (s 99 3) 0) - lN (sumN (fun p => rWt s p * pBest s (p + 1) (s 99 3) 0) (cP s))) partn, ?_, fun I J hI => ?_⟩
  · unfold TP
    show XP X _ k_H_know 0 [.ref (0), .int (nI (partn)), xj, xj, xj] [] _ _
    refine XP_n 1 (pc' := 1) (ls' := [.ref (0), .int (nI (partn)), xj, xj, xj]) (st' := [.int (nI (partn))]) (M' := (I, J, Rx R, N, G)) rfl ?_
    refine XP_pure rfl rfl (t_H_isPart X _ _ _) ?_
    refine XP_s rfl ?_
    refine XP_bne (fun b2 => ?_) (fun b2 => absurd g0 b2)
    refine XP_n 3 (pc' := 8) (ls' := [.ref (0), .int (nI (partn)), xj, xj, xj]) (st' := [.int (cI (-1)), .ref (21)]) (M' := (I, J, Rx R, N, G)) rfl ?_
    refine XP_call rfl rfl (q_C_bestA hI) ?_
    rintro v36 M36 ⟨rfl, I36, J36, rfl, hI36, hpl36, hfr36⟩
    have hpb36 := pL_b hI36.2.1 0 (s 99 3) 0 (cY s) 0 (by omega)
    rw [show pL s 0 (s 99 3) 0 (cY s) 0 = pBest s 0 (s 99 3) 0 from rfl] at hpb36
    refine XP_getlw rfl (by rw [(plq R N (show 0 < 5 by omega)).1]; rfl) ?_
    show XP X _ k_H_know 10 [.ref (0), .int (nI (partn)), xj, xj, xj] [.long (J36 (68 + 2 * 0) 1)] _ _
    rw [show J36 (68 + 2 * 0) 1 = lN (pBest s 0 (s 99 3) 0) from hpl36.1]
    refine XP_n 3 (pc' := 13) (ls' := [.ref (0), .int (nI (partn)), .long (lN (pBest s 0 (s 99 3) 0)), xj, .int (nI (0))]) (st' := []) (M' := (I36, J36, Rx R, N, G)) rfl ?_
    refine l_H_know (d := d + 3) hW hpartn ?_ (cP s) 0 _ _ _ (by omega) hI36 (by unfold sumN; exact (show lN (pBest s 0 (s 99 3) 0) - lN 0 = lN (pBest s 0 (s 99 3) 0) from lN_sub (Nat.zero_le _)).symm)
    intro Ik Jk hIk
    refine XP_n 3 (pc' := 39) (ls' := [.ref (0), .int (nI (partn)), .long (lN (pBest s 0 (s 99 3) 0) - lN (sumN (fun p => rWt s p * pBest s (p + 1) (s 99 3) 0) (cP s))), xj, .int (nI (cP s))]) (st' := [.int (nI (partn)), .long (lN (pBest s 0 (s 99 3) 0) - lN (sumN (fun p => rWt s p * pBest s (p + 1) (s 99 3) 0) (cP s))), .ref (0)]) (M' := (Ik, Jk, Rx R, N, G)) rfl ?_
    refine XP_pure rfl rfl (c_meanBy hIk.1 hW (l_min2 (by omega) (by omega)) (by omega)) ?_
    exact XP_ret rfl ⟨rfl, _, _, rfl, hIk⟩
  · unfold TP
    show XP X _ k_M_know 0 [.ref (99), .int (nI (partn)), xj, xj, xj] [] _ _
    refine XP_n 3 (pc' := 3) (ls' := [.ref (99), .int (nI (partn)), xj, xj, xj]) (st' := [.int (nI (1)), .int (nI (0)), .int (nI (partn))]) (M' := (I, J, Rx R, N, G)) rfl ?_
    refine XP_pure rfl rfl (w_M X _ _ 0 1 _) ?_
    refine XP_s rfl ?_
    refine XP_bne (fun b4 => ?_) (fun b4 => absurd g0 b4)
    refine XP_n 1 (pc' := 8) (ls' := [.ref (99), .int (nI (partn)), xj, xj, xj]) (st' := [.ref (99)]) (M' := (I, J, Rx R, N, G)) rfl ?_
    refine XP_geti hI.1 rfl rfl rfl ?_
    rw [hW.p.1]
    refine XP_ifN (x := cP s)  rfl (by omega) (fun (b9 : ¬ cP s = 0) => ?_) (fun (b9 : cP s = 0) => ?_)
    · refine XP_n 3 (pc' := 16) (ls' := [.ref (99), .int (nI (partn)), xj, xj, xj]) (st' := [.int (nI (0)), .int (cI (-1)), .ref (99)]) (M' := (I, J, Rx R, N, G)) rfl ?_
      refine XP_call rfl rfl (q_M_bestA hI (by omega)) ?_
      rintro v37 M37 ⟨rfl, I37, J37, rfl, hI37, hpl37⟩
      have hpb37 := pL_b hI37.2.1 0 (s 99 3) 0 (cY s) 0 (by omega)
      rw [show pL s 0 (s 99 3) 0 (cY s) 0 = pBest s 0 (s 99 3) 0 from rfl] at hpb37
      refine XP_n 3 (pc' := 20) (ls' := [.ref (99), .int (nI (partn)), .long (lN (pBest s 0 (s 99 3) 0)), xj, .int (nI (0))]) (st' := []) (M' := (I37, J37, Rx R, N, G)) rfl ?_
      refine l_M_know (d := d + 3) hW hpartn ?_ (cP s) 0 _ _ _ (by omega) hI37 (by unfold sumN; exact (show lN (pBest s 0 (s 99 3) 0) - lN 0 = lN (pBest s 0 (s 99 3) 0) from lN_sub (Nat.zero_le _)).symm)
      intro Ik Jk hIk
      refine XP_n 3 (pc' := 42) (ls' := [.ref (99), .int (nI (partn)), .long (lN (pBest s 0 (s 99 3) 0) - lN (sumN (fun p => rWt s p * pBest s (p + 1) (s 99 3) 0) (cP s))), xj, .int (nI (cP s))]) (st' := [.ref (99), .long (lN (1000)), .long (lN (pBest s 0 (s 99 3) 0) - lN (sumN (fun p => rWt s p * pBest s (p + 1) (s 99 3) 0) (cP s)))]) (M' := (Ik, Jk, Rx R, N, G)) rfl ?_
      refine XP_pure rfl rfl (m_weights hIk.1 hW) ?_
      refine XP_n 2 (pc' := 45) (ls' := [.ref (99), .int (nI (partn)), .long (lN (pBest s 0 (s 99 3) 0) - lN (sumN (fun p => rWt s p * pBest s (p + 1) (s 99 3) 0) (cP s))), xj, .int (nI (cP s))]) (st' := [.int (nI (partn)), .long ((lN (1000)) * (lN (cWA s))), .long (lN (pBest s 0 (s 99 3) 0) - lN (sumN (fun p => rWt s p * pBest s (p + 1) (s 99 3) 0) (cP s)))]) (M' := (Ik, Jk, Rx R, N, G)) rfl ?_
      rw [show (lN (1000)) * (lN (cWA s)) = lN ((1000) * (cWA s)) from lN_mulE (rfl) (rfl)]
      refine XP_pure rfl rfl (m_low (by omega) (by intro _; omega) (by omega) (l_min2 (by omega) (by omega))) ?_
      exact XP_ret rfl ⟨by unfold gMB; rw [if_neg (hcw1 (by omega))], _, _, rfl, hIk⟩
    · refine XP_n 2 (pc' := 12) (ls' := [.ref (99), .int (nI (partn)), xj, xj, xj]) (st' := [.long ((nI (partn)).toInt64)]) (M' := (I, J, Rx R, N, G)) rfl ?_
      rw [show (nI (partn)).toInt64 = lN (partn) from nI_lE (rfl) (by omega)]
      exact XP_ret rfl ⟨by unfold gMB; rw [if_pos (hcw0 (by omega))], _, _, rfl, hI⟩
end
