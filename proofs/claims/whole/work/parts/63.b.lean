/-! faces: count, what is behind, paths by level -/
theorem XP_tabO {X : hX} {d pc : Nat} {C : List Instr} {ls r : List Value} {M : hM} {Q : Option Value → hM → Prop} {x : Int32} (lo hi t : Nat) {d' lo' hi' : Int} {ts : Array Int} (hC : C.getD pc .nop = .tableswitch d' lo' hi' ts) (h31 : lo < 2147483648) (h32 : hi < 2147483648) (hl : lo' = (lo : Int)) (hh : hi' = (hi : Int)) (h1 : ¬ iv lo hi x) (ht : d'.toNat = t) (kk : XP X d C t ls r M Q) : XP X d C pc ls (.int x :: r) M Q := by
  refine XP_s (M' := M) ?_ kk
  rw [hC]
  show some (if x.toInt < lo' ∨ hi' < x.toInt then d'.toNat else (ts.toList.getD (x.toInt - lo').toNat 0).toNat, ls, r, M) = _
  have : x.toInt < lo' ∨ hi' < x.toInt := by
    unfold iv at h1
    rw [Int32.le_iff_toInt_le, Int32.le_iff_toInt_le, nI_toInt (by omega), nI_toInt (by omega)] at h1
    omega
  rw [if_pos this, ht]
section
variable {X : hX} {d : Nat} {s I : Nat → Nat → Int32} {J : Nat → Nat → Int64} {R : Nat → Nat → Option Nat} {N : Nat → Nat} {G : hG}
theorem f_count (hI : Inv s R N I J) (what : Int32) : ∃ v, TP X (d + 12) n_H_count [.ref 0, .int what] (I, J, Rx R, N, G) (QP s R N G (.int v)) ∧ ∀ I J, Inv s R N I J → TP X (d + 12) n_M_count [.ref 99, .int what] (I, J, Rx R, N, G) (QP s R N G (.int v)) := by
  have hI0 := hI
  obtain ⟨hS, hW, hL, hC, hch⟩ := hI0
  have hy16 := hW.y.2
  have hp4 := hW.p.2
  have hs6 := hW.ns.2
  have hr8 := hW.r.2
  have hst8 := hW.st.2
  have ht3 := hW.t.2
  have hw60 := hW.w.2
  have hcwa := cWA_le hW
  by_cases g0 : iv 0 11 (what)
  rotate_left
  · skip
    refine ⟨cI (-2), ?_, fun I J hI => ?_⟩
    · unfold TP
      show XP X _ k_H_count 0 [.ref (0), .int (what)] [] _ _
      refine XP_n 1 (pc' := 1) (ls' := [.ref (0), .int (what)]) (st' := [.int (what)]) (M' := (I, J, Rx R, N, G)) rfl ?_
      refine XP_tabO 0 11 47 rfl (by omega) (by omega) rfl rfl g0 rfl ?_
      refine XP_n 1 (pc' := 48) (ls' := [.ref (0), .int (what)]) (st' := [.int (cI (-2))]) (M' := (I, J, Rx R, N, G)) rfl ?_
      exact XP_ret rfl ⟨rfl, _, _, rfl, hI⟩
    · unfold TP
      show XP X _ k_M_count 0 [.ref (99), .int (what)] [] _ _
      refine XP_n 1 (pc' := 1) (ls' := [.ref (99), .int (what)]) (st' := [.int (what)]) (M' := (I, J, Rx R, N, G)) rfl ?_
      refine XP_tabO 0 11 38 rfl (by omega) (by omega) rfl rfl g0 rfl ?_
      refine XP_n 1 (pc' := 39) (ls' := [.ref (99), .int (what)]) (st' := [.int (cI (-2))]) (M' := (I, J, Rx R, N, G)) rfl ?_
      exact XP_ret rfl ⟨rfl, _, _, rfl, hI⟩
  obtain ⟨whatn, hwhatn0, hwhatn, rfl, ewhat⟩ := iv_nat g0 (by omega) (by omega)
  have hx : whatn = 0 ∨ whatn = 1 ∨ whatn = 2 ∨ whatn = 3 ∨ whatn = 4 ∨ whatn = 5 ∨ whatn = 6 ∨ whatn = 7 ∨ whatn = 8 ∨ whatn = 9 ∨ whatn = 10 ∨ whatn = 11 := by omega
  clear hwhatn hwhatn0 ewhat
  rcases hx with rfl | rfl | rfl | rfl | rfl | rfl | rfl | rfl | rfl | rfl | rfl | rfl
  · skip
    refine ⟨nI (cY s), ?_, fun I J hI => ?_⟩
    · unfold TP
      show XP X _ k_H_count 0 [.ref (0), .int (nI (0))] [] _ _
      refine XP_n 1 (pc' := 1) (ls' := [.ref (0), .int (nI (0))]) (st' := [.int (nI (0))]) (M' := (I, J, Rx R, N, G)) rfl ?_
      refine XP_tab 0 0 11 2 rfl (by omega) rfl rfl (by omega) (by omega) rfl ?_
      refine XP_n 2 (pc' := 4) (ls' := [.ref (0), .int (nI (0))]) (st' := [.ref (1)]) (M' := (I, J, Rx R, N, G)) rfl ?_
      refine XP_geti hI.1 rfl rfl rfl ?_
      rw [hW.y.1]
      exact XP_ret rfl ⟨rfl, _, _, rfl, hI⟩
    · unfold TP
      show XP X _ k_M_count 0 [.ref (99), .int (nI (0))] [] _ _
      refine XP_n 1 (pc' := 1) (ls' := [.ref (99), .int (nI (0))]) (st' := [.int (nI (0))]) (M' := (I, J, Rx R, N, G)) rfl ?_
      refine XP_tab 0 0 11 2 rfl (by omega) rfl rfl (by omega) (by omega) rfl ?_
      refine XP_n 1 (pc' := 3) (ls' := [.ref (99), .int (nI (0))]) (st' := [.ref (99)]) (M' := (I, J, Rx R, N, G)) rfl ?_
      refine XP_geti hI.1 rfl rfl rfl ?_
      rw [hW.y.1]
      exact XP_ret rfl ⟨rfl, _, _, rfl, hI⟩
  · skip
    refine ⟨nI (cW s), ?_, fun I J hI => ?_⟩
    · unfold TP
      show XP X _ k_H_count 0 [.ref (0), .int (nI (1))] [] _ _
      refine XP_n 1 (pc' := 1) (ls' := [.ref (0), .int (nI (1))]) (st' := [.int (nI (1))]) (M' := (I, J, Rx R, N, G)) rfl ?_
      refine XP_tab 1 0 11 6 rfl (by omega) rfl rfl (by omega) (by omega) rfl ?_
      refine XP_n 2 (pc' := 8) (ls' := [.ref (0), .int (nI (1))]) (st' := [.ref (1)]) (M' := (I, J, Rx R, N, G)) rfl ?_
      refine XP_geti hI.1 rfl rfl rfl ?_
      rw [hW.w.1]
      exact XP_ret rfl ⟨rfl, _, _, rfl, hI⟩
    · unfold TP
      show XP X _ k_M_count 0 [.ref (99), .int (nI (1))] [] _ _
      refine XP_n 1 (pc' := 1) (ls' := [.ref (99), .int (nI (1))]) (st' := [.int (nI (1))]) (M' := (I, J, Rx R, N, G)) rfl ?_
      refine XP_tab 1 0 11 5 rfl (by omega) rfl rfl (by omega) (by omega) rfl ?_
      refine XP_n 1 (pc' := 6) (ls' := [.ref (99), .int (nI (1))]) (st' := [.ref (99)]) (M' := (I, J, Rx R, N, G)) rfl ?_
      refine XP_geti hI.1 rfl rfl rfl ?_
      rw [hW.w.1]
      exact XP_ret rfl ⟨rfl, _, _, rfl, hI⟩
  · skip
    refine ⟨s 99 2, ?_, fun I J hI => ?_⟩
    · unfold TP
      show XP X _ k_H_count 0 [.ref (0), .int (nI (2))] [] _ _
      refine XP_n 1 (pc' := 1) (ls' := [.ref (0), .int (nI (2))]) (st' := [.int (nI (2))]) (M' := (I, J, Rx R, N, G)) rfl ?_
      refine XP_tab 2 0 11 10 rfl (by omega) rfl rfl (by omega) (by omega) rfl ?_
      refine XP_n 2 (pc' := 12) (ls' := [.ref (0), .int (nI (2))]) (st' := [.ref (1)]) (M' := (I, J, Rx R, N, G)) rfl ?_
      refine XP_geti hI.1 rfl rfl rfl ?_
      exact XP_ret rfl ⟨rfl, _, _, rfl, hI⟩
    · unfold TP
      show XP X _ k_M_count 0 [.ref (99), .int (nI (2))] [] _ _
      refine XP_n 1 (pc' := 1) (ls' := [.ref (99), .int (nI (2))]) (st' := [.int (nI (2))]) (M' := (I, J, Rx R, N, G)) rfl ?_
      refine XP_tab 2 0 11 8 rfl (by omega) rfl rfl (by omega) (by omega) rfl ?_
      refine XP_n 1 (pc' := 9) (ls' := [.ref (99), .int (nI (2))]) (st' := [.ref (99)]) (M' := (I, J, Rx R, N, G)) rfl ?_
      refine XP_geti hI.1 rfl rfl rfl ?_
      exact XP_ret rfl ⟨rfl, _, _, rfl, hI⟩
  · skip
    refine ⟨s 99 3, ?_, fun I J hI => ?_⟩
    · unfold TP
      show XP X _ k_H_count 0 [.ref (0), .int (nI (3))] [] _ _
      refine XP_n 1 (pc' := 1) (ls' := [.ref (0), .int (nI (3))]) (st' := [.int (nI (3))]) (M' := (I, J, Rx R, N, G)) rfl ?_
      refine XP_tab 3 0 11 14 rfl (by omega) rfl rfl (by omega) (by omega) rfl ?_
      refine XP_n 2 (pc' := 16) (ls' := [.ref (0), .int (nI (3))]) (st' := [.ref (1)]) (M' := (I, J, Rx R, N, G)) rfl ?_
      refine XP_geti hI.1 rfl rfl rfl ?_
      rw [hL.2.2.2.2.2.2]
      exact XP_ret rfl ⟨rfl, _, _, rfl, hI⟩
    · unfold TP
      show XP X _ k_M_count 0 [.ref (99), .int (nI (3))] [] _ _
      refine XP_n 1 (pc' := 1) (ls' := [.ref (99), .int (nI (3))]) (st' := [.int (nI (3))]) (M' := (I, J, Rx R, N, G)) rfl ?_
      refine XP_tab 3 0 11 11 rfl (by omega) rfl rfl (by omega) (by omega) rfl ?_
      refine XP_n 1 (pc' := 12) (ls' := [.ref (99), .int (nI (3))]) (st' := [.ref (99)]) (M' := (I, J, Rx R, N, G)) rfl ?_
      refine XP_geti hI.1 rfl rfl rfl ?_
      exact XP_ret rfl ⟨rfl, _, _, rfl, hI⟩
  · skip
    refine ⟨nI (cP s), ?_, fun I J hI => ?_⟩
    · unfold TP
      show XP X _ k_H_count 0 [.ref (0), .int (nI (4))] [] _ _
      refine XP_n 1 (pc' := 1) (ls' := [.ref (0), .int (nI (4))]) (st' := [.int (nI (4))]) (M' := (I, J, Rx R, N, G)) rfl ?_
      refine XP_tab 4 0 11 18 rfl (by omega) rfl rfl (by omega) (by omega) rfl ?_
      refine XP_n 2 (pc' := 20) (ls' := [.ref (0), .int (nI (4))]) (st' := [.ref (1)]) (M' := (I, J, Rx R, N, G)) rfl ?_
      refine XP_geti hI.1 rfl rfl rfl ?_
      rw [hW.p.1]
      exact XP_ret rfl ⟨rfl, _, _, rfl, hI⟩
    · unfold TP
      show XP X _ k_M_count 0 [.ref (99), .int (nI (4))] [] _ _
      refine XP_n 1 (pc' := 1) (ls' := [.ref (99), .int (nI (4))]) (st' := [.int (nI (4))]) (M' := (I, J, Rx R, N, G)) rfl ?_
      refine XP_tab 4 0 11 14 rfl (by omega) rfl rfl (by omega) (by omega) rfl ?_
      refine XP_n 1 (pc' := 15) (ls' := [.ref (99), .int (nI (4))]) (st' := [.ref (99)]) (M' := (I, J, Rx R, N, G)) rfl ?_
      refine XP_geti hI.1 rfl rfl rfl ?_
      rw [hW.p.1]
      exact XP_ret rfl ⟨rfl, _, _, rfl, hI⟩
  · skip
    refine ⟨nI (cS s), ?_, fun I J hI => ?_⟩
    · unfold TP
      show XP X _ k_H_count 0 [.ref (0), .int (nI (5))] [] _ _
      refine XP_n 1 (pc' := 1) (ls' := [.ref (0), .int (nI (5))]) (st' := [.int (nI (5))]) (M' := (I, J, Rx R, N, G)) rfl ?_
      refine XP_tab 5 0 11 22 rfl (by omega) rfl rfl (by omega) (by omega) rfl ?_
      refine XP_n 2 (pc' := 24) (ls' := [.ref (0), .int (nI (5))]) (st' := [.ref (1)]) (M' := (I, J, Rx R, N, G)) rfl ?_
      refine XP_geti hI.1 rfl rfl rfl ?_
      rw [hW.ns.1]
      exact XP_ret rfl ⟨rfl, _, _, rfl, hI⟩
    · unfold TP
      show XP X _ k_M_count 0 [.ref (99), .int (nI (5))] [] _ _
      refine XP_n 1 (pc' := 1) (ls' := [.ref (99), .int (nI (5))]) (st' := [.int (nI (5))]) (M' := (I, J, Rx R, N, G)) rfl ?_
      refine XP_tab 5 0 11 17 rfl (by omega) rfl rfl (by omega) (by omega) rfl ?_
      refine XP_n 1 (pc' := 18) (ls' := [.ref (99), .int (nI (5))]) (st' := [.ref (99)]) (M' := (I, J, Rx R, N, G)) rfl ?_
      refine XP_geti hI.1 rfl rfl rfl ?_
      rw [hW.ns.1]
      exact XP_ret rfl ⟨rfl, _, _, rfl, hI⟩
  · skip
    refine ⟨nI (cR s), ?_, fun I J hI => ?_⟩
    · unfold TP
      show XP X _ k_H_count 0 [.ref (0), .int (nI (6))] [] _ _
      refine XP_n 1 (pc' := 1) (ls' := [.ref (0), .int (nI (6))]) (st' := [.int (nI (6))]) (M' := (I, J, Rx R, N, G)) rfl ?_
      refine XP_tab 6 0 11 26 rfl (by omega) rfl rfl (by omega) (by omega) rfl ?_
      refine XP_n 1 (pc' := 27) (ls' := [.ref (0), .int (nI (6))]) (st' := [.ref (0)]) (M' := (I, J, Rx R, N, G)) rfl ?_
      refine XP_geti hI.1 rfl rfl rfl ?_
      rw [hW.r.1]
      exact XP_ret rfl ⟨rfl, _, _, rfl, hI⟩
    · unfold TP
      show XP X _ k_M_count 0 [.ref (99), .int (nI (6))] [] _ _
      refine XP_n 1 (pc' := 1) (ls' := [.ref (99), .int (nI (6))]) (st' := [.int (nI (6))]) (M' := (I, J, Rx R, N, G)) rfl ?_
      refine XP_tab 6 0 11 20 rfl (by omega) rfl rfl (by omega) (by omega) rfl ?_
      refine XP_n 1 (pc' := 21) (ls' := [.ref (99), .int (nI (6))]) (st' := [.ref (99)]) (M' := (I, J, Rx R, N, G)) rfl ?_
      refine XP_geti hI.1 rfl rfl rfl ?_
      rw [hW.r.1]
      exact XP_ret rfl ⟨rfl, _, _, rfl, hI⟩
  · skip
    refine ⟨nI (cSt s), ?_, fun I J hI => ?_⟩
    · unfold TP
      show XP X _ k_H_count 0 [.ref (0), .int (nI (7))] [] _ _
      refine XP_n 1 (pc' := 1) (ls' := [.ref (0), .int (nI (7))]) (st' := [.int (nI (7))]) (M' := (I, J, Rx R, N, G)) rfl ?_
      refine XP_tab 7 0 11 29 rfl (by omega) rfl rfl (by omega) (by omega) rfl ?_
      refine XP_n 1 (pc' := 30) (ls' := [.ref (0), .int (nI (7))]) (st' := [.ref (0)]) (M' := (I, J, Rx R, N, G)) rfl ?_
      refine XP_geti hI.1 rfl rfl rfl ?_
      rw [hW.st.1]
      exact XP_ret rfl ⟨rfl, _, _, rfl, hI⟩
    · unfold TP
      show XP X _ k_M_count 0 [.ref (99), .int (nI (7))] [] _ _
      refine XP_n 1 (pc' := 1) (ls' := [.ref (99), .int (nI (7))]) (st' := [.int (nI (7))]) (M' := (I, J, Rx R, N, G)) rfl ?_
      refine XP_tab 7 0 11 23 rfl (by omega) rfl rfl (by omega) (by omega) rfl ?_
      refine XP_n 1 (pc' := 24) (ls' := [.ref (99), .int (nI (7))]) (st' := [.ref (99)]) (M' := (I, J, Rx R, N, G)) rfl ?_
      refine XP_geti hI.1 rfl rfl rfl ?_
      rw [hW.st.1]
      exact XP_ret rfl ⟨rfl, _, _, rfl, hI⟩
  · skip
    refine ⟨nI (cT s), ?_, fun I J hI => ?_⟩
    · unfold TP
      show XP X _ k_H_count 0 [.ref (0), .int (nI (8))] [] _ _
      refine XP_n 1 (pc' := 1) (ls' := [.ref (0), .int (nI (8))]) (st' := [.int (nI (8))]) (M' := (I, J, Rx R, N, G)) rfl ?_
      refine XP_tab 8 0 11 32 rfl (by omega) rfl rfl (by omega) (by omega) rfl ?_
      refine XP_n 2 (pc' := 34) (ls' := [.ref (0), .int (nI (8))]) (st' := [.ref (80)]) (M' := (I, J, Rx R, N, G)) rfl ?_
      refine XP_geti hI.1 rfl rfl rfl ?_
      rw [hW.t.1]
      exact XP_ret rfl ⟨rfl, _, _, rfl, hI⟩
    · unfold TP
      show XP X _ k_M_count 0 [.ref (99), .int (nI (8))] [] _ _
      refine XP_n 1 (pc' := 1) (ls' := [.ref (99), .int (nI (8))]) (st' := [.int (nI (8))]) (M' := (I, J, Rx R, N, G)) rfl ?_
      refine XP_tab 8 0 11 26 rfl (by omega) rfl rfl (by omega) (by omega) rfl ?_
      refine XP_n 1 (pc' := 27) (ls' := [.ref (99), .int (nI (8))]) (st' := [.ref (99)]) (M' := (I, J, Rx R, N, G)) rfl ?_
      refine XP_geti hI.1 rfl rfl rfl ?_
      rw [hW.t.1]
      exact XP_ret rfl ⟨rfl, _, _, rfl, hI⟩
  · skip
    refine ⟨nI (cTx s), ?_, fun I J hI => ?_⟩
    · unfold TP
      show XP X _ k_H_count 0 [.ref (0), .int (nI (9))] [] _ _
      refine XP_n 1 (pc' := 1) (ls' := [.ref (0), .int (nI (9))]) (st' := [.int (nI (9))]) (M' := (I, J, Rx R, N, G)) rfl ?_
      refine XP_tab 9 0 11 36 rfl (by omega) rfl rfl (by omega) (by omega) rfl ?_
      refine XP_n 1 (pc' := 37) (ls' := [.ref (0), .int (nI (9))]) (st' := [.ref (0)]) (M' := (I, J, Rx R, N, G)) rfl ?_
      refine XP_geti hI.1 rfl rfl rfl ?_
      rw [hW.tx.1]
      exact XP_ret rfl ⟨rfl, _, _, rfl, hI⟩
    · unfold TP
      show XP X _ k_M_count 0 [.ref (99), .int (nI (9))] [] _ _
      refine XP_n 1 (pc' := 1) (ls' := [.ref (99), .int (nI (9))]) (st' := [.int (nI (9))]) (M' := (I, J, Rx R, N, G)) rfl ?_
      refine XP_tab 9 0 11 29 rfl (by omega) rfl rfl (by omega) (by omega) rfl ?_
      refine XP_n 1 (pc' := 30) (ls' := [.ref (99), .int (nI (9))]) (st' := [.ref (99)]) (M' := (I, J, Rx R, N, G)) rfl ?_
      refine XP_geti hI.1 rfl rfl rfl ?_
      rw [hW.tx.1]
      exact XP_ret rfl ⟨rfl, _, _, rfl, hI⟩
  · skip
    refine ⟨nI (cLw s), ?_, fun I J hI => ?_⟩
    · unfold TP
      show XP X _ k_H_count 0 [.ref (0), .int (nI (10))] [] _ _
      refine XP_n 1 (pc' := 1) (ls' := [.ref (0), .int (nI (10))]) (st' := [.int (nI (10))]) (M' := (I, J, Rx R, N, G)) rfl ?_
      refine XP_tab 10 0 11 39 rfl (by omega) rfl rfl (by omega) (by omega) rfl ?_
      refine XP_n 2 (pc' := 41) (ls' := [.ref (0), .int (nI (10))]) (st' := [.ref (1)]) (M' := (I, J, Rx R, N, G)) rfl ?_
      refine XP_geti hI.1 rfl rfl rfl ?_
      rw [hW.lw.1]
      exact XP_ret rfl ⟨rfl, _, _, rfl, hI⟩
    · unfold TP
      show XP X _ k_M_count 0 [.ref (99), .int (nI (10))] [] _ _
      refine XP_n 1 (pc' := 1) (ls' := [.ref (99), .int (nI (10))]) (st' := [.int (nI (10))]) (M' := (I, J, Rx R, N, G)) rfl ?_
      refine XP_tab 10 0 11 32 rfl (by omega) rfl rfl (by omega) (by omega) rfl ?_
      refine XP_n 1 (pc' := 33) (ls' := [.ref (99), .int (nI (10))]) (st' := [.ref (99)]) (M' := (I, J, Rx R, N, G)) rfl ?_
      refine XP_geti hI.1 rfl rfl rfl ?_
      rw [hW.lw.1]
      exact XP_ret rfl ⟨rfl, _, _, rfl, hI⟩
  · skip
    refine ⟨nI (cTa s), ?_, fun I J hI => ?_⟩
    · unfold TP
      show XP X _ k_H_count 0 [.ref (0), .int (nI (11))] [] _ _
      refine XP_n 1 (pc' := 1) (ls' := [.ref (0), .int (nI (11))]) (st' := [.int (nI (11))]) (M' := (I, J, Rx R, N, G)) rfl ?_
      refine XP_tab 11 0 11 43 rfl (by omega) rfl rfl (by omega) (by omega) rfl ?_
      refine XP_n 2 (pc' := 45) (ls' := [.ref (0), .int (nI (11))]) (st' := [.ref (9)]) (M' := (I, J, Rx R, N, G)) rfl ?_
      refine XP_geti hI.1 rfl rfl rfl ?_
      rw [hW.ta.1]
      exact XP_ret rfl ⟨rfl, _, _, rfl, hI⟩
    · unfold TP
      show XP X _ k_M_count 0 [.ref (99), .int (nI (11))] [] _ _
      refine XP_n 1 (pc' := 1) (ls' := [.ref (99), .int (nI (11))]) (st' := [.int (nI (11))]) (M' := (I, J, Rx R, N, G)) rfl ?_
      refine XP_tab 11 0 11 35 rfl (by omega) rfl rfl (by omega) (by omega) rfl ?_
      refine XP_n 1 (pc' := 36) (ls' := [.ref (99), .int (nI (11))]) (st' := [.ref (99)]) (M' := (I, J, Rx R, N, G)) rfl ?_
      refine XP_geti hI.1 rfl rfl rfl ?_
      rw [hW.ta.1]
      exact XP_ret rfl ⟨rfl, _, _, rfl, hI⟩
theorem f_behindThen (hI : Inv s R N I J) (y : Int32) : ∃ v, TP X (d + 12) n_H_behindThen [.ref 0, .int y] (I, J, Rx R, N, G) (QP s R N G (.int v)) ∧ ∀ I J, Inv s R N I J → TP X (d + 12) n_M_behindThen [.ref 99, .int y] (I, J, Rx R, N, G) (QP s R N G (.int v)) := by
  obtain ⟨hS, hW, hL, hC, hch⟩ := id hI
  exact ⟨_, TP_mono (t_H_behindThen X (d + 8) hS hL.1 hW.lwt (hL.lw hW) y) (fun v M' ⟨a, I', b, c⟩ => ⟨a, I', J, b, hI.c (c.sub (by simp)) OnlyJ.rf⟩), fun I J hI => TP_mono (t_M_behindThen X (d + 9) hI.1 hW.lw.1 hW.lwt y) (fun v M' ⟨a, I', b, c⟩ => ⟨a, I', J, b, hI.m (c.sub (by simp)) OnlyJ.rf⟩)⟩
theorem l_M_seen (hI : Inv s R N I J) (hW : Wf s) {yn : Nat} (hyn : yn ≤ 15) (l : Int32) : ∀ (n i : Nat) (acc : Int32), i + n = cP s → acc = nI (mkN (lvB s yn l) (i)) → XP X (d + 1) k_M_seen 11 [.ref (99), .int (nI (yn)), .int (l), .int (acc), .int (nI (i))] [] (I, J, Rx R, N, G) (QP s R N G (.int (nI (gSeen s yn l)))) := by
  have hS := hI.1
  have hp4 := hW.p.2
  intro n
  induction n with
  | zero =>
    rintro i _ hi rfl
    obtain rfl : i = cP s := by omega
    refine XP_n 2 (pc' := 13) (ls' := [.ref (99), .int (nI (yn)), .int (l), .int (nI (mkN (lvB s yn l) (cP s))), .int (nI (cP s))]) (st' := [.ref (99), .int (nI (cP s))]) (M' := (I, J, Rx R, N, G)) rfl ?_
    refine XP_geti hS rfl rfl rfl ?_
    rw [hW.p.1]
    refine XP_icN (x := cP s) (y := cP s) rfl (by omega) (by omega) (fun (b14 : cP s ≤ cP s) => ?_) (fun (b14 : cP s < cP s) => absurd b14 (by omega))
    refine XP_n 1 (pc' := 32) (ls' := [.ref (99), .int (nI (yn)), .int (l), .int (nI (mkN (lvB s yn l) (cP s))), .int (nI (cP s))]) (st' := [.int (nI (mkN (lvB s yn l) (cP s)))]) (M' := (I, J, Rx R, N, G)) rfl ?_
    exact XP_ret rfl ⟨rfl, _, _, rfl, hI⟩
  | succ n ih =>
    rintro i _ hi rfl
    refine XP_n 2 (pc' := 13) (ls' := [.ref (99), .int (nI (yn)), .int (l), .int (nI (mkN (lvB s yn l) (i))), .int (nI (i))]) (st' := [.ref (99), .int (nI (i))]) (M' := (I, J, Rx R, N, G)) rfl ?_
    refine XP_geti hS rfl rfl rfl ?_
    rw [hW.p.1]
    refine XP_icN (x := i) (y := cP s) rfl (by omega) (by omega) (fun (b14 : cP s ≤ i) => absurd b14 (by omega)) (fun (b14 : i < cP s) => ?_)
    refine XP_n 4 (pc' := 19) (ls' := [.ref (99), .int (nI (yn)), .int (l), .int (nI (mkN (lvB s yn l) (i))), .int (nI (i))]) (st' := [.int (nI (yn)), .int (nI (i)), .ref (99), .int (nI (mkN (lvB s yn l) (i)))]) (M' := (I, J, Rx R, N, G)) rfl ?_
    refine XP_pure rfl rfl (m_lv hS hW (show i < cP s by omega) (by omega)) ?_
    have hlv21 := (nLv_ok hW (show i < cP s by omega) (show yn ≤ 15 by omega)).2
    refine XP_n 1 (pc' := 21) (ls' := [.ref (99), .int (nI (yn)), .int (l), .int (nI (mkN (lvB s yn l) (i))), .int (nI (i))]) (st' := [.int (l), .int (nI (nLv s (i) (yn))), .int (nI (mkN (lvB s yn l) (i)))]) (M' := (I, J, Rx R, N, G)) rfl ?_
    refine XP_icD rfl (fun (b21 : ¬ nI (nLv s (i) (yn)) = l) => ?_) (fun (b21 : nI (nLv s (i) (yn)) = l) => ?_)
    · refine XP_n 4 (pc' := 30) (ls' := [.ref (99), .int (nI (yn)), .int (l), .int ((nI (mkN (lvB s yn l) (i))) ||| (nI (0))), .int (nI (i) + nI (1))]) (st' := []) (M' := (I, J, Rx R, N, G)) rfl ?_
      rw [show nI (i) + nI (1) = nI (i + 1) from nI_addE (rfl) rfl]
      refine XP_n 1 (pc' := 11) (ls' := [.ref (99), .int (nI (yn)), .int (l), .int ((nI (mkN (lvB s yn l) (i))) ||| (nI (0))), .int (nI (i + 1))]) (st' := []) (M' := (I, J, Rx R, N, G)) rfl ?_
      exact ih (i + 1) _ (by omega) (by rw [or_0]; simp [mkN, sumN, lvB, b21])
    · refine XP_n 7 (pc' := 30) (ls' := [.ref (99), .int (nI (yn)), .int (l), .int ((nI (mkN (lvB s yn l) (i))) ||| ((nI (1)) <<< ((nI (i)) &&& 31))), .int (nI (i) + nI (1))]) (st' := []) (M' := (I, J, Rx R, N, G)) rfl ?_
      rw [show nI (i) + nI (1) = nI (i + 1) from nI_addE (rfl) rfl]
      refine XP_n 1 (pc' := 11) (ls' := [.ref (99), .int (nI (yn)), .int (l), .int ((nI (mkN (lvB s yn l) (i))) ||| ((nI (1)) <<< ((nI (i)) &&& 31))), .int (nI (i + 1))]) (st' := []) (M' := (I, J, Rx R, N, G)) rfl ?_
      have e : nI (mkN (lvB s yn l) i) ||| (nI 1 <<< (nI i &&& 31)) = nI (mkN (lvB s yn l) (i + 1)) := by
        rw [b_or i (by omega) _ (mkN_lt _ i)]
        simp [mkN, sumN, lvB, b21]
      exact ih (i + 1) _ (by omega) e
theorem f_seen (hI : Inv s R N I J) (y : Int32) (l : Int32) : ∃ v, TP X (d + 12) n_H_seen [.ref 0, .int y, .int l] (I, J, Rx R, N, G) (QP s R N G (.int v)) ∧ ∀ I J, Inv s R N I J → TP X (d + 12) n_M_seen [.ref 99, .int y, .int l] (I, J, Rx R, N, G) (QP s R N G (.int v)) := by
  have hI0 := hI
  obtain ⟨hS, hW, hL, hC, hch⟩ := hI0
  have hy16 := hW.y.2
  have hp4 := hW.p.2
  have hs6 := hW.ns.2
  have hr8 := hW.r.2
  have hst8 := hW.st.2
  have ht3 := hW.t.2
  have hw60 := hW.w.2
  have hcwa := cWA_le hW
  by_cases g0 : iv 0 15 (y)
  rotate_left
  · skip
    refine ⟨cI (-2), ?_, fun I J hI => ?_⟩
    · unfold TP
      show XP X _ k_H_seen 0 [.ref (0), .int (y), .int (l)] [] _ _
      refine XP_n 1 (pc' := 1) (ls' := [.ref (0), .int (y), .int (l)]) (st' := [.int (y)]) (M' := (I, J, Rx R, N, G)) rfl ?_
      refine XP_pure rfl rfl (t_H_isAnyYear X _ _ _) ?_
      refine XP_s rfl ?_
      refine XP_beq (fun b2 => ?_) (fun b2 => absurd b2 g0)
      refine XP_n 1 (pc' := 10) (ls' := [.ref (0), .int (y), .int (l)]) (st' := [.int (cI (-2))]) (M' := (I, J, Rx R, N, G)) rfl ?_
      exact XP_ret rfl ⟨rfl, _, _, rfl, hI⟩
    · unfold TP
      show XP X _ k_M_seen 0 [.ref (99), .int (y), .int (l), xj, xj] [] _ _
      refine XP_n 3 (pc' := 3) (ls' := [.ref (99), .int (y), .int (l), xj, xj]) (st' := [.int (nI (15)), .int (nI (0)), .int (y)]) (M' := (I, J, Rx R, N, G)) rfl ?_
      refine XP_pure rfl rfl (w_M X _ _ 0 15 _) ?_
      refine XP_s rfl ?_
      refine XP_bne (fun b4 => absurd b4 g0) (fun b4 => ?_)
      refine XP_n 1 (pc' := 6) (ls' := [.ref (99), .int (y), .int (l), xj, xj]) (st' := [.int (cI (-2))]) (M' := (I, J, Rx R, N, G)) rfl ?_
      exact XP_ret rfl ⟨rfl, _, _, rfl, hI⟩
  obtain ⟨yn, hyn0, hyn, rfl, ey⟩ := iv_nat g0 (by omega) (by omega)
  refine ⟨nI (gSeen s yn l), ?_, fun I J hI => ?_⟩
  · unfold TP
    show XP X _ k_H_seen 0 [.ref (0), .int (nI (yn)), .int (l)] [] _ _
    refine XP_n 1 (pc' := 1) (ls' := [.ref (0), .int (nI (yn)), .int (l)]) (st' := [.int (nI (yn))]) (M' := (I, J, Rx R, N, G)) rfl ?_
    refine XP_pure rfl rfl (t_H_isAnyYear X _ _ _) ?_
    refine XP_s rfl ?_
    refine XP_beq (fun b2 => absurd g0 b2) (fun b2 => ?_)
    refine XP_n 4 (pc' := 7) (ls' := [.ref (0), .int (nI (yn)), .int (l)]) (st' := [.int (l), .int (nI (yn)), .ref (1)]) (M' := (I, J, Rx R, N, G)) rfl ?_
    refine XP_pure rfl rfl (c_pathsAt hI.1 hW (by omega) _) ?_
    have hgs : gSeen s (yn) (l) < 16 := mkN_lt16 (lvB s (yn) (l)) hp4
    refine XP_n 1 (pc' := 10) (ls' := [.ref (0), .int (nI (yn)), .int (l)]) (st' := [.int (nI (gSeen s (yn) (l)))]) (M' := (I, J, Rx R, N, G)) rfl ?_
    exact XP_ret rfl ⟨rfl, _, _, rfl, hI⟩
  · unfold TP
    show XP X _ k_M_seen 0 [.ref (99), .int (nI (yn)), .int (l), xj, xj] [] _ _
    refine XP_n 3 (pc' := 3) (ls' := [.ref (99), .int (nI (yn)), .int (l), xj, xj]) (st' := [.int (nI (15)), .int (nI (0)), .int (nI (yn))]) (M' := (I, J, Rx R, N, G)) rfl ?_
    refine XP_pure rfl rfl (w_M X _ _ 0 15 _) ?_
    refine XP_s rfl ?_
    refine XP_bne (fun b4 => ?_) (fun b4 => absurd g0 b4)
    refine XP_n 4 (pc' := 11) (ls' := [.ref (99), .int (nI (yn)), .int (l), .int (nI (0)), .int (nI (0))]) (st' := []) (M' := (I, J, Rx R, N, G)) rfl ?_
    exact l_M_seen hI hW hyn l (cP s) 0 _ (by omega) rfl
theorem th_1 {s : Nat → Nat → Int32} (hW : Wf s) {y p : Nat} (hp : p < cP s) (l : Int32) : sumN (wIf s (nI (gSeen s y l) &&& (nI 1 <<< (nI p &&& 31)))) (cP s) = thW s y l p := by
  have h4 := hW.p.2
  have h16 : gSeen s y l < 16 := mkN_lt16 (lvB s y l) h4
  rw [sumN_1 (p := p) (fun i hi hne => by unfold wIf; rw [if_pos ((b_and _ h16 p (by omega) i (by omega)).mpr (fun z => hne z.1))]) hp]
  unfold wIf thW
  have hb : gSeen s y l / 2 ^ p % 2 = _ := mkN_bit (lvB s y l) h4 hp
  by_cases e : nI (nLv s p y) = l
  · rw [if_pos e, if_neg]
    intro z
    refine (b_and _ h16 p (by omega) p (by omega)).mp z ⟨rfl, ?_⟩
    rw [hb]
    simp [lvB, e]
  · rw [if_neg e, if_pos]
    refine (b_and _ h16 p (by omega) p (by omega)).mpr (fun z => ?_)
    have z2 := z.2
    rw [hb] at z2
    simp [lvB, e] at z2
theorem th_2 {s : Nat → Nat → Int32} (hW : Wf s) (y : Nat) (l : Int32) : sumN (wIf s (nI (gSeen s y l))) (cP s) = sumN (thW s y l) (cP s) := by
  have h4 := hW.p.2
  have h16 : gSeen s y l < 16 := mkN_lt16 (lvB s y l) h4
  refine sumN_congr (fun i hi => ?_)
  have hb : gSeen s y l / 2 ^ i % 2 = _ := mkN_bit (lvB s y l) h4 hi
  unfold wIf thW
  by_cases e : nI (nLv s i y) = l
  · rw [if_pos e, if_neg]
    intro z
    have := (b_bit _ h16 i (by omega)).mp z
    rw [hb] at this
    simp [lvB, e] at this
  · rw [if_neg e, if_pos]
    refine (b_bit _ h16 i (by omega)).mpr ?_
    rw [hb]
    simp [lvB, e]
theorem th_le {s : Nat → Nat → Int32} (hW : Wf s) (y : Nat) (l : Int32) {n : Nat} (hn : n ≤ cP s) : sumN (thW s y l) n ≤ 396 := by
  have h4 := hW.p.2
  have h1 := sumN_le (f := thW s y l) (n := n) (c := 99) (fun i hi => by
    have := (hW.pw (show i < cP s by omega)).2.2
    unfold thW
    split <;> omega)
  omega
theorem th_pos {s : Nat → Nat → Int32} (hW : Wf s) {y : Nat} {l : Int32} (h : ¬ gSeen s y l = 0) : 0 < sumN (thW s y l) (cP s) := by
  rcases Nat.eq_zero_or_pos (sumN (thW s y l) (cP s)) with h0 | h0
  · exfalso
    apply h
    refine sumN_0 (fun i hi => ?_)
    have h1 := sumN_ge (f := thW s y l) hi
    have h2 := (hW.pw hi).2.1
    unfold lvB
    by_cases e : nI (nLv s i y) = l
    · have h3 : thW s y l i = rWt s i := by unfold thW; rw [if_pos e]
      omega
    · simp [e]
  · exact h0
theorem th_no {s : Nat → Nat → Int32} {y p : Nat} {l : Int32} (h : gSeen s y l = 0) (hp : p < cP s) : ¬ nI (nLv s p y) = l := fun e => by
  have h1 := sumN_ge (f := fun p => if lvB s y l p = true then 2 ^ p else 0) hp
  have h2 : sumN (fun p => if lvB s y l p = true then 2 ^ p else 0) (cP s) = 0 := h
  rw [h2] at h1
  simp [lvB, e] at h1
theorem gLow_0 (b part : Nat) : gLow (lN 0) b part = lN part := by
  unfold gLow
  rw [if_pos (show lN 0 = 0 from rfl)]
theorem l_M_think {Q : Option Value → hM → Prop} (hI : Inv s R N I J) (hW : Wf s) {pn yn partn : Nat} (hpn : pn < cP s) (hyn : yn ≤ 15) (hpartn : partn ≤ 1) (l : Int32) (kk : XP X (d + 2) k_M_think 42 [.ref 99, .int (nI pn), .int (nI yn), .int l, .int (nI partn), .long (lN (sumN (thW s yn l) (cP s))), xj, .int (nI (cP s))] [] (I, J, Rx R, N, G) Q) : ∀ (n i : Nat) (acc : Int64), i + n = cP s → acc = lN (sumN (thW s yn l) (i)) → XP X (d + 2) k_M_think 20 [.ref (99), .int (nI (pn)), .int (nI (yn)), .int (l), .int (nI (partn)), .long (acc), xj, .int (nI (i))] [] (I, J, Rx R, N, G) Q := by
  have hS := hI.1
  have hp4 := hW.p.2
  intro n
  induction n with
  | zero =>
    rintro i _ hi rfl
    obtain rfl : i = cP s := by omega
    refine XP_n 2 (pc' := 22) (ls' := [.ref (99), .int (nI (pn)), .int (nI (yn)), .int (l), .int (nI (partn)), .long (lN (sumN (thW s yn l) (cP s))), xj, .int (nI (cP s))]) (st' := [.ref (99), .int (nI (cP s))]) (M' := (I, J, Rx R, N, G)) rfl ?_
    refine XP_geti hS rfl rfl rfl ?_
    rw [hW.p.1]
    refine XP_icN (x := cP s) (y := cP s) rfl (by omega) (by omega) (fun (b23 : cP s ≤ cP s) => ?_) (fun (b23 : cP s < cP s) => absurd b23 (by omega))
    exact kk
  | succ n ih =>
    rintro i _ hi rfl
    refine XP_n 2 (pc' := 22) (ls' := [.ref (99), .int (nI (pn)), .int (nI (yn)), .int (l), .int (nI (partn)), .long (lN (sumN (thW s yn l) (i))), xj, .int (nI (i))]) (st' := [.ref (99), .int (nI (i))]) (M' := (I, J, Rx R, N, G)) rfl ?_
    refine XP_geti hS rfl rfl rfl ?_
    rw [hW.p.1]
    refine XP_icN (x := i) (y := cP s) rfl (by omega) (by omega) (fun (b23 : cP s ≤ i) => absurd b23 (by omega)) (fun (b23 : i < cP s) => ?_)
    refine XP_n 4 (pc' := 28) (ls' := [.ref (99), .int (nI (pn)), .int (nI (yn)), .int (l), .int (nI (partn)), .long (lN (sumN (thW s yn l) (i))), xj, .int (nI (i))]) (st' := [.int (nI (yn)), .int (nI (i)), .ref (99), .long (lN (sumN (thW s yn l) (i)))]) (M' := (I, J, Rx R, N, G)) rfl ?_
    refine XP_pure rfl rfl (m_lv hS hW (show i < cP s by omega) (by omega)) ?_
    have hlv22 := (nLv_ok hW (show i < cP s by omega) (show yn ≤ 15 by omega)).2
    refine XP_n 1 (pc' := 30) (ls' := [.ref (99), .int (nI (pn)), .int (nI (yn)), .int (l), .int (nI (partn)), .long (lN (sumN (thW s yn l) (i))), xj, .int (nI (i))]) (st' := [.int (l), .int (nI (nLv s (i) (yn))), .long (lN (sumN (thW s yn l) (i)))]) (M' := (I, J, Rx R, N, G)) rfl ?_
    refine XP_icD rfl (fun (b30 : ¬ nI (nLv s (i) (yn)) = l) => ?_) (fun (b30 : nI (nLv s (i) (yn)) = l) => ?_)
    · refine XP_n 3 (pc' := 40) (ls' := [.ref (99), .int (nI (pn)), .int (nI (yn)), .int (l), .int (nI (partn)), .long ((lN (sumN (thW s yn l) (i))) + (lN (0))), xj, .int (nI (i))]) (st' := []) (M' := (I, J, Rx R, N, G)) rfl ?_
      rw [show (lN (sumN (thW s yn l) (i))) + (lN (0)) = lN (sumN (thW s yn l) (i) + 0) from lN_addE (rfl) (rfl)]
      refine XP_n 1 (pc' := 41) (ls' := [.ref (99), .int (nI (pn)), .int (nI (yn)), .int (l), .int (nI (partn)), .long (lN (sumN (thW s yn l) (i) + 0)), xj, .int (nI (i) + nI (1))]) (st' := []) (M' := (I, J, Rx R, N, G)) rfl ?_
      rw [show nI (i) + nI (1) = nI (i + 1) from nI_addE (rfl) rfl]
      refine XP_n 1 (pc' := 20) (ls' := [.ref (99), .int (nI (pn)), .int (nI (yn)), .int (l), .int (nI (partn)), .long (lN (sumN (thW s yn l) (i) + 0)), xj, .int (nI (i + 1))]) (st' := []) (M' := (I, J, Rx R, N, G)) rfl ?_
      exact ih (i + 1) _ (by omega) (by simp [sumN, thW, b30])
    · refine XP_n 3 (pc' := 34) (ls' := [.ref (99), .int (nI (pn)), .int (nI (yn)), .int (l), .int (nI (partn)), .long (lN (sumN (thW s yn l) (i))), xj, .int (nI (i))]) (st' := [.int (nI (i)), .ref (100), .long (lN (sumN (thW s yn l) (i)))]) (M' := (I, J, Rx R, N, G)) rfl ?_
      refine XP_iald hS rfl rfl (show i < 4 by omega) rfl (by omega) rfl ?_
      obtain ⟨hq23, hr23⟩ := hW.pw (show i < cP s by omega)
      rw [hq23]
      refine XP_n 4 (pc' := 40) (ls' := [.ref (99), .int (nI (pn)), .int (nI (yn)), .int (l), .int (nI (partn)), .long ((lN (sumN (thW s yn l) (i))) + ((nI (rWt s i)).toInt64)), xj, .int (nI (i))]) (st' := []) (M' := (I, J, Rx R, N, G)) rfl ?_
      rw [show (lN (sumN (thW s yn l) (i))) + ((nI (rWt s i)).toInt64) = lN (sumN (thW s yn l) (i) + rWt s i) from lN_addE (rfl) (nI_lE (rfl) (by omega))]
      refine XP_n 1 (pc' := 41) (ls' := [.ref (99), .int (nI (pn)), .int (nI (yn)), .int (l), .int (nI (partn)), .long (lN (sumN (thW s yn l) (i) + rWt s i)), xj, .int (nI (i) + nI (1))]) (st' := []) (M' := (I, J, Rx R, N, G)) rfl ?_
      rw [show nI (i) + nI (1) = nI (i + 1) from nI_addE (rfl) rfl]
      refine XP_n 1 (pc' := 20) (ls' := [.ref (99), .int (nI (pn)), .int (nI (yn)), .int (l), .int (nI (partn)), .long (lN (sumN (thW s yn l) (i) + rWt s i)), xj, .int (nI (i + 1))]) (st' := []) (M' := (I, J, Rx R, N, G)) rfl ?_
      exact ih (i + 1) _ (by omega) (by simp [sumN, thW, b30])
theorem f_think (hI : Inv s R N I J) (p : Int32) (y : Int32) (l : Int32) (part : Int32) : ∃ v, TP X (d + 12) n_H_think [.ref 0, .int p, .int y, .int l, .int part] (I, J, Rx R, N, G) (QP s R N G (.long v)) ∧ ∀ I J, Inv s R N I J → TP X (d + 12) n_M_think [.ref 99, .int p, .int y, .int l, .int part] (I, J, Rx R, N, G) (QP s R N G (.long v)) := by
  have hI0 := hI
  obtain ⟨hS, hW, hL, hC, hch⟩ := hI0
  have hy16 := hW.y.2
  have hp4 := hW.p.2
  have hs6 := hW.ns.2
  have hr8 := hW.r.2
  have hst8 := hW.st.2
  have ht3 := hW.t.2
  have hw60 := hW.w.2
  have hcwa := cWA_le hW
  by_cases g0 : inN (p) (cP s)
  rotate_left
  · skip
    refine ⟨cL (-4611686018427387904), ?_, fun I J hI => ?_⟩
    · unfold TP
      show XP X _ k_H_think 0 [.ref (0), .int (p), .int (y), .int (l), .int (part), xj] [] _ _
      refine XP_n 3 (pc' := 3) (ls' := [.ref (0), .int (p), .int (y), .int (l), .int (part), xj]) (st' := [.int (p), .ref (1)]) (M' := (I, J, Rx R, N, G)) rfl ?_
      refine XP_pure rfl rfl (c_hasPath hI.1 hI.2.1 _) ?_
      refine XP_s rfl ?_
      refine XP_beq (fun b4 => ?_) (fun b4 => absurd b4 g0)
      refine XP_n 1 (pc' := 12) (ls' := [.ref (0), .int (p), .int (y), .int (l), .int (part), xj]) (st' := [.long (cL (-4611686018427387904))]) (M' := (I, J, Rx R, N, G)) rfl ?_
      exact XP_ret rfl ⟨rfl, _, _, rfl, hI⟩
    · unfold TP
      show XP X _ k_M_think 0 [.ref (99), .int (p), .int (y), .int (l), .int (part), xj, xj, xj] [] _ _
      refine XP_n 2 (pc' := 2) (ls' := [.ref (99), .int (p), .int (y), .int (l), .int (part), xj, xj, xj]) (st' := [.int (p), .ref (99)]) (M' := (I, J, Rx R, N, G)) rfl ?_
      refine XP_pure rfl rfl (m_isPath hI.1 hI.2.1 _) ?_
      refine XP_s rfl ?_
      refine XP_beq (fun b3 => ?_) (fun b3 => absurd b3 g0)
      refine XP_n 1 (pc' := 15) (ls' := [.ref (99), .int (p), .int (y), .int (l), .int (part), xj, xj, xj]) (st' := [.long (cL (-4611686018427387904))]) (M' := (I, J, Rx R, N, G)) rfl ?_
      exact XP_ret rfl ⟨rfl, _, _, rfl, hI⟩
  obtain ⟨pn, hpn, rfl, ep⟩ := inN_nat g0 (by omega)
  by_cases g1 : iv 0 15 (y)
  rotate_left
  · skip
    refine ⟨cL (-4611686018427387904), ?_, fun I J hI => ?_⟩
    · unfold TP
      show XP X _ k_H_think 0 [.ref (0), .int (nI (pn)), .int (y), .int (l), .int (part), xj] [] _ _
      refine XP_n 3 (pc' := 3) (ls' := [.ref (0), .int (nI (pn)), .int (y), .int (l), .int (part), xj]) (st' := [.int (nI (pn)), .ref (1)]) (M' := (I, J, Rx R, N, G)) rfl ?_
      refine XP_pure rfl rfl (c_hasPath hI.1 hI.2.1 _) ?_
      refine XP_s rfl ?_
      refine XP_beq (fun b4 => absurd g0 b4) (fun b4 => ?_)
      refine XP_n 1 (pc' := 6) (ls' := [.ref (0), .int (nI (pn)), .int (y), .int (l), .int (part), xj]) (st' := [.int (y)]) (M' := (I, J, Rx R, N, G)) rfl ?_
      refine XP_pure rfl rfl (t_H_isAnyYear X _ _ _) ?_
      refine XP_s rfl ?_
      refine XP_beq (fun b7 => ?_) (fun b7 => absurd b7 g1)
      refine XP_n 1 (pc' := 12) (ls' := [.ref (0), .int (nI (pn)), .int (y), .int (l), .int (part), xj]) (st' := [.long (cL (-4611686018427387904))]) (M' := (I, J, Rx R, N, G)) rfl ?_
      exact XP_ret rfl ⟨rfl, _, _, rfl, hI⟩
    · unfold TP
      show XP X _ k_M_think 0 [.ref (99), .int (nI (pn)), .int (y), .int (l), .int (part), xj, xj, xj] [] _ _
      refine XP_n 2 (pc' := 2) (ls' := [.ref (99), .int (nI (pn)), .int (y), .int (l), .int (part), xj, xj, xj]) (st' := [.int (nI (pn)), .ref (99)]) (M' := (I, J, Rx R, N, G)) rfl ?_
      refine XP_pure rfl rfl (m_isPath hI.1 hI.2.1 _) ?_
      refine XP_s rfl ?_
      refine XP_beq (fun b3 => absurd g0 b3) (fun b3 => ?_)
      refine XP_n 3 (pc' := 7) (ls' := [.ref (99), .int (nI (pn)), .int (y), .int (l), .int (part), xj, xj, xj]) (st' := [.int (nI (15)), .int (nI (0)), .int (y)]) (M' := (I, J, Rx R, N, G)) rfl ?_
      refine XP_pure rfl rfl (w_M X _ _ 0 15 _) ?_
      refine XP_s rfl ?_
      refine XP_beq (fun b8 => ?_) (fun b8 => absurd b8 g1)
      refine XP_n 1 (pc' := 15) (ls' := [.ref (99), .int (nI (pn)), .int (y), .int (l), .int (part), xj, xj, xj]) (st' := [.long (cL (-4611686018427387904))]) (M' := (I, J, Rx R, N, G)) rfl ?_
      exact XP_ret rfl ⟨rfl, _, _, rfl, hI⟩
  obtain ⟨yn, hyn0, hyn, rfl, ey⟩ := iv_nat g1 (by omega) (by omega)
  by_cases g2 : iv 0 1 (part)
  rotate_left
  · skip
    refine ⟨cL (-4611686018427387904), ?_, fun I J hI => ?_⟩
    · unfold TP
      show XP X _ k_H_think 0 [.ref (0), .int (nI (pn)), .int (nI (yn)), .int (l), .int (part), xj] [] _ _
      refine XP_n 3 (pc' := 3) (ls' := [.ref (0), .int (nI (pn)), .int (nI (yn)), .int (l), .int (part), xj]) (st' := [.int (nI (pn)), .ref (1)]) (M' := (I, J, Rx R, N, G)) rfl ?_
      refine XP_pure rfl rfl (c_hasPath hI.1 hI.2.1 _) ?_
      refine XP_s rfl ?_
      refine XP_beq (fun b4 => absurd g0 b4) (fun b4 => ?_)
      refine XP_n 1 (pc' := 6) (ls' := [.ref (0), .int (nI (pn)), .int (nI (yn)), .int (l), .int (part), xj]) (st' := [.int (nI (yn))]) (M' := (I, J, Rx R, N, G)) rfl ?_
      refine XP_pure rfl rfl (t_H_isAnyYear X _ _ _) ?_
      refine XP_s rfl ?_
      refine XP_beq (fun b7 => absurd g1 b7) (fun b7 => ?_)
      refine XP_n 1 (pc' := 9) (ls' := [.ref (0), .int (nI (pn)), .int (nI (yn)), .int (l), .int (part), xj]) (st' := [.int (part)]) (M' := (I, J, Rx R, N, G)) rfl ?_
      refine XP_pure rfl rfl (t_H_isPart X _ _ _) ?_
      refine XP_s rfl ?_
      refine XP_bne (fun b10 => absurd b10 g2) (fun b10 => ?_)
      refine XP_n 1 (pc' := 12) (ls' := [.ref (0), .int (nI (pn)), .int (nI (yn)), .int (l), .int (part), xj]) (st' := [.long (cL (-4611686018427387904))]) (M' := (I, J, Rx R, N, G)) rfl ?_
      exact XP_ret rfl ⟨rfl, _, _, rfl, hI⟩
    · unfold TP
      show XP X _ k_M_think 0 [.ref (99), .int (nI (pn)), .int (nI (yn)), .int (l), .int (part), xj, xj, xj] [] _ _
      refine XP_n 2 (pc' := 2) (ls' := [.ref (99), .int (nI (pn)), .int (nI (yn)), .int (l), .int (part), xj, xj, xj]) (st' := [.int (nI (pn)), .ref (99)]) (M' := (I, J, Rx R, N, G)) rfl ?_
      refine XP_pure rfl rfl (m_isPath hI.1 hI.2.1 _) ?_
      refine XP_s rfl ?_
      refine XP_beq (fun b3 => absurd g0 b3) (fun b3 => ?_)
      refine XP_n 3 (pc' := 7) (ls' := [.ref (99), .int (nI (pn)), .int (nI (yn)), .int (l), .int (part), xj, xj, xj]) (st' := [.int (nI (15)), .int (nI (0)), .int (nI (yn))]) (M' := (I, J, Rx R, N, G)) rfl ?_
      refine XP_pure rfl rfl (w_M X _ _ 0 15 _) ?_
      refine XP_s rfl ?_
      refine XP_beq (fun b8 => absurd g1 b8) (fun b8 => ?_)
      refine XP_n 3 (pc' := 12) (ls' := [.ref (99), .int (nI (pn)), .int (nI (yn)), .int (l), .int (part), xj, xj, xj]) (st' := [.int (nI (1)), .int (nI (0)), .int (part)]) (M' := (I, J, Rx R, N, G)) rfl ?_
      refine XP_pure rfl rfl (w_M X _ _ 0 1 _) ?_
      refine XP_s rfl ?_
      refine XP_bne (fun b13 => absurd b13 g2) (fun b13 => ?_)
      refine XP_n 1 (pc' := 15) (ls' := [.ref (99), .int (nI (pn)), .int (nI (yn)), .int (l), .int (part), xj, xj, xj]) (st' := [.long (cL (-4611686018427387904))]) (M' := (I, J, Rx R, N, G)) rfl ?_
      exact XP_ret rfl ⟨rfl, _, _, rfl, hI⟩
  obtain ⟨partn, hpartn0, hpartn, rfl, epart⟩ := iv_nat g2 (by omega) (by omega)
  have hpos := fun h => th_pos (s := s) hW (y := yn) (l := l) h
  have hle := th_le hW yn l (Nat.le_refl (cP s))
  have hwp := (hW.pw hpn).2
  by_cases hz : gSeen s yn l = 0
  · have hq := th_no hz hpn
    refine ⟨lN partn, ?_, fun I J hI => ?_⟩
    · unfold TP
      show XP X _ k_H_think 0 [.ref (0), .int (nI (pn)), .int (nI (yn)), .int (l), .int (nI (partn)), xj] [] _ _
      refine XP_n 3 (pc' := 3) (ls' := [.ref (0), .int (nI (pn)), .int (nI (yn)), .int (l), .int (nI (partn)), xj]) (st' := [.int (nI (pn)), .ref (1)]) (M' := (I, J, Rx R, N, G)) rfl ?_
      refine XP_pure rfl rfl (c_hasPath hI.1 hI.2.1 _) ?_
      refine XP_s rfl ?_
      refine XP_beq (fun b4 => absurd g0 b4) (fun b4 => ?_)
      refine XP_n 1 (pc' := 6) (ls' := [.ref (0), .int (nI (pn)), .int (nI (yn)), .int (l), .int (nI (partn)), xj]) (st' := [.int (nI (yn))]) (M' := (I, J, Rx R, N, G)) rfl ?_
      refine XP_pure rfl rfl (t_H_isAnyYear X _ _ _) ?_
      refine XP_s rfl ?_
      refine XP_beq (fun b7 => absurd g1 b7) (fun b7 => ?_)
      refine XP_n 1 (pc' := 9) (ls' := [.ref (0), .int (nI (pn)), .int (nI (yn)), .int (l), .int (nI (partn)), xj]) (st' := [.int (nI (partn))]) (M' := (I, J, Rx R, N, G)) rfl ?_
      refine XP_pure rfl rfl (t_H_isPart X _ _ _) ?_
      refine XP_s rfl ?_
      refine XP_bne (fun b10 => ?_) (fun b10 => absurd g2 b10)
      refine XP_n 4 (pc' := 17) (ls' := [.ref (0), .int (nI (pn)), .int (nI (yn)), .int (l), .int (nI (partn)), xj]) (st' := [.int (l), .int (nI (yn)), .ref (1)]) (M' := (I, J, Rx R, N, G)) rfl ?_
      refine XP_pure rfl rfl (c_pathsAt hI.1 hW (by omega) _) ?_
      have hgs : gSeen s (yn) (l) < 16 := mkN_lt16 (lvB s (yn) (l)) hp4
      refine XP_n 2 (pc' := 20) (ls' := [.ref (0), .int (nI (pn)), .int (nI (yn)), .int (l), .int (nI (partn)), .int (nI (gSeen s (yn) (l)))]) (st' := [.int (nI (gSeen s (yn) (l)))]) (M' := (I, J, Rx R, N, G)) rfl ?_
      refine XP_ifN (x := gSeen s (yn) (l))  rfl (by omega) (fun (b20 : ¬ gSeen s (yn) (l) = 0) => absurd b20 (by first | exact hz | exact fun z => z hz | omega)) (fun (b20 : gSeen s (yn) (l) = 0) => ?_)
      refine XP_n 3 (pc' := 24) (ls' := [.ref (0), .int (nI (pn)), .int (nI (yn)), .int (l), .int (nI (partn)), .int (nI (gSeen s (yn) (l)))]) (st' := [.int (nI (partn)), .long (lN (1)), .long (lN (0))]) (M' := (I, J, Rx R, N, G)) rfl ?_
      refine XP_pure rfl rfl (h_low (by omega) (by omega) (by omega) (l_min (by omega))) ?_
      exact XP_ret rfl ⟨by rw [gLow_0], _, _, rfl, hI⟩
    · unfold TP
      show XP X _ k_M_think 0 [.ref (99), .int (nI (pn)), .int (nI (yn)), .int (l), .int (nI (partn)), xj, xj, xj] [] _ _
      refine XP_n 2 (pc' := 2) (ls' := [.ref (99), .int (nI (pn)), .int (nI (yn)), .int (l), .int (nI (partn)), xj, xj, xj]) (st' := [.int (nI (pn)), .ref (99)]) (M' := (I, J, Rx R, N, G)) rfl ?_
      refine XP_pure rfl rfl (m_isPath hI.1 hI.2.1 _) ?_
      refine XP_s rfl ?_
      refine XP_beq (fun b3 => absurd g0 b3) (fun b3 => ?_)
      refine XP_n 3 (pc' := 7) (ls' := [.ref (99), .int (nI (pn)), .int (nI (yn)), .int (l), .int (nI (partn)), xj, xj, xj]) (st' := [.int (nI (15)), .int (nI (0)), .int (nI (yn))]) (M' := (I, J, Rx R, N, G)) rfl ?_
      refine XP_pure rfl rfl (w_M X _ _ 0 15 _) ?_
      refine XP_s rfl ?_
      refine XP_beq (fun b8 => absurd g1 b8) (fun b8 => ?_)
      refine XP_n 3 (pc' := 12) (ls' := [.ref (99), .int (nI (pn)), .int (nI (yn)), .int (l), .int (nI (partn)), xj, xj, xj]) (st' := [.int (nI (1)), .int (nI (0)), .int (nI (partn))]) (M' := (I, J, Rx R, N, G)) rfl ?_
      refine XP_pure rfl rfl (w_M X _ _ 0 1 _) ?_
      refine XP_s rfl ?_
      refine XP_bne (fun b13 => ?_) (fun b13 => absurd g2 b13)
      refine XP_n 4 (pc' := 20) (ls' := [.ref (99), .int (nI (pn)), .int (nI (yn)), .int (l), .int (nI (partn)), .long (lN (0)), xj, .int (nI (0))]) (st' := []) (M' := (I, J, Rx R, N, G)) rfl ?_
      refine l_M_think hI hW hpn hyn hpartn l ?_ (cP s) 0 _ (by omega) rfl
      refine XP_n 3 (pc' := 45) (ls' := [.ref (99), .int (nI (pn)), .int (nI (yn)), .int (l), .int (nI (partn)), .long (lN (sumN (thW s yn l) (cP s))), xj, .int (nI (cP s))]) (st' := [.int (nI (yn)), .int (nI (pn)), .ref (99)]) (M' := (I, J, Rx R, N, G)) rfl ?_
      refine XP_pure rfl rfl (m_lv hI.1 hW (show pn < cP s by omega) (by omega)) ?_
      have hlv24 := (nLv_ok hW (show pn < cP s by omega) (show yn ≤ 15 by omega)).2
      refine XP_n 1 (pc' := 47) (ls' := [.ref (99), .int (nI (pn)), .int (nI (yn)), .int (l), .int (nI (partn)), .long (lN (sumN (thW s yn l) (cP s))), xj, .int (nI (cP s))]) (st' := [.int (l), .int (nI (nLv s (pn) (yn)))]) (M' := (I, J, Rx R, N, G)) rfl ?_
      refine XP_icD rfl (fun (b47 : ¬ nI (nLv s (pn) (yn)) = l) => ?_) (fun (b47 : nI (nLv s (pn) (yn)) = l) => absurd b47 (by first | exact hq | exact fun z => z hq | omega))
      refine XP_n 3 (pc' := 57) (ls' := [.ref (99), .int (nI (pn)), .int (nI (yn)), .int (l), .int (nI (partn)), .long (lN (sumN (thW s yn l) (cP s))), xj, .int (nI (cP s))]) (st' := [.int (nI (partn)), .long (lN (sumN (thW s yn l) (cP s))), .long (lN (0))]) (M' := (I, J, Rx R, N, G)) rfl ?_
      refine XP_pure rfl rfl (m_low (by omega) (by first | (intro _; omega) | exact fun h => absurd rfl h) (by omega) (l_min (by omega))) ?_
      exact XP_ret rfl ⟨by rw [gLow_0], _, _, rfl, hI⟩
  · have hpos := hpos hz
    by_cases hq : nI (nLv s pn yn) = l
    · have ht : thW s yn l pn = rWt s pn := by unfold thW; rw [if_pos hq]
      refine ⟨gLow (lN (thW s yn l pn)) (sumN (thW s yn l) (cP s)) partn, ?_, fun I J hI => ?_⟩
      · unfold TP
        show XP X _ k_H_think 0 [.ref (0), .int (nI (pn)), .int (nI (yn)), .int (l), .int (nI (partn)), xj] [] _ _
        refine XP_n 3 (pc' := 3) (ls' := [.ref (0), .int (nI (pn)), .int (nI (yn)), .int (l), .int (nI (partn)), xj]) (st' := [.int (nI (pn)), .ref (1)]) (M' := (I, J, Rx R, N, G)) rfl ?_
        refine XP_pure rfl rfl (c_hasPath hI.1 hI.2.1 _) ?_
        refine XP_s rfl ?_
        refine XP_beq (fun b4 => absurd g0 b4) (fun b4 => ?_)
        refine XP_n 1 (pc' := 6) (ls' := [.ref (0), .int (nI (pn)), .int (nI (yn)), .int (l), .int (nI (partn)), xj]) (st' := [.int (nI (yn))]) (M' := (I, J, Rx R, N, G)) rfl ?_
        refine XP_pure rfl rfl (t_H_isAnyYear X _ _ _) ?_
        refine XP_s rfl ?_
        refine XP_beq (fun b7 => absurd g1 b7) (fun b7 => ?_)
        refine XP_n 1 (pc' := 9) (ls' := [.ref (0), .int (nI (pn)), .int (nI (yn)), .int (l), .int (nI (partn)), xj]) (st' := [.int (nI (partn))]) (M' := (I, J, Rx R, N, G)) rfl ?_
        refine XP_pure rfl rfl (t_H_isPart X _ _ _) ?_
        refine XP_s rfl ?_
        refine XP_bne (fun b10 => ?_) (fun b10 => absurd g2 b10)
        refine XP_n 4 (pc' := 17) (ls' := [.ref (0), .int (nI (pn)), .int (nI (yn)), .int (l), .int (nI (partn)), xj]) (st' := [.int (l), .int (nI (yn)), .ref (1)]) (M' := (I, J, Rx R, N, G)) rfl ?_
        refine XP_pure rfl rfl (c_pathsAt hI.1 hW (by omega) _) ?_
        have hgs : gSeen s (yn) (l) < 16 := mkN_lt16 (lvB s (yn) (l)) hp4
        refine XP_n 2 (pc' := 20) (ls' := [.ref (0), .int (nI (pn)), .int (nI (yn)), .int (l), .int (nI (partn)), .int (nI (gSeen s (yn) (l)))]) (st' := [.int (nI (gSeen s (yn) (l)))]) (M' := (I, J, Rx R, N, G)) rfl ?_
        refine XP_ifN (x := gSeen s (yn) (l))  rfl (by omega) (fun (b20 : ¬ gSeen s (yn) (l) = 0) => ?_) (fun (b20 : gSeen s (yn) (l) = 0) => absurd b20 (by omega))
        refine XP_n 7 (pc' := 33) (ls' := [.ref (0), .int (nI (pn)), .int (nI (yn)), .int (l), .int (nI (partn)), .int (nI (gSeen s (yn) (l)))]) (st' := [.int ((nI (gSeen s (yn) (l))) &&& ((nI (1)) <<< ((nI (pn)) &&& 31))), .ref (1)]) (M' := (I, J, Rx R, N, G)) rfl ?_
        refine XP_pure rfl rfl (c_wOf hI.1 hW _) ?_
        rw [th_1 hW hpn l]
        refine XP_n 4 (pc' := 38) (ls' := [.ref (0), .int (nI (pn)), .int (nI (yn)), .int (l), .int (nI (partn)), .int (nI (gSeen s (yn) (l)))]) (st' := [.int (nI (gSeen s (yn) (l))), .ref (1), .long ((nI (thW s yn l pn)).toInt64)]) (M' := (I, J, Rx R, N, G)) rfl ?_
        rw [show (nI (thW s yn l pn)).toInt64 = lN (thW s yn l pn) from nI_lE (rfl) (by omega)]
        refine XP_pure rfl rfl (c_wOf hI.1 hW _) ?_
        rw [th_2 hW yn l]
        refine XP_n 2 (pc' := 41) (ls' := [.ref (0), .int (nI (pn)), .int (nI (yn)), .int (l), .int (nI (partn)), .int (nI (gSeen s (yn) (l)))]) (st' := [.int (nI (partn)), .long ((nI (sumN (thW s yn l) (cP s))).toInt64), .long (lN (thW s yn l pn))]) (M' := (I, J, Rx R, N, G)) rfl ?_
        rw [show (nI (sumN (thW s yn l) (cP s))).toInt64 = lN (sumN (thW s yn l) (cP s)) from nI_lE (rfl) (by omega)]
        refine XP_pure rfl rfl (h_low (by omega) (by omega) (by omega) (l_min (by omega))) ?_
        exact XP_ret rfl ⟨rfl, _, _, rfl, hI⟩
      · unfold TP
        show XP X _ k_M_think 0 [.ref (99), .int (nI (pn)), .int (nI (yn)), .int (l), .int (nI (partn)), xj, xj, xj] [] _ _
        refine XP_n 2 (pc' := 2) (ls' := [.ref (99), .int (nI (pn)), .int (nI (yn)), .int (l), .int (nI (partn)), xj, xj, xj]) (st' := [.int (nI (pn)), .ref (99)]) (M' := (I, J, Rx R, N, G)) rfl ?_
        refine XP_pure rfl rfl (m_isPath hI.1 hI.2.1 _) ?_
        refine XP_s rfl ?_
        refine XP_beq (fun b3 => absurd g0 b3) (fun b3 => ?_)
        refine XP_n 3 (pc' := 7) (ls' := [.ref (99), .int (nI (pn)), .int (nI (yn)), .int (l), .int (nI (partn)), xj, xj, xj]) (st' := [.int (nI (15)), .int (nI (0)), .int (nI (yn))]) (M' := (I, J, Rx R, N, G)) rfl ?_
        refine XP_pure rfl rfl (w_M X _ _ 0 15 _) ?_
        refine XP_s rfl ?_
        refine XP_beq (fun b8 => absurd g1 b8) (fun b8 => ?_)
        refine XP_n 3 (pc' := 12) (ls' := [.ref (99), .int (nI (pn)), .int (nI (yn)), .int (l), .int (nI (partn)), xj, xj, xj]) (st' := [.int (nI (1)), .int (nI (0)), .int (nI (partn))]) (M' := (I, J, Rx R, N, G)) rfl ?_
        refine XP_pure rfl rfl (w_M X _ _ 0 1 _) ?_
        refine XP_s rfl ?_
        refine XP_bne (fun b13 => ?_) (fun b13 => absurd g2 b13)
        refine XP_n 4 (pc' := 20) (ls' := [.ref (99), .int (nI (pn)), .int (nI (yn)), .int (l), .int (nI (partn)), .long (lN (0)), xj, .int (nI (0))]) (st' := []) (M' := (I, J, Rx R, N, G)) rfl ?_
        refine l_M_think hI hW hpn hyn hpartn l ?_ (cP s) 0 _ (by omega) rfl
        refine XP_n 3 (pc' := 45) (ls' := [.ref (99), .int (nI (pn)), .int (nI (yn)), .int (l), .int (nI (partn)), .long (lN (sumN (thW s yn l) (cP s))), xj, .int (nI (cP s))]) (st' := [.int (nI (yn)), .int (nI (pn)), .ref (99)]) (M' := (I, J, Rx R, N, G)) rfl ?_
        refine XP_pure rfl rfl (m_lv hI.1 hW (show pn < cP s by omega) (by omega)) ?_
        have hlv25 := (nLv_ok hW (show pn < cP s by omega) (show yn ≤ 15 by omega)).2
        refine XP_n 1 (pc' := 47) (ls' := [.ref (99), .int (nI (pn)), .int (nI (yn)), .int (l), .int (nI (partn)), .long (lN (sumN (thW s yn l) (cP s))), xj, .int (nI (cP s))]) (st' := [.int (l), .int (nI (nLv s (pn) (yn)))]) (M' := (I, J, Rx R, N, G)) rfl ?_
        refine XP_icD rfl (fun (b47 : ¬ nI (nLv s (pn) (yn)) = l) => absurd b47 (by first | exact hq | exact fun z => z hq | omega)) (fun (b47 : nI (nLv s (pn) (yn)) = l) => ?_)
        refine XP_n 3 (pc' := 51) (ls' := [.ref (99), .int (nI (pn)), .int (nI (yn)), .int (l), .int (nI (partn)), .long (lN (sumN (thW s yn l) (cP s))), xj, .int (nI (cP s))]) (st' := [.int (nI (pn)), .ref (100)]) (M' := (I, J, Rx R, N, G)) rfl ?_
        refine XP_iald hI.1 rfl rfl (show pn < 4 by omega) rfl (by omega) rfl ?_
        obtain ⟨hq26, hr26⟩ := hW.pw (show pn < cP s by omega)
        rw [hq26]
        refine XP_n 4 (pc' := 57) (ls' := [.ref (99), .int (nI (pn)), .int (nI (yn)), .int (l), .int (nI (partn)), .long (lN (sumN (thW s yn l) (cP s))), xj, .int (nI (cP s))]) (st' := [.int (nI (partn)), .long (lN (sumN (thW s yn l) (cP s))), .long ((nI (rWt s pn)).toInt64)]) (M' := (I, J, Rx R, N, G)) rfl ?_
        rw [show (nI (rWt s pn)).toInt64 = lN (rWt s pn) from nI_lE (rfl) (by omega)]
        refine XP_pure rfl rfl (m_low (by omega) (by first | (intro _; omega) | exact fun h => absurd rfl h) (by omega) (l_min (by omega))) ?_
        exact XP_ret rfl ⟨by rw [ht], _, _, rfl, hI⟩
    · have ht : thW s yn l pn = 0 := by unfold thW; rw [if_neg hq]
      refine ⟨gLow (lN (thW s yn l pn)) (sumN (thW s yn l) (cP s)) partn, ?_, fun I J hI => ?_⟩
      · unfold TP
        show XP X _ k_H_think 0 [.ref (0), .int (nI (pn)), .int (nI (yn)), .int (l), .int (nI (partn)), xj] [] _ _
        refine XP_n 3 (pc' := 3) (ls' := [.ref (0), .int (nI (pn)), .int (nI (yn)), .int (l), .int (nI (partn)), xj]) (st' := [.int (nI (pn)), .ref (1)]) (M' := (I, J, Rx R, N, G)) rfl ?_
        refine XP_pure rfl rfl (c_hasPath hI.1 hI.2.1 _) ?_
        refine XP_s rfl ?_
        refine XP_beq (fun b4 => absurd g0 b4) (fun b4 => ?_)
        refine XP_n 1 (pc' := 6) (ls' := [.ref (0), .int (nI (pn)), .int (nI (yn)), .int (l), .int (nI (partn)), xj]) (st' := [.int (nI (yn))]) (M' := (I, J, Rx R, N, G)) rfl ?_
        refine XP_pure rfl rfl (t_H_isAnyYear X _ _ _) ?_
        refine XP_s rfl ?_
        refine XP_beq (fun b7 => absurd g1 b7) (fun b7 => ?_)
        refine XP_n 1 (pc' := 9) (ls' := [.ref (0), .int (nI (pn)), .int (nI (yn)), .int (l), .int (nI (partn)), xj]) (st' := [.int (nI (partn))]) (M' := (I, J, Rx R, N, G)) rfl ?_
        refine XP_pure rfl rfl (t_H_isPart X _ _ _) ?_
        refine XP_s rfl ?_
        refine XP_bne (fun b10 => ?_) (fun b10 => absurd g2 b10)
        refine XP_n 4 (pc' := 17) (ls' := [.ref (0), .int (nI (pn)), .int (nI (yn)), .int (l), .int (nI (partn)), xj]) (st' := [.int (l), .int (nI (yn)), .ref (1)]) (M' := (I, J, Rx R, N, G)) rfl ?_
        refine XP_pure rfl rfl (c_pathsAt hI.1 hW (by omega) _) ?_
        have hgs : gSeen s (yn) (l) < 16 := mkN_lt16 (lvB s (yn) (l)) hp4
        refine XP_n 2 (pc' := 20) (ls' := [.ref (0), .int (nI (pn)), .int (nI (yn)), .int (l), .int (nI (partn)), .int (nI (gSeen s (yn) (l)))]) (st' := [.int (nI (gSeen s (yn) (l)))]) (M' := (I, J, Rx R, N, G)) rfl ?_
        refine XP_ifN (x := gSeen s (yn) (l))  rfl (by omega) (fun (b20 : ¬ gSeen s (yn) (l) = 0) => ?_) (fun (b20 : gSeen s (yn) (l) = 0) => absurd b20 (by omega))
        refine XP_n 7 (pc' := 33) (ls' := [.ref (0), .int (nI (pn)), .int (nI (yn)), .int (l), .int (nI (partn)), .int (nI (gSeen s (yn) (l)))]) (st' := [.int ((nI (gSeen s (yn) (l))) &&& ((nI (1)) <<< ((nI (pn)) &&& 31))), .ref (1)]) (M' := (I, J, Rx R, N, G)) rfl ?_
        refine XP_pure rfl rfl (c_wOf hI.1 hW _) ?_
        rw [th_1 hW hpn l]
        refine XP_n 4 (pc' := 38) (ls' := [.ref (0), .int (nI (pn)), .int (nI (yn)), .int (l), .int (nI (partn)), .int (nI (gSeen s (yn) (l)))]) (st' := [.int (nI (gSeen s (yn) (l))), .ref (1), .long ((nI (thW s yn l pn)).toInt64)]) (M' := (I, J, Rx R, N, G)) rfl ?_
        rw [show (nI (thW s yn l pn)).toInt64 = lN (thW s yn l pn) from nI_lE (rfl) (by omega)]
        refine XP_pure rfl rfl (c_wOf hI.1 hW _) ?_
        rw [th_2 hW yn l]
        refine XP_n 2 (pc' := 41) (ls' := [.ref (0), .int (nI (pn)), .int (nI (yn)), .int (l), .int (nI (partn)), .int (nI (gSeen s (yn) (l)))]) (st' := [.int (nI (partn)), .long ((nI (sumN (thW s yn l) (cP s))).toInt64), .long (lN (thW s yn l pn))]) (M' := (I, J, Rx R, N, G)) rfl ?_
        rw [show (nI (sumN (thW s yn l) (cP s))).toInt64 = lN (sumN (thW s yn l) (cP s)) from nI_lE (rfl) (by omega)]
        refine XP_pure rfl rfl (h_low (by omega) (by omega) (by omega) (l_min (by omega))) ?_
        exact XP_ret rfl ⟨rfl, _, _, rfl, hI⟩
      · unfold TP
        show XP X _ k_M_think 0 [.ref (99), .int (nI (pn)), .int (nI (yn)), .int (l), .int (nI (partn)), xj, xj, xj] [] _ _
        refine XP_n 2 (pc' := 2) (ls' := [.ref (99), .int (nI (pn)), .int (nI (yn)), .int (l), .int (nI (partn)), xj, xj, xj]) (st' := [.int (nI (pn)), .ref (99)]) (M' := (I, J, Rx R, N, G)) rfl ?_
        refine XP_pure rfl rfl (m_isPath hI.1 hI.2.1 _) ?_
        refine XP_s rfl ?_
        refine XP_beq (fun b3 => absurd g0 b3) (fun b3 => ?_)
        refine XP_n 3 (pc' := 7) (ls' := [.ref (99), .int (nI (pn)), .int (nI (yn)), .int (l), .int (nI (partn)), xj, xj, xj]) (st' := [.int (nI (15)), .int (nI (0)), .int (nI (yn))]) (M' := (I, J, Rx R, N, G)) rfl ?_
        refine XP_pure rfl rfl (w_M X _ _ 0 15 _) ?_
        refine XP_s rfl ?_
        refine XP_beq (fun b8 => absurd g1 b8) (fun b8 => ?_)
        refine XP_n 3 (pc' := 12) (ls' := [.ref (99), .int (nI (pn)), .int (nI (yn)), .int (l), .int (nI (partn)), xj, xj, xj]) (st' := [.int (nI (1)), .int (nI (0)), .int (nI (partn))]) (M' := (I, J, Rx R, N, G)) rfl ?_
        refine XP_pure rfl rfl (w_M X _ _ 0 1 _) ?_
        refine XP_s rfl ?_
        refine XP_bne (fun b13 => ?_) (fun b13 => absurd g2 b13)
        refine XP_n 4 (pc' := 20) (ls' := [.ref (99), .int (nI (pn)), .int (nI (yn)), .int (l), .int (nI (partn)), .long (lN (0)), xj, .int (nI (0))]) (st' := []) (M' := (I, J, Rx R, N, G)) rfl ?_
        refine l_M_think hI hW hpn hyn hpartn l ?_ (cP s) 0 _ (by omega) rfl
        refine XP_n 3 (pc' := 45) (ls' := [.ref (99), .int (nI (pn)), .int (nI (yn)), .int (l), .int (nI (partn)), .long (lN (sumN (thW s yn l) (cP s))), xj, .int (nI (cP s))]) (st' := [.int (nI (yn)), .int (nI (pn)), .ref (99)]) (M' := (I, J, Rx R, N, G)) rfl ?_
        refine XP_pure rfl rfl (m_lv hI.1 hW (show pn < cP s by omega) (by omega)) ?_
        have hlv27 := (nLv_ok hW (show pn < cP s by omega) (show yn ≤ 15 by omega)).2
        refine XP_n 1 (pc' := 47) (ls' := [.ref (99), .int (nI (pn)), .int (nI (yn)), .int (l), .int (nI (partn)), .long (lN (sumN (thW s yn l) (cP s))), xj, .int (nI (cP s))]) (st' := [.int (l), .int (nI (nLv s (pn) (yn)))]) (M' := (I, J, Rx R, N, G)) rfl ?_
        refine XP_icD rfl (fun (b47 : ¬ nI (nLv s (pn) (yn)) = l) => ?_) (fun (b47 : nI (nLv s (pn) (yn)) = l) => absurd b47 (by first | exact hq | exact fun z => z hq | omega))
        refine XP_n 3 (pc' := 57) (ls' := [.ref (99), .int (nI (pn)), .int (nI (yn)), .int (l), .int (nI (partn)), .long (lN (sumN (thW s yn l) (cP s))), xj, .int (nI (cP s))]) (st' := [.int (nI (partn)), .long (lN (sumN (thW s yn l) (cP s))), .long (lN (0))]) (M' := (I, J, Rx R, N, G)) rfl ?_
        refine XP_pure rfl rfl (m_low (by omega) (by first | (intro _; omega) | exact fun h => absurd rfl h) (by omega) (l_min (by omega))) ?_
        exact XP_ret rfl ⟨by rw [ht], _, _, rfl, hI⟩
end
