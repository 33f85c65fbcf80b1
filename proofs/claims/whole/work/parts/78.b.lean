/-! face: taken -/
def unN (a k : Nat) : Nat := if k = 0 ∨ a = k ∨ (k = 2 ∧ (a = 3 ∨ a = 5)) ∨ (k = 3 ∧ a = 5) then 1 else 0
theorem inN_lt {j n : Nat} (h : inN (nI j) n) (hj : j < 2147483648) (hn : n < 2147483648) : j < n := by
  obtain ⟨i, hi, e, -⟩ := inN_nat h hn
  have := congrArg wN e
  rw [wN_nI (by omega), wN_nI (by omega)] at this
  omega
section
variable {X : hX} {d : Nat} {s I : Nat → Nat → Int32} {J : Nat → Nat → Int64} {R : Nat → Nat → Option Nat} {N : Nat → Nat} {G : hG}
theorem c_isOne (hS : St s I) (hW : Wf s) {r k : Nat} (hr : r < cR s) (hk : k ≤ 6) : TP X d n_Rule_isOne [.ref (1000 + 2 * r), .int (nI k)] (I, J, Rx R, N, G) (Ret (.int (nI (unN (rKd s r) k))) (I, J, Rx R, N, G)) := by
  have hr8 := hW.r.2
  have hkd := (hW.rk hr).2
  rcases (show k = 0 ∨ k = 1 ∨ k = 2 ∨ k = 3 ∨ k = 4 ∨ k = 5 ∨ k = 6 by omega) with rfl | rfl | rfl | rfl | rfl | rfl | rfl
  · unfold TP
    show XP X _ k_Rule_isOne 0 [.ref (1000 + 2 * r), .int (nI (0))] [] _ _
    refine XP_n 1 (pc' := 1) (ls' := [.ref (1000 + 2 * r), .int (nI (0))]) (st' := [.int (nI (0))]) (M' := (I, J, Rx R, N, G)) rfl ?_
    refine XP_tab 0 0 3 2 rfl (by omega) rfl rfl (by omega) (by omega) rfl ?_
    refine XP_n 1 (pc' := 3) (ls' := [.ref (1000 + 2 * r), .int (nI (0))]) (st' := [.int (nI (1))]) (M' := (I, J, Rx R, N, G)) rfl ?_
    exact XP_ret rfl ⟨by unfold unN; rw [if_pos (by omega)], rfl⟩
  · unfold TP
    show XP X _ k_Rule_isOne 0 [.ref (1000 + 2 * r), .int (nI (1))] [] _ _
    refine XP_n 1 (pc' := 1) (ls' := [.ref (1000 + 2 * r), .int (nI (1))]) (st' := [.int (nI (1))]) (M' := (I, J, Rx R, N, G)) rfl ?_
    refine XP_tab 1 0 3 32 rfl (by omega) rfl rfl (by omega) (by omega) rfl ?_
    refine XP_n 1 (pc' := 33) (ls' := [.ref (1000 + 2 * r), .int (nI (1))]) (st' := [.ref (1000 + 2 * r)]) (M' := (I, J, Rx R, N, G)) rfl ?_
    refine XP_getw rfl (by rw [rul_o (show r < 1000 by omega)]; rfl) ?_
    show XP X _ k_Rule_isOne 34 [.ref (1000 + 2 * r), .int (nI (1))] [.int (I (1000 + 2 * r) 0)] _ _
    rw [show I (1000 + 2 * r) 0 = s 107 r from hS _ _ _ _ (rul_m (show r < 1000 by omega)).1]
    rw [(hW.rk hr).1]
    refine XP_n 1 (pc' := 35) (ls' := [.ref (1000 + 2 * r), .int (nI (1))]) (st' := [.int (nI (1)), .int (nI (rKd s r))]) (M' := (I, J, Rx R, N, G)) rfl ?_
    refine XP_icN (x := rKd s r) (y := 1) rfl (by omega) (by omega) (fun (b35 : ¬ rKd s r = 1) => ?_) (fun (b35 : rKd s r = 1) => ?_)
    · refine XP_n 1 (pc' := 39) (ls' := [.ref (1000 + 2 * r), .int (nI (1))]) (st' := [.int (nI (0))]) (M' := (I, J, Rx R, N, G)) rfl ?_
      exact XP_ret rfl ⟨by unfold unN; rw [if_neg (by omega)], rfl⟩
    · refine XP_n 2 (pc' := 39) (ls' := [.ref (1000 + 2 * r), .int (nI (1))]) (st' := [.int (nI (1))]) (M' := (I, J, Rx R, N, G)) rfl ?_
      exact XP_ret rfl ⟨by unfold unN; rw [if_pos (by omega)], rfl⟩
  · unfold TP
    show XP X _ k_Rule_isOne 0 [.ref (1000 + 2 * r), .int (nI (2))] [] _ _
    refine XP_n 1 (pc' := 1) (ls' := [.ref (1000 + 2 * r), .int (nI (2))]) (st' := [.int (nI (2))]) (M' := (I, J, Rx R, N, G)) rfl ?_
    refine XP_tab 2 0 3 4 rfl (by omega) rfl rfl (by omega) (by omega) rfl ?_
    refine XP_n 1 (pc' := 5) (ls' := [.ref (1000 + 2 * r), .int (nI (2))]) (st' := [.ref (1000 + 2 * r)]) (M' := (I, J, Rx R, N, G)) rfl ?_
    refine XP_getw rfl (by rw [rul_o (show r < 1000 by omega)]; rfl) ?_
    show XP X _ k_Rule_isOne 6 [.ref (1000 + 2 * r), .int (nI (2))] [.int (I (1000 + 2 * r) 0)] _ _
    rw [show I (1000 + 2 * r) 0 = s 107 r from hS _ _ _ _ (rul_m (show r < 1000 by omega)).1]
    rw [(hW.rk hr).1]
    refine XP_n 1 (pc' := 7) (ls' := [.ref (1000 + 2 * r), .int (nI (2))]) (st' := [.int (nI (2)), .int (nI (rKd s r))]) (M' := (I, J, Rx R, N, G)) rfl ?_
    refine XP_icN (x := rKd s r) (y := 2) rfl (by omega) (by omega) (fun (b7 : rKd s r = 2) => ?_) (fun (b7 : ¬ rKd s r = 2) => ?_)
    · refine XP_n 2 (pc' := 19) (ls' := [.ref (1000 + 2 * r), .int (nI (2))]) (st' := [.int (nI (1))]) (M' := (I, J, Rx R, N, G)) rfl ?_
      exact XP_ret rfl ⟨by unfold unN; rw [if_pos (by omega)], rfl⟩
    · refine XP_n 1 (pc' := 9) (ls' := [.ref (1000 + 2 * r), .int (nI (2))]) (st' := [.ref (1000 + 2 * r)]) (M' := (I, J, Rx R, N, G)) rfl ?_
      refine XP_getw rfl (by rw [rul_o (show r < 1000 by omega)]; rfl) ?_
      show XP X _ k_Rule_isOne 10 [.ref (1000 + 2 * r), .int (nI (2))] [.int (I (1000 + 2 * r) 0)] _ _
      rw [show I (1000 + 2 * r) 0 = s 107 r from hS _ _ _ _ (rul_m (show r < 1000 by omega)).1]
      rw [(hW.rk hr).1]
      refine XP_n 1 (pc' := 11) (ls' := [.ref (1000 + 2 * r), .int (nI (2))]) (st' := [.int (nI (3)), .int (nI (rKd s r))]) (M' := (I, J, Rx R, N, G)) rfl ?_
      refine XP_icN (x := rKd s r) (y := 3) rfl (by omega) (by omega) (fun (b11 : rKd s r = 3) => ?_) (fun (b11 : ¬ rKd s r = 3) => ?_)
      · refine XP_n 2 (pc' := 19) (ls' := [.ref (1000 + 2 * r), .int (nI (2))]) (st' := [.int (nI (1))]) (M' := (I, J, Rx R, N, G)) rfl ?_
        exact XP_ret rfl ⟨by unfold unN; rw [if_pos (by omega)], rfl⟩
      · refine XP_n 1 (pc' := 13) (ls' := [.ref (1000 + 2 * r), .int (nI (2))]) (st' := [.ref (1000 + 2 * r)]) (M' := (I, J, Rx R, N, G)) rfl ?_
        refine XP_getw rfl (by rw [rul_o (show r < 1000 by omega)]; rfl) ?_
        show XP X _ k_Rule_isOne 14 [.ref (1000 + 2 * r), .int (nI (2))] [.int (I (1000 + 2 * r) 0)] _ _
        rw [show I (1000 + 2 * r) 0 = s 107 r from hS _ _ _ _ (rul_m (show r < 1000 by omega)).1]
        rw [(hW.rk hr).1]
        refine XP_n 1 (pc' := 15) (ls' := [.ref (1000 + 2 * r), .int (nI (2))]) (st' := [.int (nI (5)), .int (nI (rKd s r))]) (M' := (I, J, Rx R, N, G)) rfl ?_
        refine XP_icN (x := rKd s r) (y := 5) rfl (by omega) (by omega) (fun (b15 : ¬ rKd s r = 5) => ?_) (fun (b15 : rKd s r = 5) => ?_)
        · refine XP_n 1 (pc' := 19) (ls' := [.ref (1000 + 2 * r), .int (nI (2))]) (st' := [.int (nI (0))]) (M' := (I, J, Rx R, N, G)) rfl ?_
          exact XP_ret rfl ⟨by unfold unN; rw [if_neg (by omega)], rfl⟩
        · refine XP_n 2 (pc' := 19) (ls' := [.ref (1000 + 2 * r), .int (nI (2))]) (st' := [.int (nI (1))]) (M' := (I, J, Rx R, N, G)) rfl ?_
          exact XP_ret rfl ⟨by unfold unN; rw [if_pos (by omega)], rfl⟩
  · unfold TP
    show XP X _ k_Rule_isOne 0 [.ref (1000 + 2 * r), .int (nI (3))] [] _ _
    refine XP_n 1 (pc' := 1) (ls' := [.ref (1000 + 2 * r), .int (nI (3))]) (st' := [.int (nI (3))]) (M' := (I, J, Rx R, N, G)) rfl ?_
    refine XP_tab 3 0 3 20 rfl (by omega) rfl rfl (by omega) (by omega) rfl ?_
    refine XP_n 1 (pc' := 21) (ls' := [.ref (1000 + 2 * r), .int (nI (3))]) (st' := [.ref (1000 + 2 * r)]) (M' := (I, J, Rx R, N, G)) rfl ?_
    refine XP_getw rfl (by rw [rul_o (show r < 1000 by omega)]; rfl) ?_
    show XP X _ k_Rule_isOne 22 [.ref (1000 + 2 * r), .int (nI (3))] [.int (I (1000 + 2 * r) 0)] _ _
    rw [show I (1000 + 2 * r) 0 = s 107 r from hS _ _ _ _ (rul_m (show r < 1000 by omega)).1]
    rw [(hW.rk hr).1]
    refine XP_n 1 (pc' := 23) (ls' := [.ref (1000 + 2 * r), .int (nI (3))]) (st' := [.int (nI (3)), .int (nI (rKd s r))]) (M' := (I, J, Rx R, N, G)) rfl ?_
    refine XP_icN (x := rKd s r) (y := 3) rfl (by omega) (by omega) (fun (b23 : rKd s r = 3) => ?_) (fun (b23 : ¬ rKd s r = 3) => ?_)
    · refine XP_n 2 (pc' := 31) (ls' := [.ref (1000 + 2 * r), .int (nI (3))]) (st' := [.int (nI (1))]) (M' := (I, J, Rx R, N, G)) rfl ?_
      exact XP_ret rfl ⟨by unfold unN; rw [if_pos (by omega)], rfl⟩
    · refine XP_n 1 (pc' := 25) (ls' := [.ref (1000 + 2 * r), .int (nI (3))]) (st' := [.ref (1000 + 2 * r)]) (M' := (I, J, Rx R, N, G)) rfl ?_
      refine XP_getw rfl (by rw [rul_o (show r < 1000 by omega)]; rfl) ?_
      show XP X _ k_Rule_isOne 26 [.ref (1000 + 2 * r), .int (nI (3))] [.int (I (1000 + 2 * r) 0)] _ _
      rw [show I (1000 + 2 * r) 0 = s 107 r from hS _ _ _ _ (rul_m (show r < 1000 by omega)).1]
      rw [(hW.rk hr).1]
      refine XP_n 1 (pc' := 27) (ls' := [.ref (1000 + 2 * r), .int (nI (3))]) (st' := [.int (nI (5)), .int (nI (rKd s r))]) (M' := (I, J, Rx R, N, G)) rfl ?_
      refine XP_icN (x := rKd s r) (y := 5) rfl (by omega) (by omega) (fun (b27 : ¬ rKd s r = 5) => ?_) (fun (b27 : rKd s r = 5) => ?_)
      · refine XP_n 1 (pc' := 31) (ls' := [.ref (1000 + 2 * r), .int (nI (3))]) (st' := [.int (nI (0))]) (M' := (I, J, Rx R, N, G)) rfl ?_
        exact XP_ret rfl ⟨by unfold unN; rw [if_neg (by omega)], rfl⟩
      · refine XP_n 2 (pc' := 31) (ls' := [.ref (1000 + 2 * r), .int (nI (3))]) (st' := [.int (nI (1))]) (M' := (I, J, Rx R, N, G)) rfl ?_
        exact XP_ret rfl ⟨by unfold unN; rw [if_pos (by omega)], rfl⟩
  · unfold TP
    show XP X _ k_Rule_isOne 0 [.ref (1000 + 2 * r), .int (nI (4))] [] _ _
    refine XP_n 1 (pc' := 1) (ls' := [.ref (1000 + 2 * r), .int (nI (4))]) (st' := [.int (nI (4))]) (M' := (I, J, Rx R, N, G)) rfl ?_
    refine XP_tabD 4 0 3 32 rfl (by omega) rfl rfl (by omega) rfl ?_
    refine XP_n 1 (pc' := 33) (ls' := [.ref (1000 + 2 * r), .int (nI (4))]) (st' := [.ref (1000 + 2 * r)]) (M' := (I, J, Rx R, N, G)) rfl ?_
    refine XP_getw rfl (by rw [rul_o (show r < 1000 by omega)]; rfl) ?_
    show XP X _ k_Rule_isOne 34 [.ref (1000 + 2 * r), .int (nI (4))] [.int (I (1000 + 2 * r) 0)] _ _
    rw [show I (1000 + 2 * r) 0 = s 107 r from hS _ _ _ _ (rul_m (show r < 1000 by omega)).1]
    rw [(hW.rk hr).1]
    refine XP_n 1 (pc' := 35) (ls' := [.ref (1000 + 2 * r), .int (nI (4))]) (st' := [.int (nI (4)), .int (nI (rKd s r))]) (M' := (I, J, Rx R, N, G)) rfl ?_
    refine XP_icN (x := rKd s r) (y := 4) rfl (by omega) (by omega) (fun (b35 : ¬ rKd s r = 4) => ?_) (fun (b35 : rKd s r = 4) => ?_)
    · refine XP_n 1 (pc' := 39) (ls' := [.ref (1000 + 2 * r), .int (nI (4))]) (st' := [.int (nI (0))]) (M' := (I, J, Rx R, N, G)) rfl ?_
      exact XP_ret rfl ⟨by unfold unN; rw [if_neg (by omega)], rfl⟩
    · refine XP_n 2 (pc' := 39) (ls' := [.ref (1000 + 2 * r), .int (nI (4))]) (st' := [.int (nI (1))]) (M' := (I, J, Rx R, N, G)) rfl ?_
      exact XP_ret rfl ⟨by unfold unN; rw [if_pos (by omega)], rfl⟩
  · unfold TP
    show XP X _ k_Rule_isOne 0 [.ref (1000 + 2 * r), .int (nI (5))] [] _ _
    refine XP_n 1 (pc' := 1) (ls' := [.ref (1000 + 2 * r), .int (nI (5))]) (st' := [.int (nI (5))]) (M' := (I, J, Rx R, N, G)) rfl ?_
    refine XP_tabD 5 0 3 32 rfl (by omega) rfl rfl (by omega) rfl ?_
    refine XP_n 1 (pc' := 33) (ls' := [.ref (1000 + 2 * r), .int (nI (5))]) (st' := [.ref (1000 + 2 * r)]) (M' := (I, J, Rx R, N, G)) rfl ?_
    refine XP_getw rfl (by rw [rul_o (show r < 1000 by omega)]; rfl) ?_
    show XP X _ k_Rule_isOne 34 [.ref (1000 + 2 * r), .int (nI (5))] [.int (I (1000 + 2 * r) 0)] _ _
    rw [show I (1000 + 2 * r) 0 = s 107 r from hS _ _ _ _ (rul_m (show r < 1000 by omega)).1]
    rw [(hW.rk hr).1]
    refine XP_n 1 (pc' := 35) (ls' := [.ref (1000 + 2 * r), .int (nI (5))]) (st' := [.int (nI (5)), .int (nI (rKd s r))]) (M' := (I, J, Rx R, N, G)) rfl ?_
    refine XP_icN (x := rKd s r) (y := 5) rfl (by omega) (by omega) (fun (b35 : ¬ rKd s r = 5) => ?_) (fun (b35 : rKd s r = 5) => ?_)
    · refine XP_n 1 (pc' := 39) (ls' := [.ref (1000 + 2 * r), .int (nI (5))]) (st' := [.int (nI (0))]) (M' := (I, J, Rx R, N, G)) rfl ?_
      exact XP_ret rfl ⟨by unfold unN; rw [if_neg (by omega)], rfl⟩
    · refine XP_n 2 (pc' := 39) (ls' := [.ref (1000 + 2 * r), .int (nI (5))]) (st' := [.int (nI (1))]) (M' := (I, J, Rx R, N, G)) rfl ?_
      exact XP_ret rfl ⟨by unfold unN; rw [if_pos (by omega)], rfl⟩
  · unfold TP
    show XP X _ k_Rule_isOne 0 [.ref (1000 + 2 * r), .int (nI (6))] [] _ _
    refine XP_n 1 (pc' := 1) (ls' := [.ref (1000 + 2 * r), .int (nI (6))]) (st' := [.int (nI (6))]) (M' := (I, J, Rx R, N, G)) rfl ?_
    refine XP_tabD 6 0 3 32 rfl (by omega) rfl rfl (by omega) rfl ?_
    refine XP_n 1 (pc' := 33) (ls' := [.ref (1000 + 2 * r), .int (nI (6))]) (st' := [.ref (1000 + 2 * r)]) (M' := (I, J, Rx R, N, G)) rfl ?_
    refine XP_getw rfl (by rw [rul_o (show r < 1000 by omega)]; rfl) ?_
    show XP X _ k_Rule_isOne 34 [.ref (1000 + 2 * r), .int (nI (6))] [.int (I (1000 + 2 * r) 0)] _ _
    rw [show I (1000 + 2 * r) 0 = s 107 r from hS _ _ _ _ (rul_m (show r < 1000 by omega)).1]
    rw [(hW.rk hr).1]
    refine XP_n 1 (pc' := 35) (ls' := [.ref (1000 + 2 * r), .int (nI (6))]) (st' := [.int (nI (6)), .int (nI (rKd s r))]) (M' := (I, J, Rx R, N, G)) rfl ?_
    refine XP_icN (x := rKd s r) (y := 6) rfl (by omega) (by omega) (fun (b35 : ¬ rKd s r = 6) => ?_) (fun (b35 : rKd s r = 6) => ?_)
    · refine XP_n 1 (pc' := 39) (ls' := [.ref (1000 + 2 * r), .int (nI (6))]) (st' := [.int (nI (0))]) (M' := (I, J, Rx R, N, G)) rfl ?_
      exact XP_ret rfl ⟨by unfold unN; rw [if_neg (by omega)], rfl⟩
    · refine XP_n 2 (pc' := 39) (ls' := [.ref (1000 + 2 * r), .int (nI (6))]) (st' := [.int (nI (1))]) (M' := (I, J, Rx R, N, G)) rfl ?_
      exact XP_ret rfl ⟨by unfold unN; rw [if_pos (by omega)], rfl⟩
theorem m_isUnder {a k : Nat} (hk5 : a ≤ 5) (hk : k ≤ 6) (M : hM) : TP X d n_M_isUnder [.int (nI a), .int (nI k)] M (Ret (.int (nI (unN a k))) M) := by
  unfold TP
  show XP X _ k_M_isUnder 0 [.int (nI (a)), .int (nI (k))] [] _ _
  refine XP_n 1 (pc' := 1) (ls' := [.int (nI (a)), .int (nI (k))]) (st' := [.int (nI (k))]) (M' := M) rfl ?_
  refine XP_ifN (x := k)  rfl (by omega) (fun (b1 : k = 0) => ?_) (fun (b1 : ¬ k = 0) => ?_)
  · refine XP_n 2 (pc' := 23) (ls' := [.int (nI (a)), .int (nI (k))]) (st' := [.int (nI (1))]) (M' := M) rfl ?_
    exact XP_ret rfl ⟨by unfold unN; rw [if_pos (by omega)], rfl⟩
  · refine XP_n 2 (pc' := 4) (ls' := [.int (nI (a)), .int (nI (k))]) (st' := [.int (nI (k)), .int (nI (a))]) (M' := M) rfl ?_
    refine XP_icN (x := a) (y := k) rfl (by omega) (by omega) (fun (b4 : a = k) => ?_) (fun (b4 : ¬ a = k) => ?_)
    · refine XP_n 2 (pc' := 23) (ls' := [.int (nI (a)), .int (nI (k))]) (st' := [.int (nI (1))]) (M' := M) rfl ?_
      exact XP_ret rfl ⟨by unfold unN; rw [if_pos (by omega)], rfl⟩
    · refine XP_n 2 (pc' := 7) (ls' := [.int (nI (a)), .int (nI (k))]) (st' := [.int (nI (2)), .int (nI (k))]) (M' := M) rfl ?_
      refine XP_icN (x := k) (y := 2) rfl (by omega) (by omega) (fun (b7 : ¬ k = 2) => ?_) (fun (b7 : k = 2) => ?_)
      · refine XP_n 2 (pc' := 16) (ls' := [.int (nI (a)), .int (nI (k))]) (st' := [.int (nI (3)), .int (nI (k))]) (M' := M) rfl ?_
        refine XP_icN (x := k) (y := 3) rfl (by omega) (by omega) (fun (b16 : ¬ k = 3) => ?_) (fun (b16 : k = 3) => ?_)
        · refine XP_n 1 (pc' := 23) (ls' := [.int (nI (a)), .int (nI (k))]) (st' := [.int (nI (0))]) (M' := M) rfl ?_
          exact XP_ret rfl ⟨by unfold unN; rw [if_neg (by omega)], rfl⟩
        · refine XP_n 2 (pc' := 19) (ls' := [.int (nI (a)), .int (nI (k))]) (st' := [.int (nI (5)), .int (nI (a))]) (M' := M) rfl ?_
          refine XP_icN (x := a) (y := 5) rfl (by omega) (by omega) (fun (b19 : ¬ a = 5) => ?_) (fun (b19 : a = 5) => ?_)
          · refine XP_n 1 (pc' := 23) (ls' := [.int (nI (a)), .int (nI (k))]) (st' := [.int (nI (0))]) (M' := M) rfl ?_
            exact XP_ret rfl ⟨by unfold unN; rw [if_neg (by omega)], rfl⟩
          · refine XP_n 2 (pc' := 23) (ls' := [.int (nI (a)), .int (nI (k))]) (st' := [.int (nI (1))]) (M' := M) rfl ?_
            exact XP_ret rfl ⟨by unfold unN; rw [if_pos (by omega)], rfl⟩
      · refine XP_n 2 (pc' := 10) (ls' := [.int (nI (a)), .int (nI (k))]) (st' := [.int (nI (3)), .int (nI (a))]) (M' := M) rfl ?_
        refine XP_icN (x := a) (y := 3) rfl (by omega) (by omega) (fun (b10 : a = 3) => ?_) (fun (b10 : ¬ a = 3) => ?_)
        · refine XP_n 2 (pc' := 23) (ls' := [.int (nI (a)), .int (nI (k))]) (st' := [.int (nI (1))]) (M' := M) rfl ?_
          exact XP_ret rfl ⟨by unfold unN; rw [if_pos (by omega)], rfl⟩
        · refine XP_n 2 (pc' := 13) (ls' := [.int (nI (a)), .int (nI (k))]) (st' := [.int (nI (5)), .int (nI (a))]) (M' := M) rfl ?_
          refine XP_icN (x := a) (y := 5) rfl (by omega) (by omega) (fun (b13 : a = 5) => ?_) (fun (b13 : ¬ a = 5) => ?_)
          · refine XP_n 2 (pc' := 23) (ls' := [.int (nI (a)), .int (nI (k))]) (st' := [.int (nI (1))]) (M' := M) rfl ?_
            exact XP_ret rfl ⟨by unfold unN; rw [if_pos (by omega)], rfl⟩
          · refine XP_n 2 (pc' := 16) (ls' := [.int (nI (a)), .int (nI (k))]) (st' := [.int (nI (3)), .int (nI (k))]) (M' := M) rfl ?_
            refine XP_icN (x := k) (y := 3) rfl (by omega) (by omega) (fun (b16 : ¬ k = 3) => ?_) (fun (b16 : k = 3) => ?_)
            · refine XP_n 1 (pc' := 23) (ls' := [.int (nI (a)), .int (nI (k))]) (st' := [.int (nI (0))]) (M' := M) rfl ?_
              exact XP_ret rfl ⟨by unfold unN; rw [if_neg (by omega)], rfl⟩
            · refine XP_n 2 (pc' := 19) (ls' := [.int (nI (a)), .int (nI (k))]) (st' := [.int (nI (5)), .int (nI (a))]) (M' := M) rfl ?_
              refine XP_icN (x := a) (y := 5) rfl (by omega) (by omega) (fun (b19 : ¬ a = 5) => ?_) (fun (b19 : a = 5) => ?_)
              · refine XP_n 1 (pc' := 23) (ls' := [.int (nI (a)), .int (nI (k))]) (st' := [.int (nI (0))]) (M' := M) rfl ?_
                exact XP_ret rfl ⟨by unfold unN; rw [if_neg (by omega)], rfl⟩
              · refine XP_n 2 (pc' := 23) (ls' := [.int (nI (a)), .int (nI (k))]) (st' := [.int (nI (1))]) (M' := M) rfl ?_
                exact XP_ret rfl ⟨by unfold unN; rw [if_pos (by omega)], rfl⟩
theorem c_tks1 (hS : St s I) (hW : Wf s) (hL : Lk s R N) {p k : Nat} (hs : inN (nI p) (cSt s)) (h6 : k = 6) (hp : p ≤ 15) (hk : k ≤ 6) : TP X (d + 3) n_H_takenStreet [.ref 0, .int (nI p), .int (nI k)] (I, J, Rx R, N, G) (Ret (.int (nI (rSW s p))) (I, J, Rx R, N, G)) := by
  have hst8 := hW.st.2
  have hr8 := hW.r.2
  have hlt := inN_lt hs (by omega) (by omega)
  unfold TP
  show XP X _ k_H_takenStreet 0 [.ref (0), .int (nI (p)), .int (nI (k))] [] _ _
  refine XP_n 2 (pc' := 2) (ls' := [.ref (0), .int (nI (p)), .int (nI (k))]) (st' := [.int (nI (p)), .ref (0)]) (M' := (I, J, Rx R, N, G)) rfl ?_
  refine XP_pure rfl rfl (c_hasStreet hS hW _) ?_
  refine XP_s rfl ?_
  refine XP_bne (fun b3 => ?_) (fun b3 => absurd hs b3)
  refine XP_n 2 (pc' := 8) (ls' := [.ref (0), .int (nI (p)), .int (nI (k))]) (st' := [.int (nI (6)), .int (nI (k))]) (M' := (I, J, Rx R, N, G)) rfl ?_
  refine XP_icN (x := k) (y := 6) rfl (by omega) (by omega) (fun (b8 : ¬ k = 6) => absurd b8 (by omega)) (fun (b8 : k = 6) => ?_)
  refine XP_n 3 (pc' := 12) (ls' := [.ref (0), .int (nI (p)), .int (nI (k))]) (st' := [.int (nI (p)), .ref (79)]) (M' := (I, J, Rx R, N, G)) rfl ?_
  refine XP_iald hS rfl rfl (show p < 8 by omega) rfl (by omega) rfl ?_
  obtain ⟨hq21, hr21⟩ := hW.stw (show p < cSt s by omega)
  rw [hq21]
  refine XP_n 1 (pc' := 15) (ls' := [.ref (0), .int (nI (p)), .int (nI (k))]) (st' := [.int (nI (rSW s p))]) (M' := (I, J, Rx R, N, G)) rfl ?_
  exact XP_ret rfl ⟨rfl, rfl⟩
theorem c_tks2 (hS : St s I) (hW : Wf s) (hL : Lk s R N) {p k : Nat} (hs : inN (nI p) (cSt s)) (h6 : ¬ k = 6) (hp : p ≤ 15) (hk : k ≤ 6) : TP X (d + 3) n_H_takenStreet [.ref 0, .int (nI p), .int (nI k)] (I, J, Rx R, N, G) (Ret (.int (cI (-13))) (I, J, Rx R, N, G)) := by
  have hst8 := hW.st.2
  have hr8 := hW.r.2
  have hlt := inN_lt hs (by omega) (by omega)
  unfold TP
  show XP X _ k_H_takenStreet 0 [.ref (0), .int (nI (p)), .int (nI (k))] [] _ _
  refine XP_n 2 (pc' := 2) (ls' := [.ref (0), .int (nI (p)), .int (nI (k))]) (st' := [.int (nI (p)), .ref (0)]) (M' := (I, J, Rx R, N, G)) rfl ?_
  refine XP_pure rfl rfl (c_hasStreet hS hW _) ?_
  refine XP_s rfl ?_
  refine XP_bne (fun b3 => ?_) (fun b3 => absurd hs b3)
  refine XP_n 2 (pc' := 8) (ls' := [.ref (0), .int (nI (p)), .int (nI (k))]) (st' := [.int (nI (6)), .int (nI (k))]) (M' := (I, J, Rx R, N, G)) rfl ?_
  refine XP_icN (x := k) (y := 6) rfl (by omega) (by omega) (fun (b8 : ¬ k = 6) => ?_) (fun (b8 : k = 6) => absurd b8 (by omega))
  refine XP_n 1 (pc' := 15) (ls' := [.ref (0), .int (nI (p)), .int (nI (k))]) (st' := [.int (cI (-13))]) (M' := (I, J, Rx R, N, G)) rfl ?_
  exact XP_ret rfl ⟨rfl, rfl⟩
theorem c_tks3 (hS : St s I) (hW : Wf s) (hL : Lk s R N) {p k : Nat} (hs : ¬ inN (nI p) (cSt s)) (hp : p ≤ 15) (hk : k ≤ 6) : TP X (d + 3) n_H_takenStreet [.ref 0, .int (nI p), .int (nI k)] (I, J, Rx R, N, G) (Ret (.int (cI (-11))) (I, J, Rx R, N, G)) := by
  have hst8 := hW.st.2
  have hr8 := hW.r.2
  unfold TP
  show XP X _ k_H_takenStreet 0 [.ref (0), .int (nI (p)), .int (nI (k))] [] _ _
  refine XP_n 2 (pc' := 2) (ls' := [.ref (0), .int (nI (p)), .int (nI (k))]) (st' := [.int (nI (p)), .ref (0)]) (M' := (I, J, Rx R, N, G)) rfl ?_
  refine XP_pure rfl rfl (c_hasStreet hS hW _) ?_
  refine XP_s rfl ?_
  refine XP_bne (fun b3 => absurd b3 hs) (fun b3 => ?_)
  refine XP_n 1 (pc' := 5) (ls' := [.ref (0), .int (nI (p)), .int (nI (k))]) (st' := [.int (cI (-11))]) (M' := (I, J, Rx R, N, G)) rfl ?_
  exact XP_ret rfl ⟨rfl, rfl⟩
theorem c_tkr1 (hS : St s I) (hW : Wf s) (hL : Lk s R N) {p k : Nat} (hs : inN (nI p) (cR s)) (hu : unN (rKd s p) k = 1) (hp : p ≤ 15) (hk : k ≤ 6) : TP X (d + 3) n_H_takenRule [.ref 0, .int (nI p), .int (nI k)] (I, J, Rx R, N, G) (Ret (.int (nI p)) (I, J, Rx R, N, G)) := by
  have hst8 := hW.st.2
  have hr8 := hW.r.2
  have hlt := inN_lt hs (by omega) (by omega)
  have hun : unN (rKd s p) k ≤ 1 := by unfold unN; split <;> omega
  unfold TP
  show XP X _ k_H_takenRule 0 [.ref (0), .int (nI (p)), .int (nI (k)), xj] [] _ _
  refine XP_n 2 (pc' := 2) (ls' := [.ref (0), .int (nI (p)), .int (nI (k)), xj]) (st' := [.int (nI (p)), .ref (0)]) (M' := (I, J, Rx R, N, G)) rfl ?_
  refine XP_pure rfl rfl (c_ruleAtT hS hW hL (show p < cR s by omega)) ?_
  refine XP_n 5 (pc' := 10) (ls' := [.ref (0), .int (nI (p)), .int (nI (k)), .ref (1000 + 2 * p)]) (st' := [.int (nI (k)), .ref (1000 + 2 * p)]) (M' := (I, J, Rx R, N, G)) rfl ?_
  refine XP_pure rfl (show (isO (1000 + 2 * p) 7 || false) = true by rw [rul_o (by omega)]; rfl) (c_isOne hS hW (show p < cR s by omega) (by omega)) ?_
  refine XP_ifN (x := unN (rKd s p) k)  rfl (by omega) (fun (b11 : unN (rKd s p) k = 0) => absurd b11 (by omega)) (fun (b11 : ¬ unN (rKd s p) k = 0) => ?_)
  refine XP_n 2 (pc' := 15) (ls' := [.ref (0), .int (nI (p)), .int (nI (k)), .ref (1000 + 2 * p)]) (st' := [.int (nI (p))]) (M' := (I, J, Rx R, N, G)) rfl ?_
  exact XP_ret rfl ⟨rfl, rfl⟩
theorem c_tkr2 (hS : St s I) (hW : Wf s) (hL : Lk s R N) {p k : Nat} (hs : inN (nI p) (cR s)) (hu : ¬ unN (rKd s p) k = 1) (hp : p ≤ 15) (hk : k ≤ 6) : TP X (d + 3) n_H_takenRule [.ref 0, .int (nI p), .int (nI k)] (I, J, Rx R, N, G) (Ret (.int (cI (-13))) (I, J, Rx R, N, G)) := by
  have hst8 := hW.st.2
  have hr8 := hW.r.2
  have hlt := inN_lt hs (by omega) (by omega)
  have hun : unN (rKd s p) k ≤ 1 := by unfold unN; split <;> omega
  unfold TP
  show XP X _ k_H_takenRule 0 [.ref (0), .int (nI (p)), .int (nI (k)), xj] [] _ _
  refine XP_n 2 (pc' := 2) (ls' := [.ref (0), .int (nI (p)), .int (nI (k)), xj]) (st' := [.int (nI (p)), .ref (0)]) (M' := (I, J, Rx R, N, G)) rfl ?_
  refine XP_pure rfl rfl (c_ruleAtT hS hW hL (show p < cR s by omega)) ?_
  refine XP_n 5 (pc' := 10) (ls' := [.ref (0), .int (nI (p)), .int (nI (k)), .ref (1000 + 2 * p)]) (st' := [.int (nI (k)), .ref (1000 + 2 * p)]) (M' := (I, J, Rx R, N, G)) rfl ?_
  refine XP_pure rfl (show (isO (1000 + 2 * p) 7 || false) = true by rw [rul_o (by omega)]; rfl) (c_isOne hS hW (show p < cR s by omega) (by omega)) ?_
  refine XP_ifN (x := unN (rKd s p) k)  rfl (by omega) (fun (b11 : unN (rKd s p) k = 0) => ?_) (fun (b11 : ¬ unN (rKd s p) k = 0) => absurd b11 (by omega))
  refine XP_n 1 (pc' := 15) (ls' := [.ref (0), .int (nI (p)), .int (nI (k)), .ref (1000 + 2 * p)]) (st' := [.int (cI (-13))]) (M' := (I, J, Rx R, N, G)) rfl ?_
  exact XP_ret rfl ⟨rfl, rfl⟩
theorem c_tkr3 (hS : St s I) (hW : Wf s) (hL : Lk s R N) {p k : Nat} (hs : ¬ inN (nI p) (cR s)) (hp : p ≤ 15) (hk : k ≤ 6) : TP X (d + 3) n_H_takenRule [.ref 0, .int (nI p), .int (nI k)] (I, J, Rx R, N, G) (Ret (.int (cI (-11))) (I, J, Rx R, N, G)) := by
  have hst8 := hW.st.2
  have hr8 := hW.r.2
  unfold TP
  show XP X _ k_H_takenRule 0 [.ref (0), .int (nI (p)), .int (nI (k)), xj] [] _ _
  refine XP_n 2 (pc' := 2) (ls' := [.ref (0), .int (nI (p)), .int (nI (k)), xj]) (st' := [.int (nI (p)), .ref (0)]) (M' := (I, J, Rx R, N, G)) rfl ?_
  refine XP_pure rfl rfl (c_ruleAtF hS hW hL hs) ?_
  refine XP_n 4 (pc' := 7) (ls' := [.ref (0), .int (nI (p)), .int (nI (k)), .null]) (st' := [.int (cI (-11))]) (M' := (I, J, Rx R, N, G)) rfl ?_
  exact XP_ret rfl ⟨rfl, rfl⟩
theorem f_taken (hI : Inv s R N I J) (p : Int32) (k : Int32) : ∃ v, TP X (d + 12) n_H_taken [.ref 0, .int p, .int k] (I, J, Rx R, N, G) (QP s R N G (.int v)) ∧ ∀ I J, Inv s R N I J → TP X (d + 12) n_M_taken [.ref 99, .int p, .int k] (I, J, Rx R, N, G) (QP s R N G (.int v)) := by
  have hI0 := hI
  obtain ⟨hS, hW, hL, hC, hch⟩ := hI0
  have hy16 := hW.y.2
  have hp4 := hW.p.2
  have hs6 := hW.ns.2
  have hr8 := hW.r.2
  have hst8 := hW.st.2
  have ht3 := hW.t.2
  have hw60 := hW.w.2
  have hcwa := cWA_le hW
  have hst8 := hW.st.2
  have hr8 := hW.r.2
  by_cases g0 : iv 0 6 (k)
  rotate_left
  · skip
    refine ⟨cI (-2), ?_, fun I J hI => ?_⟩
    · unfold TP
      show XP X _ k_H_taken 0 [.ref (0), .int (p), .int (k)] [] _ _
      refine XP_n 3 (pc' := 3) (ls' := [.ref (0), .int (p), .int (k)]) (st' := [.int (nI (6)), .int (nI (0)), .int (k)]) (M' := (I, J, Rx R, N, G)) rfl ?_
      refine XP_pure rfl rfl (w_H X _ _ 0 6 _) ?_
      refine XP_s rfl ?_
      refine XP_bne (fun b4 => absurd b4 g0) (fun b4 => ?_)
      refine XP_n 1 (pc' := 6) (ls' := [.ref (0), .int (p), .int (k)]) (st' := [.int (cI (-2))]) (M' := (I, J, Rx R, N, G)) rfl ?_
      exact XP_ret rfl ⟨rfl, _, _, rfl, hI⟩
    · unfold TP
      show XP X _ k_M_taken 0 [.ref (99), .int (p), .int (k)] [] _ _
      refine XP_n 3 (pc' := 3) (ls' := [.ref (99), .int (p), .int (k)]) (st' := [.int (nI (6)), .int (nI (0)), .int (k)]) (M' := (I, J, Rx R, N, G)) rfl ?_
      refine XP_pure rfl rfl (w_M X _ _ 0 6 _) ?_
      refine XP_s rfl ?_
      refine XP_bne (fun b4 => absurd b4 g0) (fun b4 => ?_)
      refine XP_n 1 (pc' := 6) (ls' := [.ref (99), .int (p), .int (k)]) (st' := [.int (cI (-2))]) (M' := (I, J, Rx R, N, G)) rfl ?_
      exact XP_ret rfl ⟨rfl, _, _, rfl, hI⟩
  obtain ⟨kn, hkn0, hkn, rfl, ek⟩ := iv_nat g0 (by omega) (by omega)
  by_cases g1 : iv 0 15 (p)
  rotate_left
  · skip
    refine ⟨cI (-12), ?_, fun I J hI => ?_⟩
    · unfold TP
      show XP X _ k_H_taken 0 [.ref (0), .int (p), .int (nI (kn))] [] _ _
      refine XP_n 3 (pc' := 3) (ls' := [.ref (0), .int (p), .int (nI (kn))]) (st' := [.int (nI (6)), .int (nI (0)), .int (nI (kn))]) (M' := (I, J, Rx R, N, G)) rfl ?_
      refine XP_pure rfl rfl (w_H X _ _ 0 6 _) ?_
      refine XP_s rfl ?_
      refine XP_bne (fun b4 => ?_) (fun b4 => absurd g0 b4)
      refine XP_n 3 (pc' := 10) (ls' := [.ref (0), .int (p), .int (nI (kn))]) (st' := [.int (nI (15)), .int (nI (0)), .int (p)]) (M' := (I, J, Rx R, N, G)) rfl ?_
      refine XP_pure rfl rfl (w_H X _ _ 0 15 _) ?_
      refine XP_s rfl ?_
      refine XP_bne (fun b11 => absurd b11 g1) (fun b11 => ?_)
      refine XP_n 1 (pc' := 13) (ls' := [.ref (0), .int (p), .int (nI (kn))]) (st' := [.int (cI (-12))]) (M' := (I, J, Rx R, N, G)) rfl ?_
      exact XP_ret rfl ⟨rfl, _, _, rfl, hI⟩
    · unfold TP
      show XP X _ k_M_taken 0 [.ref (99), .int (p), .int (nI (kn))] [] _ _
      refine XP_n 3 (pc' := 3) (ls' := [.ref (99), .int (p), .int (nI (kn))]) (st' := [.int (nI (6)), .int (nI (0)), .int (nI (kn))]) (M' := (I, J, Rx R, N, G)) rfl ?_
      refine XP_pure rfl rfl (w_M X _ _ 0 6 _) ?_
      refine XP_s rfl ?_
      refine XP_bne (fun b4 => ?_) (fun b4 => absurd g0 b4)
      refine XP_n 3 (pc' := 10) (ls' := [.ref (99), .int (p), .int (nI (kn))]) (st' := [.int (nI (15)), .int (nI (0)), .int (p)]) (M' := (I, J, Rx R, N, G)) rfl ?_
      refine XP_pure rfl rfl (w_M X _ _ 0 15 _) ?_
      refine XP_s rfl ?_
      refine XP_bne (fun b11 => absurd b11 g1) (fun b11 => ?_)
      refine XP_n 1 (pc' := 13) (ls' := [.ref (99), .int (p), .int (nI (kn))]) (st' := [.int (cI (-12))]) (M' := (I, J, Rx R, N, G)) rfl ?_
      exact XP_ret rfl ⟨rfl, _, _, rfl, hI⟩
  obtain ⟨pn, hpn0, hpn, rfl, ep⟩ := iv_nat g1 (by omega) (by omega)
  by_cases h8 : pn < 8
  · by_cases hs : inN (nI (pn)) (cSt s)
    · have hst := inN_lt hs (by omega) (by omega)
      by_cases h6 : kn = 6
      · skip
        refine ⟨nI (rSW s pn), ?_, fun I J hI => ?_⟩
        · unfold TP
          show XP X _ k_H_taken 0 [.ref (0), .int (nI (pn)), .int (nI (kn))] [] _ _
          refine XP_n 3 (pc' := 3) (ls' := [.ref (0), .int (nI (pn)), .int (nI (kn))]) (st' := [.int (nI (6)), .int (nI (0)), .int (nI (kn))]) (M' := (I, J, Rx R, N, G)) rfl ?_
          refine XP_pure rfl rfl (w_H X _ _ 0 6 _) ?_
          refine XP_s rfl ?_
          refine XP_bne (fun b4 => ?_) (fun b4 => absurd g0 b4)
          refine XP_n 3 (pc' := 10) (ls' := [.ref (0), .int (nI (pn)), .int (nI (kn))]) (st' := [.int (nI (15)), .int (nI (0)), .int (nI (pn))]) (M' := (I, J, Rx R, N, G)) rfl ?_
          refine XP_pure rfl rfl (w_H X _ _ 0 15 _) ?_
          refine XP_s rfl ?_
          refine XP_bne (fun b11 => ?_) (fun b11 => absurd g1 b11)
          refine XP_n 2 (pc' := 16) (ls' := [.ref (0), .int (nI (pn)), .int (nI (kn))]) (st' := [.int (nI (8)), .int (nI (pn))]) (M' := (I, J, Rx R, N, G)) rfl ?_
          refine XP_icN (x := pn) (y := 8) rfl (by omega) (by omega) (fun (b16 : 8 ≤ pn) => absurd b16 (by omega)) (fun (b16 : pn < 8) => ?_)
          refine XP_n 3 (pc' := 20) (ls' := [.ref (0), .int (nI (pn)), .int (nI (kn))]) (st' := [.int (nI (kn)), .int (nI (pn)), .ref (0)]) (M' := (I, J, Rx R, N, G)) rfl ?_
          refine XP_pure rfl rfl (c_tks1 hI.1 hW hL hs h6 (by omega) (by omega)) ?_
          refine XP_n 1 (pc' := 28) (ls' := [.ref (0), .int (nI (pn)), .int (nI (kn))]) (st' := [.int (nI (rSW s pn))]) (M' := (I, J, Rx R, N, G)) rfl ?_
          exact XP_ret rfl ⟨rfl, _, _, rfl, hI⟩
        · unfold TP
          show XP X _ k_M_taken 0 [.ref (99), .int (nI (pn)), .int (nI (kn))] [] _ _
          refine XP_n 3 (pc' := 3) (ls' := [.ref (99), .int (nI (pn)), .int (nI (kn))]) (st' := [.int (nI (6)), .int (nI (0)), .int (nI (kn))]) (M' := (I, J, Rx R, N, G)) rfl ?_
          refine XP_pure rfl rfl (w_M X _ _ 0 6 _) ?_
          refine XP_s rfl ?_
          refine XP_bne (fun b4 => ?_) (fun b4 => absurd g0 b4)
          refine XP_n 3 (pc' := 10) (ls' := [.ref (99), .int (nI (pn)), .int (nI (kn))]) (st' := [.int (nI (15)), .int (nI (0)), .int (nI (pn))]) (M' := (I, J, Rx R, N, G)) rfl ?_
          refine XP_pure rfl rfl (w_M X _ _ 0 15 _) ?_
          refine XP_s rfl ?_
          refine XP_bne (fun b11 => ?_) (fun b11 => absurd g1 b11)
          refine XP_n 2 (pc' := 16) (ls' := [.ref (99), .int (nI (pn)), .int (nI (kn))]) (st' := [.int (nI (8)), .int (nI (pn))]) (M' := (I, J, Rx R, N, G)) rfl ?_
          refine XP_icN (x := pn) (y := 8) rfl (by omega) (by omega) (fun (b16 : 8 ≤ pn) => absurd b16 (by omega)) (fun (b16 : pn < 8) => ?_)
          refine XP_n 2 (pc' := 19) (ls' := [.ref (99), .int (nI (pn)), .int (nI (kn))]) (st' := [.ref (99), .int (nI (pn))]) (M' := (I, J, Rx R, N, G)) rfl ?_
          refine XP_geti hI.1 rfl rfl rfl ?_
          rw [hW.st.1]
          refine XP_icN (x := pn) (y := cSt s) rfl (by omega) (by omega) (fun (b20 : pn < cSt s) => ?_) (fun (b20 : cSt s ≤ pn) => absurd b20 (by omega))
          refine XP_n 2 (pc' := 25) (ls' := [.ref (99), .int (nI (pn)), .int (nI (kn))]) (st' := [.int (nI (6)), .int (nI (kn))]) (M' := (I, J, Rx R, N, G)) rfl ?_
          refine XP_icN (x := kn) (y := 6) rfl (by omega) (by omega) (fun (b25 : ¬ kn = 6) => absurd b25 (by omega)) (fun (b25 : kn = 6) => ?_)
          refine XP_n 3 (pc' := 29) (ls' := [.ref (99), .int (nI (pn)), .int (nI (kn))]) (st' := [.int (nI (pn)), .ref (113)]) (M' := (I, J, Rx R, N, G)) rfl ?_
          refine XP_iald hI.1 rfl rfl (show pn < 8 by omega) rfl (by omega) rfl ?_
          obtain ⟨hq22, hr22⟩ := hW.stw (show pn < cSt s by omega)
          rw [hq22]
          refine XP_n 1 (pc' := 32) (ls' := [.ref (99), .int (nI (pn)), .int (nI (kn))]) (st' := [.int (nI (rSW s pn))]) (M' := (I, J, Rx R, N, G)) rfl ?_
          exact XP_ret rfl ⟨rfl, _, _, rfl, hI⟩
      · skip
        refine ⟨cI (-13), ?_, fun I J hI => ?_⟩
        · unfold TP
          show XP X _ k_H_taken 0 [.ref (0), .int (nI (pn)), .int (nI (kn))] [] _ _
          refine XP_n 3 (pc' := 3) (ls' := [.ref (0), .int (nI (pn)), .int (nI (kn))]) (st' := [.int (nI (6)), .int (nI (0)), .int (nI (kn))]) (M' := (I, J, Rx R, N, G)) rfl ?_
          refine XP_pure rfl rfl (w_H X _ _ 0 6 _) ?_
          refine XP_s rfl ?_
          refine XP_bne (fun b4 => ?_) (fun b4 => absurd g0 b4)
          refine XP_n 3 (pc' := 10) (ls' := [.ref (0), .int (nI (pn)), .int (nI (kn))]) (st' := [.int (nI (15)), .int (nI (0)), .int (nI (pn))]) (M' := (I, J, Rx R, N, G)) rfl ?_
          refine XP_pure rfl rfl (w_H X _ _ 0 15 _) ?_
          refine XP_s rfl ?_
          refine XP_bne (fun b11 => ?_) (fun b11 => absurd g1 b11)
          refine XP_n 2 (pc' := 16) (ls' := [.ref (0), .int (nI (pn)), .int (nI (kn))]) (st' := [.int (nI (8)), .int (nI (pn))]) (M' := (I, J, Rx R, N, G)) rfl ?_
          refine XP_icN (x := pn) (y := 8) rfl (by omega) (by omega) (fun (b16 : 8 ≤ pn) => absurd b16 (by omega)) (fun (b16 : pn < 8) => ?_)
          refine XP_n 3 (pc' := 20) (ls' := [.ref (0), .int (nI (pn)), .int (nI (kn))]) (st' := [.int (nI (kn)), .int (nI (pn)), .ref (0)]) (M' := (I, J, Rx R, N, G)) rfl ?_
          refine XP_pure rfl rfl (c_tks2 hI.1 hW hL hs h6 (by omega) (by omega)) ?_
          refine XP_n 1 (pc' := 28) (ls' := [.ref (0), .int (nI (pn)), .int (nI (kn))]) (st' := [.int (cI (-13))]) (M' := (I, J, Rx R, N, G)) rfl ?_
          exact XP_ret rfl ⟨rfl, _, _, rfl, hI⟩
        · unfold TP
          show XP X _ k_M_taken 0 [.ref (99), .int (nI (pn)), .int (nI (kn))] [] _ _
          refine XP_n 3 (pc' := 3) (ls' := [.ref (99), .int (nI (pn)), .int (nI (kn))]) (st' := [.int (nI (6)), .int (nI (0)), .int (nI (kn))]) (M' := (I, J, Rx R, N, G)) rfl ?_
          refine XP_pure rfl rfl (w_M X _ _ 0 6 _) ?_
          refine XP_s rfl ?_
          refine XP_bne (fun b4 => ?_) (fun b4 => absurd g0 b4)
          refine XP_n 3 (pc' := 10) (ls' := [.ref (99), .int (nI (pn)), .int (nI (kn))]) (st' := [.int (nI (15)), .int (nI (0)), .int (nI (pn))]) (M' := (I, J, Rx R, N, G)) rfl ?_
          refine XP_pure rfl rfl (w_M X _ _ 0 15 _) ?_
          refine XP_s rfl ?_
          refine XP_bne (fun b11 => ?_) (fun b11 => absurd g1 b11)
          refine XP_n 2 (pc' := 16) (ls' := [.ref (99), .int (nI (pn)), .int (nI (kn))]) (st' := [.int (nI (8)), .int (nI (pn))]) (M' := (I, J, Rx R, N, G)) rfl ?_
          refine XP_icN (x := pn) (y := 8) rfl (by omega) (by omega) (fun (b16 : 8 ≤ pn) => absurd b16 (by omega)) (fun (b16 : pn < 8) => ?_)
          refine XP_n 2 (pc' := 19) (ls' := [.ref (99), .int (nI (pn)), .int (nI (kn))]) (st' := [.ref (99), .int (nI (pn))]) (M' := (I, J, Rx R, N, G)) rfl ?_
          refine XP_geti hI.1 rfl rfl rfl ?_
          rw [hW.st.1]
          refine XP_icN (x := pn) (y := cSt s) rfl (by omega) (by omega) (fun (b20 : pn < cSt s) => ?_) (fun (b20 : cSt s ≤ pn) => absurd b20 (by omega))
          refine XP_n 2 (pc' := 25) (ls' := [.ref (99), .int (nI (pn)), .int (nI (kn))]) (st' := [.int (nI (6)), .int (nI (kn))]) (M' := (I, J, Rx R, N, G)) rfl ?_
          refine XP_icN (x := kn) (y := 6) rfl (by omega) (by omega) (fun (b25 : ¬ kn = 6) => ?_) (fun (b25 : kn = 6) => absurd b25 (by omega))
          refine XP_n 1 (pc' := 32) (ls' := [.ref (99), .int (nI (pn)), .int (nI (kn))]) (st' := [.int (cI (-13))]) (M' := (I, J, Rx R, N, G)) rfl ?_
          exact XP_ret rfl ⟨rfl, _, _, rfl, hI⟩
    · have hst : ¬ pn < cSt s := fun z => hs (nI_inN z (by omega))
      refine ⟨cI (-11), ?_, fun I J hI => ?_⟩
      · unfold TP
        show XP X _ k_H_taken 0 [.ref (0), .int (nI (pn)), .int (nI (kn))] [] _ _
        refine XP_n 3 (pc' := 3) (ls' := [.ref (0), .int (nI (pn)), .int (nI (kn))]) (st' := [.int (nI (6)), .int (nI (0)), .int (nI (kn))]) (M' := (I, J, Rx R, N, G)) rfl ?_
        refine XP_pure rfl rfl (w_H X _ _ 0 6 _) ?_
        refine XP_s rfl ?_
        refine XP_bne (fun b4 => ?_) (fun b4 => absurd g0 b4)
        refine XP_n 3 (pc' := 10) (ls' := [.ref (0), .int (nI (pn)), .int (nI (kn))]) (st' := [.int (nI (15)), .int (nI (0)), .int (nI (pn))]) (M' := (I, J, Rx R, N, G)) rfl ?_
        refine XP_pure rfl rfl (w_H X _ _ 0 15 _) ?_
        refine XP_s rfl ?_
        refine XP_bne (fun b11 => ?_) (fun b11 => absurd g1 b11)
        refine XP_n 2 (pc' := 16) (ls' := [.ref (0), .int (nI (pn)), .int (nI (kn))]) (st' := [.int (nI (8)), .int (nI (pn))]) (M' := (I, J, Rx R, N, G)) rfl ?_
        refine XP_icN (x := pn) (y := 8) rfl (by omega) (by omega) (fun (b16 : 8 ≤ pn) => absurd b16 (by omega)) (fun (b16 : pn < 8) => ?_)
        refine XP_n 3 (pc' := 20) (ls' := [.ref (0), .int (nI (pn)), .int (nI (kn))]) (st' := [.int (nI (kn)), .int (nI (pn)), .ref (0)]) (M' := (I, J, Rx R, N, G)) rfl ?_
        refine XP_pure rfl rfl (c_tks3 hI.1 hW hL hs (by omega) (by omega)) ?_
        refine XP_n 1 (pc' := 28) (ls' := [.ref (0), .int (nI (pn)), .int (nI (kn))]) (st' := [.int (cI (-11))]) (M' := (I, J, Rx R, N, G)) rfl ?_
        exact XP_ret rfl ⟨rfl, _, _, rfl, hI⟩
      · unfold TP
        show XP X _ k_M_taken 0 [.ref (99), .int (nI (pn)), .int (nI (kn))] [] _ _
        refine XP_n 3 (pc' := 3) (ls' := [.ref (99), .int (nI (pn)), .int (nI (kn))]) (st' := [.int (nI (6)), .int (nI (0)), .int (nI (kn))]) (M' := (I, J, Rx R, N, G)) rfl ?_
        refine XP_pure rfl rfl (w_M X _ _ 0 6 _) ?_
        refine XP_s rfl ?_
        refine XP_bne (fun b4 => ?_) (fun b4 => absurd g0 b4)
        refine XP_n 3 (pc' := 10) (ls' := [.ref (99), .int (nI (pn)), .int (nI (kn))]) (st' := [.int (nI (15)), .int (nI (0)), .int (nI (pn))]) (M' := (I, J, Rx R, N, G)) rfl ?_
        refine XP_pure rfl rfl (w_M X _ _ 0 15 _) ?_
        refine XP_s rfl ?_
        refine XP_bne (fun b11 => ?_) (fun b11 => absurd g1 b11)
        refine XP_n 2 (pc' := 16) (ls' := [.ref (99), .int (nI (pn)), .int (nI (kn))]) (st' := [.int (nI (8)), .int (nI (pn))]) (M' := (I, J, Rx R, N, G)) rfl ?_
        refine XP_icN (x := pn) (y := 8) rfl (by omega) (by omega) (fun (b16 : 8 ≤ pn) => absurd b16 (by omega)) (fun (b16 : pn < 8) => ?_)
        refine XP_n 2 (pc' := 19) (ls' := [.ref (99), .int (nI (pn)), .int (nI (kn))]) (st' := [.ref (99), .int (nI (pn))]) (M' := (I, J, Rx R, N, G)) rfl ?_
        refine XP_geti hI.1 rfl rfl rfl ?_
        rw [hW.st.1]
        refine XP_icN (x := pn) (y := cSt s) rfl (by omega) (by omega) (fun (b20 : pn < cSt s) => absurd b20 (by omega)) (fun (b20 : cSt s ≤ pn) => ?_)
        refine XP_n 2 (pc' := 32) (ls' := [.ref (99), .int (nI (pn)), .int (nI (kn))]) (st' := [.int (cI (-11))]) (M' := (I, J, Rx R, N, G)) rfl ?_
        exact XP_ret rfl ⟨rfl, _, _, rfl, hI⟩
  · by_cases hr : inN (nI (pn - 8)) (cR s)
    · have hrt := inN_lt hr (by omega) (by omega)
      have hun : unN (rKd s (pn - 8)) kn ≤ 1 := by unfold unN; split <;> omega
      have hu6 : kn = 6 → unN (rKd s (pn - 8)) kn = 0 := fun h => by
        have := (hW.rk hrt).2
        unfold unN
        rw [if_neg (by omega)]
      by_cases hu : unN (rKd s (pn - 8)) kn = 1
      · skip
        refine ⟨nI (pn - 8), ?_, fun I J hI => ?_⟩
        · unfold TP
          show XP X _ k_H_taken 0 [.ref (0), .int (nI (pn)), .int (nI (kn))] [] _ _
          refine XP_n 3 (pc' := 3) (ls' := [.ref (0), .int (nI (pn)), .int (nI (kn))]) (st' := [.int (nI (6)), .int (nI (0)), .int (nI (kn))]) (M' := (I, J, Rx R, N, G)) rfl ?_
          refine XP_pure rfl rfl (w_H X _ _ 0 6 _) ?_
          refine XP_s rfl ?_
          refine XP_bne (fun b4 => ?_) (fun b4 => absurd g0 b4)
          refine XP_n 3 (pc' := 10) (ls' := [.ref (0), .int (nI (pn)), .int (nI (kn))]) (st' := [.int (nI (15)), .int (nI (0)), .int (nI (pn))]) (M' := (I, J, Rx R, N, G)) rfl ?_
          refine XP_pure rfl rfl (w_H X _ _ 0 15 _) ?_
          refine XP_s rfl ?_
          refine XP_bne (fun b11 => ?_) (fun b11 => absurd g1 b11)
          refine XP_n 2 (pc' := 16) (ls' := [.ref (0), .int (nI (pn)), .int (nI (kn))]) (st' := [.int (nI (8)), .int (nI (pn))]) (M' := (I, J, Rx R, N, G)) rfl ?_
          refine XP_icN (x := pn) (y := 8) rfl (by omega) (by omega) (fun (b16 : 8 ≤ pn) => ?_) (fun (b16 : pn < 8) => absurd b16 (by omega))
          refine XP_n 5 (pc' := 27) (ls' := [.ref (0), .int (nI (pn)), .int (nI (kn))]) (st' := [.int (nI (kn)), .int ((nI (pn)) - (nI (8))), .ref (0)]) (M' := (I, J, Rx R, N, G)) rfl ?_
          rw [show (nI (pn)) - (nI (8)) = nI (pn - 8) from nI_subE (rfl) (rfl) (by omega)]
          refine XP_pure rfl rfl (c_tkr1 hI.1 hW hL hr hu (by omega) (by omega)) ?_
          exact XP_ret rfl ⟨rfl, _, _, rfl, hI⟩
        · unfold TP
          show XP X _ k_M_taken 0 [.ref (99), .int (nI (pn)), .int (nI (kn))] [] _ _
          refine XP_n 3 (pc' := 3) (ls' := [.ref (99), .int (nI (pn)), .int (nI (kn))]) (st' := [.int (nI (6)), .int (nI (0)), .int (nI (kn))]) (M' := (I, J, Rx R, N, G)) rfl ?_
          refine XP_pure rfl rfl (w_M X _ _ 0 6 _) ?_
          refine XP_s rfl ?_
          refine XP_bne (fun b4 => ?_) (fun b4 => absurd g0 b4)
          refine XP_n 3 (pc' := 10) (ls' := [.ref (99), .int (nI (pn)), .int (nI (kn))]) (st' := [.int (nI (15)), .int (nI (0)), .int (nI (pn))]) (M' := (I, J, Rx R, N, G)) rfl ?_
          refine XP_pure rfl rfl (w_M X _ _ 0 15 _) ?_
          refine XP_s rfl ?_
          refine XP_bne (fun b11 => ?_) (fun b11 => absurd g1 b11)
          refine XP_n 2 (pc' := 16) (ls' := [.ref (99), .int (nI (pn)), .int (nI (kn))]) (st' := [.int (nI (8)), .int (nI (pn))]) (M' := (I, J, Rx R, N, G)) rfl ?_
          refine XP_icN (x := pn) (y := 8) rfl (by omega) (by omega) (fun (b16 : 8 ≤ pn) => ?_) (fun (b16 : pn < 8) => absurd b16 (by omega))
          refine XP_n 4 (pc' := 37) (ls' := [.ref (99), .int (nI (pn)), .int (nI (kn))]) (st' := [.ref (99), .int ((nI (pn)) - (nI (8)))]) (M' := (I, J, Rx R, N, G)) rfl ?_
          rw [show (nI (pn)) - (nI (8)) = nI (pn - 8) from nI_subE (rfl) (rfl) (by omega)]
          refine XP_geti hI.1 rfl rfl rfl ?_
          rw [hW.r.1]
          refine XP_icN (x := pn - 8) (y := cR s) rfl (by omega) (by omega) (fun (b38 : pn - 8 < cR s) => ?_) (fun (b38 : cR s ≤ pn - 8) => absurd b38 (by omega))
          refine XP_n 2 (pc' := 43) (ls' := [.ref (99), .int (nI (pn)), .int (nI (kn))]) (st' := [.int (nI (6)), .int (nI (kn))]) (M' := (I, J, Rx R, N, G)) rfl ?_
          refine XP_icN (x := kn) (y := 6) rfl (by omega) (by omega) (fun (b43 : 6 ≤ kn) => absurd b43 (by omega)) (fun (b43 : kn < 6) => ?_)
          refine XP_n 5 (pc' := 49) (ls' := [.ref (99), .int (nI (pn)), .int (nI (kn))]) (st' := [.int ((nI (pn)) - (nI (8))), .ref (107)]) (M' := (I, J, Rx R, N, G)) rfl ?_
          rw [show (nI (pn)) - (nI (8)) = nI (pn - 8) from nI_subE (rfl) (rfl) (by omega)]
          refine XP_iald hI.1 rfl rfl (show pn - 8 < 8 by omega) rfl (by omega) rfl ?_
          obtain ⟨hq23, hr23⟩ := hW.rk (show pn - 8 < cR s by omega)
          rw [hq23]
          refine XP_n 1 (pc' := 51) (ls' := [.ref (99), .int (nI (pn)), .int (nI (kn))]) (st' := [.int (nI (kn)), .int (nI (rKd s (pn - 8)))]) (M' := (I, J, Rx R, N, G)) rfl ?_
          refine XP_pure rfl rfl (m_isUnder ((hW.rk (show pn - 8 < cR s by omega)).2) (by omega) _) ?_
          refine XP_ifN (x := unN (rKd s (pn - 8)) kn)  rfl (by omega) (fun (b52 : unN (rKd s (pn - 8)) kn = 0) => absurd b52 (by omega)) (fun (b52 : ¬ unN (rKd s (pn - 8)) kn = 0) => ?_)
          refine XP_n 4 (pc' := 58) (ls' := [.ref (99), .int (nI (pn)), .int (nI (kn))]) (st' := [.int ((nI (pn)) - (nI (8)))]) (M' := (I, J, Rx R, N, G)) rfl ?_
          rw [show (nI (pn)) - (nI (8)) = nI (pn - 8) from nI_subE (rfl) (rfl) (by omega)]
          exact XP_ret rfl ⟨rfl, _, _, rfl, hI⟩
      · skip
        refine ⟨cI (-13), ?_, fun I J hI => ?_⟩
        · unfold TP
          show XP X _ k_H_taken 0 [.ref (0), .int (nI (pn)), .int (nI (kn))] [] _ _
          refine XP_n 3 (pc' := 3) (ls' := [.ref (0), .int (nI (pn)), .int (nI (kn))]) (st' := [.int (nI (6)), .int (nI (0)), .int (nI (kn))]) (M' := (I, J, Rx R, N, G)) rfl ?_
          refine XP_pure rfl rfl (w_H X _ _ 0 6 _) ?_
          refine XP_s rfl ?_
          refine XP_bne (fun b4 => ?_) (fun b4 => absurd g0 b4)
          refine XP_n 3 (pc' := 10) (ls' := [.ref (0), .int (nI (pn)), .int (nI (kn))]) (st' := [.int (nI (15)), .int (nI (0)), .int (nI (pn))]) (M' := (I, J, Rx R, N, G)) rfl ?_
          refine XP_pure rfl rfl (w_H X _ _ 0 15 _) ?_
          refine XP_s rfl ?_
          refine XP_bne (fun b11 => ?_) (fun b11 => absurd g1 b11)
          refine XP_n 2 (pc' := 16) (ls' := [.ref (0), .int (nI (pn)), .int (nI (kn))]) (st' := [.int (nI (8)), .int (nI (pn))]) (M' := (I, J, Rx R, N, G)) rfl ?_
          refine XP_icN (x := pn) (y := 8) rfl (by omega) (by omega) (fun (b16 : 8 ≤ pn) => ?_) (fun (b16 : pn < 8) => absurd b16 (by omega))
          refine XP_n 5 (pc' := 27) (ls' := [.ref (0), .int (nI (pn)), .int (nI (kn))]) (st' := [.int (nI (kn)), .int ((nI (pn)) - (nI (8))), .ref (0)]) (M' := (I, J, Rx R, N, G)) rfl ?_
          rw [show (nI (pn)) - (nI (8)) = nI (pn - 8) from nI_subE (rfl) (rfl) (by omega)]
          refine XP_pure rfl rfl (c_tkr2 hI.1 hW hL hr hu (by omega) (by omega)) ?_
          exact XP_ret rfl ⟨rfl, _, _, rfl, hI⟩
        · unfold TP
          show XP X _ k_M_taken 0 [.ref (99), .int (nI (pn)), .int (nI (kn))] [] _ _
          refine XP_n 3 (pc' := 3) (ls' := [.ref (99), .int (nI (pn)), .int (nI (kn))]) (st' := [.int (nI (6)), .int (nI (0)), .int (nI (kn))]) (M' := (I, J, Rx R, N, G)) rfl ?_
          refine XP_pure rfl rfl (w_M X _ _ 0 6 _) ?_
          refine XP_s rfl ?_
          refine XP_bne (fun b4 => ?_) (fun b4 => absurd g0 b4)
          refine XP_n 3 (pc' := 10) (ls' := [.ref (99), .int (nI (pn)), .int (nI (kn))]) (st' := [.int (nI (15)), .int (nI (0)), .int (nI (pn))]) (M' := (I, J, Rx R, N, G)) rfl ?_
          refine XP_pure rfl rfl (w_M X _ _ 0 15 _) ?_
          refine XP_s rfl ?_
          refine XP_bne (fun b11 => ?_) (fun b11 => absurd g1 b11)
          refine XP_n 2 (pc' := 16) (ls' := [.ref (99), .int (nI (pn)), .int (nI (kn))]) (st' := [.int (nI (8)), .int (nI (pn))]) (M' := (I, J, Rx R, N, G)) rfl ?_
          refine XP_icN (x := pn) (y := 8) rfl (by omega) (by omega) (fun (b16 : 8 ≤ pn) => ?_) (fun (b16 : pn < 8) => absurd b16 (by omega))
          refine XP_n 4 (pc' := 37) (ls' := [.ref (99), .int (nI (pn)), .int (nI (kn))]) (st' := [.ref (99), .int ((nI (pn)) - (nI (8)))]) (M' := (I, J, Rx R, N, G)) rfl ?_
          rw [show (nI (pn)) - (nI (8)) = nI (pn - 8) from nI_subE (rfl) (rfl) (by omega)]
          refine XP_geti hI.1 rfl rfl rfl ?_
          rw [hW.r.1]
          refine XP_icN (x := pn - 8) (y := cR s) rfl (by omega) (by omega) (fun (b38 : pn - 8 < cR s) => ?_) (fun (b38 : cR s ≤ pn - 8) => absurd b38 (by omega))
          refine XP_n 2 (pc' := 43) (ls' := [.ref (99), .int (nI (pn)), .int (nI (kn))]) (st' := [.int (nI (6)), .int (nI (kn))]) (M' := (I, J, Rx R, N, G)) rfl ?_
          refine XP_icN (x := kn) (y := 6) rfl (by omega) (by omega) (fun (b43 : 6 ≤ kn) => ?_) (fun (b43 : kn < 6) => ?_)
          · refine XP_n 1 (pc' := 58) (ls' := [.ref (99), .int (nI (pn)), .int (nI (kn))]) (st' := [.int (cI (-13))]) (M' := (I, J, Rx R, N, G)) rfl ?_
            exact XP_ret rfl ⟨rfl, _, _, rfl, hI⟩
          · refine XP_n 5 (pc' := 49) (ls' := [.ref (99), .int (nI (pn)), .int (nI (kn))]) (st' := [.int ((nI (pn)) - (nI (8))), .ref (107)]) (M' := (I, J, Rx R, N, G)) rfl ?_
            rw [show (nI (pn)) - (nI (8)) = nI (pn - 8) from nI_subE (rfl) (rfl) (by omega)]
            refine XP_iald hI.1 rfl rfl (show pn - 8 < 8 by omega) rfl (by omega) rfl ?_
            obtain ⟨hq24, hr24⟩ := hW.rk (show pn - 8 < cR s by omega)
            rw [hq24]
            refine XP_n 1 (pc' := 51) (ls' := [.ref (99), .int (nI (pn)), .int (nI (kn))]) (st' := [.int (nI (kn)), .int (nI (rKd s (pn - 8)))]) (M' := (I, J, Rx R, N, G)) rfl ?_
            refine XP_pure rfl rfl (m_isUnder ((hW.rk (show pn - 8 < cR s by omega)).2) (by omega) _) ?_
            refine XP_ifN (x := unN (rKd s (pn - 8)) kn)  rfl (by omega) (fun (b52 : unN (rKd s (pn - 8)) kn = 0) => ?_) (fun (b52 : ¬ unN (rKd s (pn - 8)) kn = 0) => absurd b52 (by omega))
            refine XP_n 1 (pc' := 58) (ls' := [.ref (99), .int (nI (pn)), .int (nI (kn))]) (st' := [.int (cI (-13))]) (M' := (I, J, Rx R, N, G)) rfl ?_
            exact XP_ret rfl ⟨rfl, _, _, rfl, hI⟩
    · have hrt : ¬ pn - 8 < cR s := fun z => hr (nI_inN z (by omega))
      refine ⟨cI (-11), ?_, fun I J hI => ?_⟩
      · unfold TP
        show XP X _ k_H_taken 0 [.ref (0), .int (nI (pn)), .int (nI (kn))] [] _ _
        refine XP_n 3 (pc' := 3) (ls' := [.ref (0), .int (nI (pn)), .int (nI (kn))]) (st' := [.int (nI (6)), .int (nI (0)), .int (nI (kn))]) (M' := (I, J, Rx R, N, G)) rfl ?_
        refine XP_pure rfl rfl (w_H X _ _ 0 6 _) ?_
        refine XP_s rfl ?_
        refine XP_bne (fun b4 => ?_) (fun b4 => absurd g0 b4)
        refine XP_n 3 (pc' := 10) (ls' := [.ref (0), .int (nI (pn)), .int (nI (kn))]) (st' := [.int (nI (15)), .int (nI (0)), .int (nI (pn))]) (M' := (I, J, Rx R, N, G)) rfl ?_
        refine XP_pure rfl rfl (w_H X _ _ 0 15 _) ?_
        refine XP_s rfl ?_
        refine XP_bne (fun b11 => ?_) (fun b11 => absurd g1 b11)
        refine XP_n 2 (pc' := 16) (ls' := [.ref (0), .int (nI (pn)), .int (nI (kn))]) (st' := [.int (nI (8)), .int (nI (pn))]) (M' := (I, J, Rx R, N, G)) rfl ?_
        refine XP_icN (x := pn) (y := 8) rfl (by omega) (by omega) (fun (b16 : 8 ≤ pn) => ?_) (fun (b16 : pn < 8) => absurd b16 (by omega))
        refine XP_n 5 (pc' := 27) (ls' := [.ref (0), .int (nI (pn)), .int (nI (kn))]) (st' := [.int (nI (kn)), .int ((nI (pn)) - (nI (8))), .ref (0)]) (M' := (I, J, Rx R, N, G)) rfl ?_
        rw [show (nI (pn)) - (nI (8)) = nI (pn - 8) from nI_subE (rfl) (rfl) (by omega)]
        refine XP_pure rfl rfl (c_tkr3 hI.1 hW hL hr (by omega) (by omega)) ?_
        exact XP_ret rfl ⟨rfl, _, _, rfl, hI⟩
      · unfold TP
        show XP X _ k_M_taken 0 [.ref (99), .int (nI (pn)), .int (nI (kn))] [] _ _
        refine XP_n 3 (pc' := 3) (ls' := [.ref (99), .int (nI (pn)), .int (nI (kn))]) (st' := [.int (nI (6)), .int (nI (0)), .int (nI (kn))]) (M' := (I, J, Rx R, N, G)) rfl ?_
        refine XP_pure rfl rfl (w_M X _ _ 0 6 _) ?_
        refine XP_s rfl ?_
        refine XP_bne (fun b4 => ?_) (fun b4 => absurd g0 b4)
        refine XP_n 3 (pc' := 10) (ls' := [.ref (99), .int (nI (pn)), .int (nI (kn))]) (st' := [.int (nI (15)), .int (nI (0)), .int (nI (pn))]) (M' := (I, J, Rx R, N, G)) rfl ?_
        refine XP_pure rfl rfl (w_M X _ _ 0 15 _) ?_
        refine XP_s rfl ?_
        refine XP_bne (fun b11 => ?_) (fun b11 => absurd g1 b11)
        refine XP_n 2 (pc' := 16) (ls' := [.ref (99), .int (nI (pn)), .int (nI (kn))]) (st' := [.int (nI (8)), .int (nI (pn))]) (M' := (I, J, Rx R, N, G)) rfl ?_
        refine XP_icN (x := pn) (y := 8) rfl (by omega) (by omega) (fun (b16 : 8 ≤ pn) => ?_) (fun (b16 : pn < 8) => absurd b16 (by omega))
        refine XP_n 4 (pc' := 37) (ls' := [.ref (99), .int (nI (pn)), .int (nI (kn))]) (st' := [.ref (99), .int ((nI (pn)) - (nI (8)))]) (M' := (I, J, Rx R, N, G)) rfl ?_
        rw [show (nI (pn)) - (nI (8)) = nI (pn - 8) from nI_subE (rfl) (rfl) (by omega)]
        refine XP_geti hI.1 rfl rfl rfl ?_
        rw [hW.r.1]
        refine XP_icN (x := pn - 8) (y := cR s) rfl (by omega) (by omega) (fun (b38 : pn - 8 < cR s) => absurd b38 (by omega)) (fun (b38 : cR s ≤ pn - 8) => ?_)
        refine XP_n 2 (pc' := 58) (ls' := [.ref (99), .int (nI (pn)), .int (nI (kn))]) (st' := [.int (cI (-11))]) (M' := (I, J, Rx R, N, G)) rfl ?_
        exact XP_ret rfl ⟨rfl, _, _, rfl, hI⟩
end
