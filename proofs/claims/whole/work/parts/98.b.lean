/-! setters: cell, copy -/
section
variable {X : hX} {d : Nat} {s I : Nat → Nat → Int32} {J : Nat → Nat → Int64} {R : Nat → Nat → Option Nat} {N : Nat → Nat} {G : hG}
theorem c_shput0 (hS : St s I) (hW : Wf s) {sn j : Nat} (hsn : sn < 4) (hj : j < sz s sn) (ht : s 120 sn = nI 0) (v : Int32) : TP X d n_Sheet_put [.ref (87 + 2 * sn), .int (nI j), .int v] (I, J, Rx R, N, G) (fun w M' => w = some (.int (nI 1)) ∧ M' = (rw2 I (88 + 2 * sn) j (v.toInt8.toInt32), J, Rx R, N, G)) := by
  have hsz0 := (hW.sz1 hsn).2
  unfold TP
  show XP X _ k_Sheet_put 0 [.ref (87 + 2 * sn), .int (nI (j)), .int (v)] [] _ _
  refine XP_n 1 (pc' := 1) (ls' := [.ref (87 + 2 * sn), .int (nI (j)), .int (v)]) (st' := [.int (nI (j))]) (M' := (I, J, Rx R, N, G)) rfl ?_
  refine XP_ifN (x := j)  rfl (by omega) (fun (b1 : j < 0) => absurd b1 (by omega)) (fun (b1 : 0 ≤ j) => ?_)
  refine XP_n 2 (pc' := 4) (ls' := [.ref (87 + 2 * sn), .int (nI (j)), .int (v)]) (st' := [.ref (87 + 2 * sn), .int (nI (j))]) (M' := (I, J, Rx R, N, G)) rfl ?_
  refine XP_getw rfl (by rw [sh_o (show sn < 4 by omega)]; rfl) ?_
  show XP X _ k_Sheet_put 5 [.ref (87 + 2 * sn), .int (nI (j)), .int (v)] [.int (I (87 + 2 * sn) 1), .int (nI (j))] _ _
  rw [show I (87 + 2 * sn) 1 = s 121 sn from hS _ _ _ _ (sh_m1 (show sn < 4 by omega))]
  rw [(hW.sz1 hsn).1]
  refine XP_icN (x := j) (y := sz s sn) rfl (by omega) (by omega) (fun (b5 : sz s sn ≤ j) => absurd b5 (by omega)) (fun (b5 : j < sz s sn) => ?_)
  refine XP_n 2 (pc' := 8) (ls' := [.ref (87 + 2 * sn), .int (nI (j)), .int (v)]) (st' := [.ref (87 + 2 * sn), .int (nI (j))]) (M' := (I, J, Rx R, N, G)) rfl ?_
  refine XP_getr rfl (by rw [sh_o (show sn < 4 by omega)]; rfl) (sh_r R (show sn < 4 by omega))  ?_
  refine XP_len rfl (sh_a (show sn < 4 by omega)) (sh_l N (show sn < 4 by omega)) ?_
  refine XP_icN (x := j) (y := 40) rfl (by omega) (by omega) (fun (b10 : j < 40) => ?_) (fun (b10 : 40 ≤ j) => absurd b10 (by omega))
  refine XP_n 1 (pc' := 14) (ls' := [.ref (87 + 2 * sn), .int (nI (j)), .int (v)]) (st' := [.ref (87 + 2 * sn)]) (M' := (I, J, Rx R, N, G)) rfl ?_
  refine XP_getr rfl (by rw [sh_o (show sn < 4 by omega)]; rfl) (sh_r R (show sn < 4 by omega))  ?_
  refine XP_n 2 (pc' := 17) (ls' := [.ref (87 + 2 * sn), .int (nI (j)), .int (v)]) (st' := [.ref (87 + 2 * sn), .int (nI (j)), .ref (88 + 2 * sn)]) (M' := (I, J, Rx R, N, G)) rfl ?_
  refine XP_getw rfl (by rw [sh_o (show sn < 4 by omega)]; rfl) ?_
  show XP X _ k_Sheet_put 18 [.ref (87 + 2 * sn), .int (nI (j)), .int (v)] [.int (I (87 + 2 * sn) 0), .int (nI (j)), .ref (88 + 2 * sn)] _ _
  rw [show I (87 + 2 * sn) 0 = s 120 sn from hS _ _ _ _ (sh_m0 (show sn < 4 by omega))]
  rw [ht]
  refine XP_ifN (x := 0)  rfl (by omega) (fun (b18 : ¬ 0 = 0) => absurd b18 (by omega)) (fun (b18 : 0 = 0) => ?_)
  refine XP_n 3 (pc' := 30) (ls' := [.ref (87 + 2 * sn), .int (nI (j)), .int (v)]) (st' := [.int ((v).toInt8.toInt32), .int (nI (j)), .ref (88 + 2 * sn)]) (M' := (I, J, Rx R, N, G)) rfl ?_
  refine XP_iast rfl (sh_a (show sn < 4 by omega)) (show j < 40 by omega) (sh_l N (show sn < 4 by omega)) (by omega) ?_
  refine XP_n 1 (pc' := 32) (ls' := [.ref (87 + 2 * sn), .int (nI (j)), .int (v)]) (st' := [.int (nI (1))]) (M' := ((rw2 I (88 + 2 * sn) j ((v).toInt8.toInt32)), J, Rx R, N, G)) rfl ?_
  exact XP_ret rfl ⟨rfl, rfl⟩
theorem c_shput1 (hS : St s I) (hW : Wf s) {sn j : Nat} (hsn : sn < 4) (hj : j < sz s sn) (ht : s 120 sn = nI 1) (v : Int32) : TP X d n_Sheet_put [.ref (87 + 2 * sn), .int (nI j), .int v] (I, J, Rx R, N, G) (fun w M' => w = some (.int (nI 1)) ∧ M' = (rw2 I (88 + 2 * sn) j (v.toInt16.toInt32), J, Rx R, N, G)) := by
  have hsz0 := (hW.sz1 hsn).2
  unfold TP
  show XP X _ k_Sheet_put 0 [.ref (87 + 2 * sn), .int (nI (j)), .int (v)] [] _ _
  refine XP_n 1 (pc' := 1) (ls' := [.ref (87 + 2 * sn), .int (nI (j)), .int (v)]) (st' := [.int (nI (j))]) (M' := (I, J, Rx R, N, G)) rfl ?_
  refine XP_ifN (x := j)  rfl (by omega) (fun (b1 : j < 0) => absurd b1 (by omega)) (fun (b1 : 0 ≤ j) => ?_)
  refine XP_n 2 (pc' := 4) (ls' := [.ref (87 + 2 * sn), .int (nI (j)), .int (v)]) (st' := [.ref (87 + 2 * sn), .int (nI (j))]) (M' := (I, J, Rx R, N, G)) rfl ?_
  refine XP_getw rfl (by rw [sh_o (show sn < 4 by omega)]; rfl) ?_
  show XP X _ k_Sheet_put 5 [.ref (87 + 2 * sn), .int (nI (j)), .int (v)] [.int (I (87 + 2 * sn) 1), .int (nI (j))] _ _
  rw [show I (87 + 2 * sn) 1 = s 121 sn from hS _ _ _ _ (sh_m1 (show sn < 4 by omega))]
  rw [(hW.sz1 hsn).1]
  refine XP_icN (x := j) (y := sz s sn) rfl (by omega) (by omega) (fun (b5 : sz s sn ≤ j) => absurd b5 (by omega)) (fun (b5 : j < sz s sn) => ?_)
  refine XP_n 2 (pc' := 8) (ls' := [.ref (87 + 2 * sn), .int (nI (j)), .int (v)]) (st' := [.ref (87 + 2 * sn), .int (nI (j))]) (M' := (I, J, Rx R, N, G)) rfl ?_
  refine XP_getr rfl (by rw [sh_o (show sn < 4 by omega)]; rfl) (sh_r R (show sn < 4 by omega))  ?_
  refine XP_len rfl (sh_a (show sn < 4 by omega)) (sh_l N (show sn < 4 by omega)) ?_
  refine XP_icN (x := j) (y := 40) rfl (by omega) (by omega) (fun (b10 : j < 40) => ?_) (fun (b10 : 40 ≤ j) => absurd b10 (by omega))
  refine XP_n 1 (pc' := 14) (ls' := [.ref (87 + 2 * sn), .int (nI (j)), .int (v)]) (st' := [.ref (87 + 2 * sn)]) (M' := (I, J, Rx R, N, G)) rfl ?_
  refine XP_getr rfl (by rw [sh_o (show sn < 4 by omega)]; rfl) (sh_r R (show sn < 4 by omega))  ?_
  refine XP_n 2 (pc' := 17) (ls' := [.ref (87 + 2 * sn), .int (nI (j)), .int (v)]) (st' := [.ref (87 + 2 * sn), .int (nI (j)), .ref (88 + 2 * sn)]) (M' := (I, J, Rx R, N, G)) rfl ?_
  refine XP_getw rfl (by rw [sh_o (show sn < 4 by omega)]; rfl) ?_
  show XP X _ k_Sheet_put 18 [.ref (87 + 2 * sn), .int (nI (j)), .int (v)] [.int (I (87 + 2 * sn) 0), .int (nI (j)), .ref (88 + 2 * sn)] _ _
  rw [show I (87 + 2 * sn) 0 = s 120 sn from hS _ _ _ _ (sh_m0 (show sn < 4 by omega))]
  rw [ht]
  refine XP_ifN (x := 1)  rfl (by omega) (fun (b18 : ¬ 1 = 0) => ?_) (fun (b18 : 1 = 0) => absurd b18 (by omega))
  refine XP_n 1 (pc' := 23) (ls' := [.ref (87 + 2 * sn), .int (nI (j)), .int (v)]) (st' := [.ref (87 + 2 * sn), .int (nI (j)), .ref (88 + 2 * sn)]) (M' := (I, J, Rx R, N, G)) rfl ?_
  refine XP_getw rfl (by rw [sh_o (show sn < 4 by omega)]; rfl) ?_
  show XP X _ k_Sheet_put 24 [.ref (87 + 2 * sn), .int (nI (j)), .int (v)] [.int (I (87 + 2 * sn) 0), .int (nI (j)), .ref (88 + 2 * sn)] _ _
  rw [show I (87 + 2 * sn) 0 = s 120 sn from hS _ _ _ _ (sh_m0 (show sn < 4 by omega))]
  rw [ht]
  refine XP_n 1 (pc' := 25) (ls' := [.ref (87 + 2 * sn), .int (nI (j)), .int (v)]) (st' := [.int (nI (1)), .int (nI (1)), .int (nI (j)), .ref (88 + 2 * sn)]) (M' := (I, J, Rx R, N, G)) rfl ?_
  refine XP_icN (x := 1) (y := 1) rfl (by omega) (by omega) (fun (b25 : ¬ 1 = 1) => absurd b25 (by omega)) (fun (b25 : 1 = 1) => ?_)
  refine XP_n 3 (pc' := 30) (ls' := [.ref (87 + 2 * sn), .int (nI (j)), .int (v)]) (st' := [.int ((v).toInt16.toInt32), .int (nI (j)), .ref (88 + 2 * sn)]) (M' := (I, J, Rx R, N, G)) rfl ?_
  refine XP_iast rfl (sh_a (show sn < 4 by omega)) (show j < 40 by omega) (sh_l N (show sn < 4 by omega)) (by omega) ?_
  refine XP_n 1 (pc' := 32) (ls' := [.ref (87 + 2 * sn), .int (nI (j)), .int (v)]) (st' := [.int (nI (1))]) (M' := ((rw2 I (88 + 2 * sn) j ((v).toInt16.toInt32)), J, Rx R, N, G)) rfl ?_
  exact XP_ret rfl ⟨rfl, rfl⟩
theorem c_shput2 (hS : St s I) (hW : Wf s) {sn j : Nat} (hsn : sn < 4) (hj : j < sz s sn) (ht : s 120 sn = nI 2) (v : Int32) : TP X d n_Sheet_put [.ref (87 + 2 * sn), .int (nI j), .int v] (I, J, Rx R, N, G) (fun w M' => w = some (.int (nI 1)) ∧ M' = (rw2 I (88 + 2 * sn) j (v), J, Rx R, N, G)) := by
  have hsz0 := (hW.sz1 hsn).2
  unfold TP
  show XP X _ k_Sheet_put 0 [.ref (87 + 2 * sn), .int (nI (j)), .int (v)] [] _ _
  refine XP_n 1 (pc' := 1) (ls' := [.ref (87 + 2 * sn), .int (nI (j)), .int (v)]) (st' := [.int (nI (j))]) (M' := (I, J, Rx R, N, G)) rfl ?_
  refine XP_ifN (x := j)  rfl (by omega) (fun (b1 : j < 0) => absurd b1 (by omega)) (fun (b1 : 0 ≤ j) => ?_)
  refine XP_n 2 (pc' := 4) (ls' := [.ref (87 + 2 * sn), .int (nI (j)), .int (v)]) (st' := [.ref (87 + 2 * sn), .int (nI (j))]) (M' := (I, J, Rx R, N, G)) rfl ?_
  refine XP_getw rfl (by rw [sh_o (show sn < 4 by omega)]; rfl) ?_
  show XP X _ k_Sheet_put 5 [.ref (87 + 2 * sn), .int (nI (j)), .int (v)] [.int (I (87 + 2 * sn) 1), .int (nI (j))] _ _
  rw [show I (87 + 2 * sn) 1 = s 121 sn from hS _ _ _ _ (sh_m1 (show sn < 4 by omega))]
  rw [(hW.sz1 hsn).1]
  refine XP_icN (x := j) (y := sz s sn) rfl (by omega) (by omega) (fun (b5 : sz s sn ≤ j) => absurd b5 (by omega)) (fun (b5 : j < sz s sn) => ?_)
  refine XP_n 2 (pc' := 8) (ls' := [.ref (87 + 2 * sn), .int (nI (j)), .int (v)]) (st' := [.ref (87 + 2 * sn), .int (nI (j))]) (M' := (I, J, Rx R, N, G)) rfl ?_
  refine XP_getr rfl (by rw [sh_o (show sn < 4 by omega)]; rfl) (sh_r R (show sn < 4 by omega))  ?_
  refine XP_len rfl (sh_a (show sn < 4 by omega)) (sh_l N (show sn < 4 by omega)) ?_
  refine XP_icN (x := j) (y := 40) rfl (by omega) (by omega) (fun (b10 : j < 40) => ?_) (fun (b10 : 40 ≤ j) => absurd b10 (by omega))
  refine XP_n 1 (pc' := 14) (ls' := [.ref (87 + 2 * sn), .int (nI (j)), .int (v)]) (st' := [.ref (87 + 2 * sn)]) (M' := (I, J, Rx R, N, G)) rfl ?_
  refine XP_getr rfl (by rw [sh_o (show sn < 4 by omega)]; rfl) (sh_r R (show sn < 4 by omega))  ?_
  refine XP_n 2 (pc' := 17) (ls' := [.ref (87 + 2 * sn), .int (nI (j)), .int (v)]) (st' := [.ref (87 + 2 * sn), .int (nI (j)), .ref (88 + 2 * sn)]) (M' := (I, J, Rx R, N, G)) rfl ?_
  refine XP_getw rfl (by rw [sh_o (show sn < 4 by omega)]; rfl) ?_
  show XP X _ k_Sheet_put 18 [.ref (87 + 2 * sn), .int (nI (j)), .int (v)] [.int (I (87 + 2 * sn) 0), .int (nI (j)), .ref (88 + 2 * sn)] _ _
  rw [show I (87 + 2 * sn) 0 = s 120 sn from hS _ _ _ _ (sh_m0 (show sn < 4 by omega))]
  rw [ht]
  refine XP_ifN (x := 2)  rfl (by omega) (fun (b18 : ¬ 2 = 0) => ?_) (fun (b18 : 2 = 0) => absurd b18 (by omega))
  refine XP_n 1 (pc' := 23) (ls' := [.ref (87 + 2 * sn), .int (nI (j)), .int (v)]) (st' := [.ref (87 + 2 * sn), .int (nI (j)), .ref (88 + 2 * sn)]) (M' := (I, J, Rx R, N, G)) rfl ?_
  refine XP_getw rfl (by rw [sh_o (show sn < 4 by omega)]; rfl) ?_
  show XP X _ k_Sheet_put 24 [.ref (87 + 2 * sn), .int (nI (j)), .int (v)] [.int (I (87 + 2 * sn) 0), .int (nI (j)), .ref (88 + 2 * sn)] _ _
  rw [show I (87 + 2 * sn) 0 = s 120 sn from hS _ _ _ _ (sh_m0 (show sn < 4 by omega))]
  rw [ht]
  refine XP_n 1 (pc' := 25) (ls' := [.ref (87 + 2 * sn), .int (nI (j)), .int (v)]) (st' := [.int (nI (1)), .int (nI (2)), .int (nI (j)), .ref (88 + 2 * sn)]) (M' := (I, J, Rx R, N, G)) rfl ?_
  refine XP_icN (x := 2) (y := 1) rfl (by omega) (by omega) (fun (b25 : ¬ 2 = 1) => ?_) (fun (b25 : 2 = 1) => absurd b25 (by omega))
  refine XP_n 1 (pc' := 30) (ls' := [.ref (87 + 2 * sn), .int (nI (j)), .int (v)]) (st' := [.int (v), .int (nI (j)), .ref (88 + 2 * sn)]) (M' := (I, J, Rx R, N, G)) rfl ?_
  refine XP_iast rfl (sh_a (show sn < 4 by omega)) (show j < 40 by omega) (sh_l N (show sn < 4 by omega)) (by omega) ?_
  refine XP_n 1 (pc' := 32) (ls' := [.ref (87 + 2 * sn), .int (nI (j)), .int (v)]) (st' := [.int (nI (1))]) (M' := ((rw2 I (88 + 2 * sn) j (v)), J, Rx R, N, G)) rfl ?_
  exact XP_ret rfl ⟨rfl, rfl⟩
theorem c_shputF (hS : St s I) (hW : Wf s) {sn : Nat} (hsn : sn < 4) {i : Int32} (h : ¬ inN i (sz s sn)) (v : Int32) : TP X d n_Sheet_put [.ref (87 + 2 * sn), .int i, .int v] (I, J, Rx R, N, G) (Ret (.int (nI 0)) (I, J, Rx R, N, G)) := by
  have hsz0 := (hW.sz1 hsn).2
  unfold TP
  show XP X _ k_Sheet_put 0 [.ref (87 + 2 * sn), .int (i), .int (v)] [] _ _
  refine XP_n 1 (pc' := 1) (ls' := [.ref (87 + 2 * sn), .int (i), .int (v)]) (st' := [.int (i)]) (M' := (I, J, Rx R, N, G)) rfl ?_
  refine XP_ifD rfl (fun (b1 : i < 0) => ?_) (fun (b1 : 0 ≤ i) => ?_)
  · have n1 := Int32.not_le.mpr b1
    refine XP_n 1 (pc' := 12) (ls' := [.ref (87 + 2 * sn), .int (i), .int (v)]) (st' := [.int (nI (0))]) (M' := (I, J, Rx R, N, G)) rfl ?_
    exact XP_ret rfl ⟨rfl, rfl⟩
  · have n1 := Int32.not_lt.mpr b1
    refine XP_n 2 (pc' := 4) (ls' := [.ref (87 + 2 * sn), .int (i), .int (v)]) (st' := [.ref (87 + 2 * sn), .int (i)]) (M' := (I, J, Rx R, N, G)) rfl ?_
    refine XP_getw rfl (by rw [sh_o (show sn < 4 by omega)]; rfl) ?_
    show XP X _ k_Sheet_put 5 [.ref (87 + 2 * sn), .int (i), .int (v)] [.int (I (87 + 2 * sn) 1), .int (i)] _ _
    rw [show I (87 + 2 * sn) 1 = s 121 sn from hS _ _ _ _ (sh_m1 (show sn < 4 by omega))]
    rw [(hW.sz1 hsn).1]
    refine XP_icD rfl (fun (b5 : nI (sz s sn) ≤ i) => ?_) (fun (b5 : i < nI (sz s sn)) => ?_)
    · have n5 := Int32.not_lt.mpr b5
      refine XP_n 1 (pc' := 12) (ls' := [.ref (87 + 2 * sn), .int (i), .int (v)]) (st' := [.int (nI (0))]) (M' := (I, J, Rx R, N, G)) rfl ?_
      exact XP_ret rfl ⟨rfl, rfl⟩
    · have n5 := Int32.not_le.mpr b5
      exact absurd ((lt_iff (by omega)).mp ⟨n1, b5⟩) h
theorem rc_iff {i n z : Nat} (hi : i < 2147483648) (hn : n < 2147483648) (hz : z ≤ 40) : nI z - nI n < nI i ↔ ¬ i + n ≤ z := by
  rw [Int32.lt_iff_toInt_lt, Int32.toInt_sub, nI_toInt (by omega), nI_toInt (by omega), nI_toInt (by omega)]
  have : ((z : Int) - n).bmod (2 ^ 32) = (z : Int) - n := by
    apply Int.bmod_eq_of_le <;> omega
  rw [this]
  omega
theorem c_reachT (hS : St s I) (hW : Wf s) {sn i n : Nat} (hsn : sn < 4) (h : i + n ≤ sz s sn) : TP X d n_Sheet_reaches [.ref (87 + 2 * sn), .int (nI i), .int (nI n)] (I, J, Rx R, N, G) (Ret (.int (nI 1)) (I, J, Rx R, N, G)) := by
  have hsz0 := (hW.sz1 hsn).2
  have hrc : ¬ (nI (sz s sn)) - (nI n) < nI i := fun z => (rc_iff (by omega) (by omega) hsz0).mp z h
  unfold TP
  show XP X _ k_Sheet_reaches 0 [.ref (87 + 2 * sn), .int (nI (i)), .int (nI (n))] [] _ _
  refine XP_n 1 (pc' := 1) (ls' := [.ref (87 + 2 * sn), .int (nI (i)), .int (nI (n))]) (st' := [.int (nI (i))]) (M' := (I, J, Rx R, N, G)) rfl ?_
  refine XP_ifN (x := i)  rfl (by omega) (fun (b1 : i < 0) => absurd b1 (by omega)) (fun (b1 : 0 ≤ i) => ?_)
  refine XP_n 1 (pc' := 3) (ls' := [.ref (87 + 2 * sn), .int (nI (i)), .int (nI (n))]) (st' := [.int (nI (n))]) (M' := (I, J, Rx R, N, G)) rfl ?_
  refine XP_ifN (x := n)  rfl (by omega) (fun (b3 : n < 0) => absurd b3 (by omega)) (fun (b3 : 0 ≤ n) => ?_)
  refine XP_n 2 (pc' := 6) (ls' := [.ref (87 + 2 * sn), .int (nI (i)), .int (nI (n))]) (st' := [.ref (87 + 2 * sn), .int (nI (i))]) (M' := (I, J, Rx R, N, G)) rfl ?_
  refine XP_getw rfl (by rw [sh_o (show sn < 4 by omega)]; rfl) ?_
  show XP X _ k_Sheet_reaches 7 [.ref (87 + 2 * sn), .int (nI (i)), .int (nI (n))] [.int (I (87 + 2 * sn) 1), .int (nI (i))] _ _
  rw [show I (87 + 2 * sn) 1 = s 121 sn from hS _ _ _ _ (sh_m1 (show sn < 4 by omega))]
  rw [(hW.sz1 hsn).1]
  refine XP_n 2 (pc' := 9) (ls' := [.ref (87 + 2 * sn), .int (nI (i)), .int (nI (n))]) (st' := [.int ((nI (sz s sn)) - (nI (n))), .int (nI (i))]) (M' := (I, J, Rx R, N, G)) rfl ?_
  refine XP_icD rfl (fun (b9 : (nI (sz s sn)) - (nI (n)) < nI (i)) => absurd b9 (by first | exact hrc | exact fun z => z hrc | exact Int32.not_le.mpr hrc | exact Int32.not_lt.mpr (Int32.not_lt.mp hrc) | omega)) (fun (b9 : nI (i) ≤ (nI (sz s sn)) - (nI (n))) => ?_)
  have n9 := Int32.not_lt.mpr b9
  refine XP_n 1 (pc' := 11) (ls' := [.ref (87 + 2 * sn), .int (nI (i)), .int (nI (n))]) (st' := [.ref (87 + 2 * sn)]) (M' := (I, J, Rx R, N, G)) rfl ?_
  refine XP_getw rfl (by rw [sh_o (show sn < 4 by omega)]; rfl) ?_
  show XP X _ k_Sheet_reaches 12 [.ref (87 + 2 * sn), .int (nI (i)), .int (nI (n))] [.int (I (87 + 2 * sn) 1)] _ _
  rw [show I (87 + 2 * sn) 1 = s 121 sn from hS _ _ _ _ (sh_m1 (show sn < 4 by omega))]
  rw [(hW.sz1 hsn).1]
  refine XP_n 1 (pc' := 13) (ls' := [.ref (87 + 2 * sn), .int (nI (i)), .int (nI (n))]) (st' := [.ref (87 + 2 * sn), .int (nI (sz s sn))]) (M' := (I, J, Rx R, N, G)) rfl ?_
  refine XP_getr rfl (by rw [sh_o (show sn < 4 by omega)]; rfl) (sh_r R (show sn < 4 by omega))  ?_
  refine XP_len rfl (sh_a (show sn < 4 by omega)) (sh_l N (show sn < 4 by omega)) ?_
  refine XP_icN (x := sz s sn) (y := 40) rfl (by omega) (by omega) (fun (b15 : 40 < sz s sn) => absurd b15 (by omega)) (fun (b15 : sz s sn ≤ 40) => ?_)
  refine XP_n 2 (pc' := 19) (ls' := [.ref (87 + 2 * sn), .int (nI (i)), .int (nI (n))]) (st' := [.int (nI (1))]) (M' := (I, J, Rx R, N, G)) rfl ?_
  exact XP_ret rfl ⟨rfl, rfl⟩
theorem c_reachF (hS : St s I) (hW : Wf s) {sn i n : Nat} (hsn : sn < 4) (hi : i < 2147483648) (hn : n < 2147483648) (h : ¬ i + n ≤ sz s sn) : TP X d n_Sheet_reaches [.ref (87 + 2 * sn), .int (nI i), .int (nI n)] (I, J, Rx R, N, G) (Ret (.int (nI 0)) (I, J, Rx R, N, G)) := by
  have hsz0 := (hW.sz1 hsn).2
  have hrc : (nI (sz s sn)) - (nI n) < nI i := (rc_iff hi hn hsz0).mpr h
  unfold TP
  show XP X _ k_Sheet_reaches 0 [.ref (87 + 2 * sn), .int (nI (i)), .int (nI (n))] [] _ _
  refine XP_n 1 (pc' := 1) (ls' := [.ref (87 + 2 * sn), .int (nI (i)), .int (nI (n))]) (st' := [.int (nI (i))]) (M' := (I, J, Rx R, N, G)) rfl ?_
  refine XP_ifN (x := i)  rfl (by omega) (fun (b1 : i < 0) => absurd b1 (by omega)) (fun (b1 : 0 ≤ i) => ?_)
  refine XP_n 1 (pc' := 3) (ls' := [.ref (87 + 2 * sn), .int (nI (i)), .int (nI (n))]) (st' := [.int (nI (n))]) (M' := (I, J, Rx R, N, G)) rfl ?_
  refine XP_ifN (x := n)  rfl (by omega) (fun (b3 : n < 0) => absurd b3 (by omega)) (fun (b3 : 0 ≤ n) => ?_)
  refine XP_n 2 (pc' := 6) (ls' := [.ref (87 + 2 * sn), .int (nI (i)), .int (nI (n))]) (st' := [.ref (87 + 2 * sn), .int (nI (i))]) (M' := (I, J, Rx R, N, G)) rfl ?_
  refine XP_getw rfl (by rw [sh_o (show sn < 4 by omega)]; rfl) ?_
  show XP X _ k_Sheet_reaches 7 [.ref (87 + 2 * sn), .int (nI (i)), .int (nI (n))] [.int (I (87 + 2 * sn) 1), .int (nI (i))] _ _
  rw [show I (87 + 2 * sn) 1 = s 121 sn from hS _ _ _ _ (sh_m1 (show sn < 4 by omega))]
  rw [(hW.sz1 hsn).1]
  refine XP_n 2 (pc' := 9) (ls' := [.ref (87 + 2 * sn), .int (nI (i)), .int (nI (n))]) (st' := [.int ((nI (sz s sn)) - (nI (n))), .int (nI (i))]) (M' := (I, J, Rx R, N, G)) rfl ?_
  refine XP_icD rfl (fun (b9 : (nI (sz s sn)) - (nI (n)) < nI (i)) => ?_) (fun (b9 : nI (i) ≤ (nI (sz s sn)) - (nI (n))) => absurd b9 (by first | exact hrc | exact fun z => z hrc | exact Int32.not_le.mpr hrc | exact Int32.not_lt.mpr (Int32.not_lt.mp hrc) | omega))
  have n9 := Int32.not_le.mpr b9
  refine XP_n 1 (pc' := 19) (ls' := [.ref (87 + 2 * sn), .int (nI (i)), .int (nI (n))]) (st' := [.int (nI (0))]) (M' := (I, J, Rx R, N, G)) rfl ?_
  exact XP_ret rfl ⟨rfl, rfl⟩
theorem c_reachI {sn : Nat} {i : Int32} (hi : i < 0) (n : Int32) : TP X d n_Sheet_reaches [.ref (87 + 2 * sn), .int i, .int n] (I, J, Rx R, N, G) (Ret (.int (nI 0)) (I, J, Rx R, N, G)) := by
  unfold TP
  show XP X _ k_Sheet_reaches 0 [.ref (87 + 2 * sn), .int (i), .int (n)] [] _ _
  refine XP_n 1 (pc' := 1) (ls' := [.ref (87 + 2 * sn), .int (i), .int (n)]) (st' := [.int (i)]) (M' := (I, J, Rx R, N, G)) rfl ?_
  refine XP_ifD rfl (fun (b1 : i < 0) => ?_) (fun (b1 : 0 ≤ i) => absurd b1 (by first | exact hi | exact fun z => z hi | exact Int32.not_le.mpr hi | exact Int32.not_lt.mpr (Int32.not_lt.mp hi) | omega))
  have n1 := Int32.not_le.mpr b1
  refine XP_n 1 (pc' := 19) (ls' := [.ref (87 + 2 * sn), .int (i), .int (n)]) (st' := [.int (nI (0))]) (M' := (I, J, Rx R, N, G)) rfl ?_
  exact XP_ret rfl ⟨rfl, rfl⟩
theorem c_reachN {sn : Nat} {i n : Int32} (hi : ¬ i < 0) (hn : n < 0) : TP X d n_Sheet_reaches [.ref (87 + 2 * sn), .int i, .int n] (I, J, Rx R, N, G) (Ret (.int (nI 0)) (I, J, Rx R, N, G)) := by
  unfold TP
  show XP X _ k_Sheet_reaches 0 [.ref (87 + 2 * sn), .int (i), .int (n)] [] _ _
  refine XP_n 1 (pc' := 1) (ls' := [.ref (87 + 2 * sn), .int (i), .int (n)]) (st' := [.int (i)]) (M' := (I, J, Rx R, N, G)) rfl ?_
  refine XP_ifD rfl (fun (b1 : i < 0) => absurd b1 (by first | exact hi | exact fun z => z hi | exact Int32.not_le.mpr hi | exact Int32.not_lt.mpr (Int32.not_lt.mp hi) | omega)) (fun (b1 : 0 ≤ i) => ?_)
  have n1 := Int32.not_lt.mpr b1
  refine XP_n 1 (pc' := 3) (ls' := [.ref (87 + 2 * sn), .int (i), .int (n)]) (st' := [.int (n)]) (M' := (I, J, Rx R, N, G)) rfl ?_
  refine XP_ifD rfl (fun (b3 : n < 0) => ?_) (fun (b3 : 0 ≤ n) => absurd b3 (by first | exact hn | exact fun z => z hn | exact Int32.not_le.mpr hn | exact Int32.not_lt.mpr (Int32.not_lt.mp hn) | omega))
  have n3 := Int32.not_le.mpr b3
  refine XP_n 1 (pc' := 19) (ls' := [.ref (87 + 2 * sn), .int (i), .int (n)]) (st' := [.int (nI (0))]) (M' := (I, J, Rx R, N, G)) rfl ?_
  exact XP_ret rfl ⟨rfl, rfl⟩
theorem XP_acopy {Q : Option Value → hM → Prop} {pc k k0 n dp sp l l0 : Nat} {C : List Instr} {ls r : List Value} (hC : C.getD pc .nop = .checkcast 1) (hk : isA k 0 = true) (hk0 : isA k0 0 = true) (hl : alen N k = l) (hl0 : alen N k0 = l0) (h1 : sp + n ≤ l0) (h2 : dp + n ≤ l) (h3 : l ≤ 65536) (h4 : l0 ≤ 65536) (hr : Nat.ble (catS r) 8 = true)
    (kk : XP X d C (pc + 1) ls r (rwR I k (va_cpy (I k0) (I k) sp dp n), J, R, N, G) Q) : XP X d C pc ls (.int (nI n) :: .int (nI dp) :: .ref k :: .int (nI sp) :: .ref k0 :: r) (I, J, R, N, G) Q := by
  refine XP_s (M' := (rwR I k (va_cpy (I k0) (I k) sp dp n), J, R, N, G)) ?_ kk
  rw [hC]
  show (bif isA k 0 && isA k0 0 && inB (nI n) 65537 && inB (nI sp) 65537 && inB (nI dp) 65537 && Nat.ble ((nI sp).toNatClampNeg + (nI n).toNatClampNeg) (alen N k0) && Nat.ble ((nI dp).toNatClampNeg + (nI n).toNatClampNeg) (alen N k) && Nat.ble (catS r) 8 then some (pc + 1, ls, r, (rwR I k (va_cpy (I k0) (I k) (nI sp).toNatClampNeg (nI dp).toNatClampNeg (nI n).toNatClampNeg), J, R, N, G)) else none) = _
  rw [hk, hk0, inB_nI (by omega) (by omega), inB_nI (by omega) (by omega), inB_nI (by omega) (by omega), nI_clamp (by omega), nI_clamp (by omega), nI_clamp (by omega), hl, hl0, hr, Nat.ble_eq.mpr h1, Nat.ble_eq.mpr h2]
  rfl
end
theorem Wf_cell {s : Nat → Nat → Int32} (hW : Wf s) (a o n : Nat) (g : Nat → Int32) : Wf (blk s 122 o n g) := Wf_sh hW (fun k hk => blk_ro (by omega)) (fun i hi => hW.2.2.2.2.2.2.2.2.1 i hi)
theorem s_cell {s : Nat → Nat → Int32} (hW : Wf s) (hch : iN 0 1000000 (s 1 15)) (sh i v : Int32) : SetOk 20 n_H_cell n_M_cell [.int sh, .int i, .int v] s := by
  by_cases g0 : iv 0 3 sh
  rotate_left
  · skip
    refine ⟨cI (-2), s, hW, Up.rf hch, fun X d I J R N G hI => ?_, fun X d I J R N G hS => ?_⟩
    · have hL := hI.2.2.1
      unfold TP
      show XP X _ k_H_cell 0 [.ref (0), .int (sh), .int (i), .int (v), xj] [] _ _
      refine XP_n 2 (pc' := 2) (ls' := [.ref (0), .int (sh), .int (i), .int (v), xj]) (st' := [.int (sh), .ref (0)]) (M' := (I, J, Rx R, N, G)) rfl ?_
      refine XP_pure rfl rfl (c_sheetAtF g0) ?_
      refine XP_n 4 (pc' := 7) (ls' := [.ref (0), .int (sh), .int (i), .int (v), .null]) (st' := [.int (cI (-2))]) (M' := (I, J, Rx R, N, G)) rfl ?_
      exact XP_ret rfl ⟨rfl, _, rfl, hI.1.C, hI.2.2.1, hI.2.2.2.1, FrM.rf⟩
    · unfold TP
      show XP X _ k_M_cell 0 [.ref (99), .int (sh), .int (i), .int (v)] [] _ _
      refine XP_n 3 (pc' := 3) (ls' := [.ref (99), .int (sh), .int (i), .int (v)]) (st' := [.int (nI (3)), .int (nI (0)), .int (sh)]) (M' := (I, J, Rx R, N, G)) rfl ?_
      refine XP_pure rfl rfl (w_M X _ _ 0 3 _) ?_
      refine XP_s rfl ?_
      refine XP_bne (fun b4 => absurd b4 g0) (fun b4 => ?_)
      refine XP_n 1 (pc' := 6) (ls' := [.ref (99), .int (sh), .int (i), .int (v)]) (st' := [.int (cI (-2))]) (M' := (I, J, Rx R, N, G)) rfl ?_
      exact XP_ret rfl ⟨rfl, _, rfl, hS, FrC.rf⟩
  obtain ⟨sn, -, hsn, rfl, -⟩ := iv_nat g0 (by omega) (by omega)
  have hsn : sn < 4 := by omega
  have hsz0 := (hW.sz1 hsn).2
  by_cases g1 : ¬ s 120 sn = cI (-1)
  rotate_left
  · skip
    refine ⟨cI (-11), s, hW, Up.rf hch, fun X d I J R N G hI => ?_, fun X d I J R N G hS => ?_⟩
    · have hL := hI.2.2.1
      unfold TP
      show XP X _ k_H_cell 0 [.ref (0), .int (nI (sn)), .int (i), .int (v), xj] [] _ _
      refine XP_n 2 (pc' := 2) (ls' := [.ref (0), .int (nI (sn)), .int (i), .int (v), xj]) (st' := [.int (nI (sn)), .ref (0)]) (M' := (I, J, Rx R, N, G)) rfl ?_
      refine XP_pure rfl rfl (c_sheetAtT (show sn < 4 by omega)) ?_
      refine XP_n 4 (pc' := 9) (ls' := [.ref (0), .int (nI (sn)), .int (i), .int (v), .ref (87 + 2 * sn)]) (st' := [.ref (87 + 2 * sn)]) (M' := (I, J, Rx R, N, G)) rfl ?_
      refine XP_pure rfl (by show (isO (87 + 2 * sn) 8 || false) = true; rw [sh_o hsn]; rfl) (c_missT hI.1 hsn (Classical.not_not.mp g1)) ?_
      refine XP_ifN (x := 1)  rfl (by omega) (fun (b10 : 1 = 0) => absurd b10 (by omega)) (fun (b10 : ¬ 1 = 0) => ?_)
      refine XP_n 1 (pc' := 12) (ls' := [.ref (0), .int (nI (sn)), .int (i), .int (v), .ref (87 + 2 * sn)]) (st' := [.int (cI (-11))]) (M' := (I, J, Rx R, N, G)) rfl ?_
      exact XP_ret rfl ⟨rfl, _, rfl, hI.1.C, hI.2.2.1, hI.2.2.2.1, FrM.rf⟩
    · unfold TP
      show XP X _ k_M_cell 0 [.ref (99), .int (nI (sn)), .int (i), .int (v)] [] _ _
      refine XP_n 3 (pc' := 3) (ls' := [.ref (99), .int (nI (sn)), .int (i), .int (v)]) (st' := [.int (nI (3)), .int (nI (0)), .int (nI (sn))]) (M' := (I, J, Rx R, N, G)) rfl ?_
      refine XP_pure rfl rfl (w_M X _ _ 0 3 _) ?_
      refine XP_s rfl ?_
      refine XP_bne (fun b4 => ?_) (fun b4 => absurd g0 b4)
      refine XP_n 3 (pc' := 10) (ls' := [.ref (99), .int (nI (sn)), .int (i), .int (v)]) (st' := [.int (nI (sn)), .ref (120)]) (M' := (I, J, Rx R, N, G)) rfl ?_
      refine XP_ialdM hS rfl rfl (show sn < 4 by omega) rfl (by omega) rfl ?_
      refine XP_n 1 (pc' := 12) (ls' := [.ref (99), .int (nI (sn)), .int (i), .int (v)]) (st' := [.int (cI (-1)), .int (s 120 sn)]) (M' := (I, J, Rx R, N, G)) rfl ?_
      refine XP_icD rfl (fun (b12 : ¬ s 120 sn = cI (-1)) => absurd b12 (by first | exact (Classical.not_not.mp g1) | exact fun z => z (Classical.not_not.mp g1) | exact Int32.not_le.mpr (Classical.not_not.mp g1) | exact Int32.not_lt.mpr (Int32.not_lt.mp (Classical.not_not.mp g1)) | omega)) (fun (b12 : s 120 sn = cI (-1)) => ?_)
      refine XP_n 1 (pc' := 14) (ls' := [.ref (99), .int (nI (sn)), .int (i), .int (v)]) (st' := [.int (cI (-11))]) (M' := (I, J, Rx R, N, G)) rfl ?_
      exact XP_ret rfl ⟨rfl, _, rfl, hS, FrC.rf⟩
  by_cases g2 : inN i (sz s sn)
  rotate_left
  · skip
    refine ⟨cI (-12), s, hW, Up.rf hch, fun X d I J R N G hI => ?_, fun X d I J R N G hS => ?_⟩
    · have hL := hI.2.2.1
      unfold TP
      show XP X _ k_H_cell 0 [.ref (0), .int (nI (sn)), .int (i), .int (v), xj] [] _ _
      refine XP_n 2 (pc' := 2) (ls' := [.ref (0), .int (nI (sn)), .int (i), .int (v), xj]) (st' := [.int (nI (sn)), .ref (0)]) (M' := (I, J, Rx R, N, G)) rfl ?_
      refine XP_pure rfl rfl (c_sheetAtT (show sn < 4 by omega)) ?_
      refine XP_n 4 (pc' := 9) (ls' := [.ref (0), .int (nI (sn)), .int (i), .int (v), .ref (87 + 2 * sn)]) (st' := [.ref (87 + 2 * sn)]) (M' := (I, J, Rx R, N, G)) rfl ?_
      refine XP_pure rfl (by show (isO (87 + 2 * sn) 8 || false) = true; rw [sh_o hsn]; rfl) (c_missF hI.1 hsn g1) ?_
      refine XP_ifN (x := 0)  rfl (by omega) (fun (b10 : 0 = 0) => ?_) (fun (b10 : ¬ 0 = 0) => absurd b10 (by omega))
      refine XP_n 3 (pc' := 16) (ls' := [.ref (0), .int (nI (sn)), .int (i), .int (v), .ref (87 + 2 * sn)]) (st' := [.int (v), .int (i), .ref (87 + 2 * sn)]) (M' := (I, J, Rx R, N, G)) rfl ?_
      refine XP_pure rfl (by show (isO (87 + 2 * sn) 8 || false) = true; rw [sh_o hsn]; rfl) (c_shputF hI.1 hW hsn g2 _) ?_
      refine XP_ifN (x := 0)  rfl (by omega) (fun (b17 : 0 = 0) => ?_) (fun (b17 : ¬ 0 = 0) => absurd b17 (by omega))
      refine XP_n 1 (pc' := 21) (ls' := [.ref (0), .int (nI (sn)), .int (i), .int (v), .ref (87 + 2 * sn)]) (st' := [.int (cI (-12))]) (M' := (I, J, Rx R, N, G)) rfl ?_
      exact XP_ret rfl ⟨rfl, _, rfl, hI.1.C, hI.2.2.1, hI.2.2.2.1, FrM.rf⟩
    · unfold TP
      show XP X _ k_M_cell 0 [.ref (99), .int (nI (sn)), .int (i), .int (v)] [] _ _
      refine XP_n 3 (pc' := 3) (ls' := [.ref (99), .int (nI (sn)), .int (i), .int (v)]) (st' := [.int (nI (3)), .int (nI (0)), .int (nI (sn))]) (M' := (I, J, Rx R, N, G)) rfl ?_
      refine XP_pure rfl rfl (w_M X _ _ 0 3 _) ?_
      refine XP_s rfl ?_
      refine XP_bne (fun b4 => ?_) (fun b4 => absurd g0 b4)
      refine XP_n 3 (pc' := 10) (ls' := [.ref (99), .int (nI (sn)), .int (i), .int (v)]) (st' := [.int (nI (sn)), .ref (120)]) (M' := (I, J, Rx R, N, G)) rfl ?_
      refine XP_ialdM hS rfl rfl (show sn < 4 by omega) rfl (by omega) rfl ?_
      refine XP_n 1 (pc' := 12) (ls' := [.ref (99), .int (nI (sn)), .int (i), .int (v)]) (st' := [.int (cI (-1)), .int (s 120 sn)]) (M' := (I, J, Rx R, N, G)) rfl ?_
      refine XP_icD rfl (fun (b12 : ¬ s 120 sn = cI (-1)) => ?_) (fun (b12 : s 120 sn = cI (-1)) => absurd b12 (by first | exact g1 | exact fun z => z g1 | exact Int32.not_le.mpr g1 | exact Int32.not_lt.mpr (Int32.not_lt.mp g1) | omega))
      refine XP_n 5 (pc' := 20) (ls' := [.ref (99), .int (nI (sn)), .int (i), .int (v)]) (st' := [.int (nI (sn)), .ref (121), .int (nI (0)), .int (i)]) (M' := (I, J, Rx R, N, G)) rfl ?_
      refine XP_ialdM hS rfl rfl (show sn < 4 by omega) rfl (by omega) rfl ?_
      rw [(hW.sz1 hsn).1]
      refine XP_n 2 (pc' := 23) (ls' := [.ref (99), .int (nI (sn)), .int (i), .int (v)]) (st' := [.int ((nI (sz s sn)) - (nI (1))), .int (nI (0)), .int (i)]) (M' := (I, J, Rx R, N, G)) rfl ?_
      refine XP_pure rfl rfl (t_M_in X _ _ (nI 0) (nI (sz s sn) - nI 1) _) ?_
      rw [show b2i (nI 0 ≤ i ∧ i ≤ nI (sz s sn) - nI 1) = b2i (inN (i) (sz s sn)) from b2i_congr (in_n (by omega))]
      refine XP_s rfl ?_
      refine XP_bne (fun b24 => absurd b24 g2) (fun b24 => ?_)
      refine XP_n 1 (pc' := 26) (ls' := [.ref (99), .int (nI (sn)), .int (i), .int (v)]) (st' := [.int (cI (-12))]) (M' := (I, J, Rx R, N, G)) rfl ?_
      exact XP_ret rfl ⟨rfl, _, rfl, hS, FrC.rf⟩
  obtain ⟨j, hj, rfl, -⟩ := inN_nat g2 (by omega)
  obtain ⟨t, -, ht2, ht⟩ : iN 0 2 (s 120 sn) := by
    rcases (hW.2.2.2.2.2.2.2.2.1 sn hsn).1 with z | z
    · exact absurd z g1
    · exact z
  have hx : t = 0 ∨ t = 1 ∨ t = 2 := by omega
  clear ht2
  have ag : ∀ x : Int32, Agr s (rw2 s 122 (40 * sn + j) x) ∧ AgrL s (rw2 s 122 (40 * sn + j) x) := fun x => agr_sh (fun k hk => rw2_ro (by omega))
  rcases hx with rfl | rfl | rfl
  · skip
    refine ⟨nI 1, (rw2 s 122 (40 * sn + j) (v.toInt8.toInt32)), Wf_sh hW (fun k hk => rw2_ro (by omega)) (fun i hi => hW.2.2.2.2.2.2.2.2.1 i hi), Up.rf hch, fun X d I J R N G hI => ?_, fun X d I J R N G hS => ?_⟩
    · have hL := hI.2.2.1
      unfold TP
      show XP X _ k_H_cell 0 [.ref (0), .int (nI (sn)), .int (nI (j)), .int (v), xj] [] _ _
      refine XP_n 2 (pc' := 2) (ls' := [.ref (0), .int (nI (sn)), .int (nI (j)), .int (v), xj]) (st' := [.int (nI (sn)), .ref (0)]) (M' := (I, J, Rx R, N, G)) rfl ?_
      refine XP_pure rfl rfl (c_sheetAtT (show sn < 4 by omega)) ?_
      refine XP_n 4 (pc' := 9) (ls' := [.ref (0), .int (nI (sn)), .int (nI (j)), .int (v), .ref (87 + 2 * sn)]) (st' := [.ref (87 + 2 * sn)]) (M' := (I, J, Rx R, N, G)) rfl ?_
      refine XP_pure rfl (by show (isO (87 + 2 * sn) 8 || false) = true; rw [sh_o hsn]; rfl) (c_missF hI.1 hsn g1) ?_
      refine XP_ifN (x := 0)  rfl (by omega) (fun (b10 : 0 = 0) => ?_) (fun (b10 : ¬ 0 = 0) => absurd b10 (by omega))
      refine XP_n 3 (pc' := 16) (ls' := [.ref (0), .int (nI (sn)), .int (nI (j)), .int (v), .ref (87 + 2 * sn)]) (st' := [.int (v), .int (nI (j)), .ref (87 + 2 * sn)]) (M' := (I, J, Rx R, N, G)) rfl ?_
      refine XP_call rfl (by show (isO (87 + 2 * sn) 8 || false) = true; rw [sh_o hsn]; rfl) (c_shput0 hI.1 hW hsn hj ht _) ?_
      rintro v1 M1 ⟨rfl, rfl⟩
      refine XP_ifN (x := 1)  rfl (by omega) (fun (b17 : 1 = 0) => absurd b17 (by omega)) (fun (b17 : ¬ 1 = 0) => ?_)
      refine XP_n 2 (pc' := 21) (ls' := [.ref (0), .int (nI (sn)), .int (nI (j)), .int (v), .ref (87 + 2 * sn)]) (st' := [.int (nI (1))]) (M' := ((rw2 I (88 + 2 * sn) j (v.toInt8.toInt32)), J, Rx R, N, G)) rfl ?_
      exact XP_ret rfl ⟨rfl, _, rfl, StC_w hI.1.C (mpC_sh hsn (show j < 40 by omega)), agrl_Lk (ag _).2 hI.2.2.1, agr_Cch (ag _).1 (Cch.w hI.2.2.2.1 hW.p.2 (by omega)), FrM.w FrM.rf (isC_s (by omega))⟩
    · unfold TP
      show XP X _ k_M_cell 0 [.ref (99), .int (nI (sn)), .int (nI (j)), .int (v)] [] _ _
      refine XP_n 3 (pc' := 3) (ls' := [.ref (99), .int (nI (sn)), .int (nI (j)), .int (v)]) (st' := [.int (nI (3)), .int (nI (0)), .int (nI (sn))]) (M' := (I, J, Rx R, N, G)) rfl ?_
      refine XP_pure rfl rfl (w_M X _ _ 0 3 _) ?_
      refine XP_s rfl ?_
      refine XP_bne (fun b4 => ?_) (fun b4 => absurd g0 b4)
      refine XP_n 3 (pc' := 10) (ls' := [.ref (99), .int (nI (sn)), .int (nI (j)), .int (v)]) (st' := [.int (nI (sn)), .ref (120)]) (M' := (I, J, Rx R, N, G)) rfl ?_
      refine XP_ialdM hS rfl rfl (show sn < 4 by omega) rfl (by omega) rfl ?_
      rw [ht]
      refine XP_n 1 (pc' := 12) (ls' := [.ref (99), .int (nI (sn)), .int (nI (j)), .int (v)]) (st' := [.int (cI (-1)), .int (nI (0))]) (M' := (I, J, Rx R, N, G)) rfl ?_
      refine XP_icD rfl (fun (b12 : ¬ nI (0) = cI (-1)) => ?_) (fun (b12 : nI (0) = cI (-1)) => absurd b12 (by decide))
      refine XP_n 5 (pc' := 20) (ls' := [.ref (99), .int (nI (sn)), .int (nI (j)), .int (v)]) (st' := [.int (nI (sn)), .ref (121), .int (nI (0)), .int (nI (j))]) (M' := (I, J, Rx R, N, G)) rfl ?_
      refine XP_ialdM hS rfl rfl (show sn < 4 by omega) rfl (by omega) rfl ?_
      rw [(hW.sz1 hsn).1]
      refine XP_n 2 (pc' := 23) (ls' := [.ref (99), .int (nI (sn)), .int (nI (j)), .int (v)]) (st' := [.int ((nI (sz s sn)) - (nI (1))), .int (nI (0)), .int (nI (j))]) (M' := (I, J, Rx R, N, G)) rfl ?_
      refine XP_pure rfl rfl (t_M_in X _ _ (nI 0) (nI (sz s sn) - nI 1) _) ?_
      rw [show b2i (nI 0 ≤ nI (j) ∧ nI (j) ≤ nI (sz s sn) - nI 1) = b2i (inN (nI (j)) (sz s sn)) from b2i_congr (in_n (by omega))]
      refine XP_s rfl ?_
      refine XP_bne (fun b24 => ?_) (fun b24 => absurd g2 b24)
      refine XP_n 10 (pc' := 37) (ls' := [.ref (99), .int (nI (sn)), .int (nI (j)), .int (v)]) (st' := [.int (nI (sn)), .ref (120), .int (((nI (40)) * (nI (sn))) + (nI (j))), .ref (122)]) (M' := (I, J, Rx R, N, G)) rfl ?_
      rw [show ((nI (40)) * (nI (sn))) + (nI (j)) = nI ((40) * (sn) + j) from nI_addE (nI_mulE (rfl) (rfl)) (rfl)]
      refine XP_ialdM hS rfl rfl (show sn < 4 by omega) rfl (by omega) rfl ?_
      rw [ht]
      refine XP_ifN (x := 0)  rfl (by omega) (fun (b38 : ¬ 0 = 0) => absurd b38 (by omega)) (fun (b38 : 0 = 0) => ?_)
      refine XP_n 3 (pc' := 52) (ls' := [.ref (99), .int (nI (sn)), .int (nI (j)), .int (v)]) (st' := [.int ((v).toInt8.toInt32), .int (nI ((40) * (sn) + j)), .ref (122)]) (M' := (I, J, Rx R, N, G)) rfl ?_
      refine XP_iast rfl rfl (show (40) * (sn) + j < 160 by omega) rfl (by omega) ?_
      refine XP_n 1 (pc' := 54) (ls' := [.ref (99), .int (nI (sn)), .int (nI (j)), .int (v)]) (st' := [.int (nI (1))]) (M' := ((rw2 I 122 ((40) * (sn) + j) ((v).toInt8.toInt32)), J, Rx R, N, G)) rfl ?_
      exact XP_ret rfl ⟨rfl, _, rfl, (StM_w hS rfl), (FrC.w FrC.rf rfl)⟩
  · skip
    refine ⟨nI 1, (rw2 s 122 (40 * sn + j) (v.toInt16.toInt32)), Wf_sh hW (fun k hk => rw2_ro (by omega)) (fun i hi => hW.2.2.2.2.2.2.2.2.1 i hi), Up.rf hch, fun X d I J R N G hI => ?_, fun X d I J R N G hS => ?_⟩
    · have hL := hI.2.2.1
      unfold TP
      show XP X _ k_H_cell 0 [.ref (0), .int (nI (sn)), .int (nI (j)), .int (v), xj] [] _ _
      refine XP_n 2 (pc' := 2) (ls' := [.ref (0), .int (nI (sn)), .int (nI (j)), .int (v), xj]) (st' := [.int (nI (sn)), .ref (0)]) (M' := (I, J, Rx R, N, G)) rfl ?_
      refine XP_pure rfl rfl (c_sheetAtT (show sn < 4 by omega)) ?_
      refine XP_n 4 (pc' := 9) (ls' := [.ref (0), .int (nI (sn)), .int (nI (j)), .int (v), .ref (87 + 2 * sn)]) (st' := [.ref (87 + 2 * sn)]) (M' := (I, J, Rx R, N, G)) rfl ?_
      refine XP_pure rfl (by show (isO (87 + 2 * sn) 8 || false) = true; rw [sh_o hsn]; rfl) (c_missF hI.1 hsn g1) ?_
      refine XP_ifN (x := 0)  rfl (by omega) (fun (b10 : 0 = 0) => ?_) (fun (b10 : ¬ 0 = 0) => absurd b10 (by omega))
      refine XP_n 3 (pc' := 16) (ls' := [.ref (0), .int (nI (sn)), .int (nI (j)), .int (v), .ref (87 + 2 * sn)]) (st' := [.int (v), .int (nI (j)), .ref (87 + 2 * sn)]) (M' := (I, J, Rx R, N, G)) rfl ?_
      refine XP_call rfl (by show (isO (87 + 2 * sn) 8 || false) = true; rw [sh_o hsn]; rfl) (c_shput1 hI.1 hW hsn hj ht _) ?_
      rintro v1 M1 ⟨rfl, rfl⟩
      refine XP_ifN (x := 1)  rfl (by omega) (fun (b17 : 1 = 0) => absurd b17 (by omega)) (fun (b17 : ¬ 1 = 0) => ?_)
      refine XP_n 2 (pc' := 21) (ls' := [.ref (0), .int (nI (sn)), .int (nI (j)), .int (v), .ref (87 + 2 * sn)]) (st' := [.int (nI (1))]) (M' := ((rw2 I (88 + 2 * sn) j (v.toInt16.toInt32)), J, Rx R, N, G)) rfl ?_
      exact XP_ret rfl ⟨rfl, _, rfl, StC_w hI.1.C (mpC_sh hsn (show j < 40 by omega)), agrl_Lk (ag _).2 hI.2.2.1, agr_Cch (ag _).1 (Cch.w hI.2.2.2.1 hW.p.2 (by omega)), FrM.w FrM.rf (isC_s (by omega))⟩
    · unfold TP
      show XP X _ k_M_cell 0 [.ref (99), .int (nI (sn)), .int (nI (j)), .int (v)] [] _ _
      refine XP_n 3 (pc' := 3) (ls' := [.ref (99), .int (nI (sn)), .int (nI (j)), .int (v)]) (st' := [.int (nI (3)), .int (nI (0)), .int (nI (sn))]) (M' := (I, J, Rx R, N, G)) rfl ?_
      refine XP_pure rfl rfl (w_M X _ _ 0 3 _) ?_
      refine XP_s rfl ?_
      refine XP_bne (fun b4 => ?_) (fun b4 => absurd g0 b4)
      refine XP_n 3 (pc' := 10) (ls' := [.ref (99), .int (nI (sn)), .int (nI (j)), .int (v)]) (st' := [.int (nI (sn)), .ref (120)]) (M' := (I, J, Rx R, N, G)) rfl ?_
      refine XP_ialdM hS rfl rfl (show sn < 4 by omega) rfl (by omega) rfl ?_
      rw [ht]
      refine XP_n 1 (pc' := 12) (ls' := [.ref (99), .int (nI (sn)), .int (nI (j)), .int (v)]) (st' := [.int (cI (-1)), .int (nI (1))]) (M' := (I, J, Rx R, N, G)) rfl ?_
      refine XP_icD rfl (fun (b12 : ¬ nI (1) = cI (-1)) => ?_) (fun (b12 : nI (1) = cI (-1)) => absurd b12 (by decide))
      refine XP_n 5 (pc' := 20) (ls' := [.ref (99), .int (nI (sn)), .int (nI (j)), .int (v)]) (st' := [.int (nI (sn)), .ref (121), .int (nI (0)), .int (nI (j))]) (M' := (I, J, Rx R, N, G)) rfl ?_
      refine XP_ialdM hS rfl rfl (show sn < 4 by omega) rfl (by omega) rfl ?_
      rw [(hW.sz1 hsn).1]
      refine XP_n 2 (pc' := 23) (ls' := [.ref (99), .int (nI (sn)), .int (nI (j)), .int (v)]) (st' := [.int ((nI (sz s sn)) - (nI (1))), .int (nI (0)), .int (nI (j))]) (M' := (I, J, Rx R, N, G)) rfl ?_
      refine XP_pure rfl rfl (t_M_in X _ _ (nI 0) (nI (sz s sn) - nI 1) _) ?_
      rw [show b2i (nI 0 ≤ nI (j) ∧ nI (j) ≤ nI (sz s sn) - nI 1) = b2i (inN (nI (j)) (sz s sn)) from b2i_congr (in_n (by omega))]
      refine XP_s rfl ?_
      refine XP_bne (fun b24 => ?_) (fun b24 => absurd g2 b24)
      refine XP_n 10 (pc' := 37) (ls' := [.ref (99), .int (nI (sn)), .int (nI (j)), .int (v)]) (st' := [.int (nI (sn)), .ref (120), .int (((nI (40)) * (nI (sn))) + (nI (j))), .ref (122)]) (M' := (I, J, Rx R, N, G)) rfl ?_
      rw [show ((nI (40)) * (nI (sn))) + (nI (j)) = nI ((40) * (sn) + j) from nI_addE (nI_mulE (rfl) (rfl)) (rfl)]
      refine XP_ialdM hS rfl rfl (show sn < 4 by omega) rfl (by omega) rfl ?_
      rw [ht]
      refine XP_ifN (x := 1)  rfl (by omega) (fun (b38 : ¬ 1 = 0) => ?_) (fun (b38 : 1 = 0) => absurd b38 (by omega))
      refine XP_n 3 (pc' := 45) (ls' := [.ref (99), .int (nI (sn)), .int (nI (j)), .int (v)]) (st' := [.int (nI (sn)), .ref (120), .int (nI ((40) * (sn) + j)), .ref (122)]) (M' := (I, J, Rx R, N, G)) rfl ?_
      refine XP_ialdM hS rfl rfl (show sn < 4 by omega) rfl (by omega) rfl ?_
      rw [ht]
      refine XP_n 1 (pc' := 47) (ls' := [.ref (99), .int (nI (sn)), .int (nI (j)), .int (v)]) (st' := [.int (nI (1)), .int (nI (1)), .int (nI ((40) * (sn) + j)), .ref (122)]) (M' := (I, J, Rx R, N, G)) rfl ?_
      refine XP_icN (x := 1) (y := 1) rfl (by omega) (by omega) (fun (b47 : ¬ 1 = 1) => absurd b47 (by omega)) (fun (b47 : 1 = 1) => ?_)
      refine XP_n 3 (pc' := 52) (ls' := [.ref (99), .int (nI (sn)), .int (nI (j)), .int (v)]) (st' := [.int ((v).toInt16.toInt32), .int (nI ((40) * (sn) + j)), .ref (122)]) (M' := (I, J, Rx R, N, G)) rfl ?_
      refine XP_iast rfl rfl (show (40) * (sn) + j < 160 by omega) rfl (by omega) ?_
      refine XP_n 1 (pc' := 54) (ls' := [.ref (99), .int (nI (sn)), .int (nI (j)), .int (v)]) (st' := [.int (nI (1))]) (M' := ((rw2 I 122 ((40) * (sn) + j) ((v).toInt16.toInt32)), J, Rx R, N, G)) rfl ?_
      exact XP_ret rfl ⟨rfl, _, rfl, (StM_w hS rfl), (FrC.w FrC.rf rfl)⟩
  · skip
    refine ⟨nI 1, (rw2 s 122 (40 * sn + j) (v)), Wf_sh hW (fun k hk => rw2_ro (by omega)) (fun i hi => hW.2.2.2.2.2.2.2.2.1 i hi), Up.rf hch, fun X d I J R N G hI => ?_, fun X d I J R N G hS => ?_⟩
    · have hL := hI.2.2.1
      unfold TP
      show XP X _ k_H_cell 0 [.ref (0), .int (nI (sn)), .int (nI (j)), .int (v), xj] [] _ _
      refine XP_n 2 (pc' := 2) (ls' := [.ref (0), .int (nI (sn)), .int (nI (j)), .int (v), xj]) (st' := [.int (nI (sn)), .ref (0)]) (M' := (I, J, Rx R, N, G)) rfl ?_
      refine XP_pure rfl rfl (c_sheetAtT (show sn < 4 by omega)) ?_
      refine XP_n 4 (pc' := 9) (ls' := [.ref (0), .int (nI (sn)), .int (nI (j)), .int (v), .ref (87 + 2 * sn)]) (st' := [.ref (87 + 2 * sn)]) (M' := (I, J, Rx R, N, G)) rfl ?_
      refine XP_pure rfl (by show (isO (87 + 2 * sn) 8 || false) = true; rw [sh_o hsn]; rfl) (c_missF hI.1 hsn g1) ?_
      refine XP_ifN (x := 0)  rfl (by omega) (fun (b10 : 0 = 0) => ?_) (fun (b10 : ¬ 0 = 0) => absurd b10 (by omega))
      refine XP_n 3 (pc' := 16) (ls' := [.ref (0), .int (nI (sn)), .int (nI (j)), .int (v), .ref (87 + 2 * sn)]) (st' := [.int (v), .int (nI (j)), .ref (87 + 2 * sn)]) (M' := (I, J, Rx R, N, G)) rfl ?_
      refine XP_call rfl (by show (isO (87 + 2 * sn) 8 || false) = true; rw [sh_o hsn]; rfl) (c_shput2 hI.1 hW hsn hj ht _) ?_
      rintro v1 M1 ⟨rfl, rfl⟩
      refine XP_ifN (x := 1)  rfl (by omega) (fun (b17 : 1 = 0) => absurd b17 (by omega)) (fun (b17 : ¬ 1 = 0) => ?_)
      refine XP_n 2 (pc' := 21) (ls' := [.ref (0), .int (nI (sn)), .int (nI (j)), .int (v), .ref (87 + 2 * sn)]) (st' := [.int (nI (1))]) (M' := ((rw2 I (88 + 2 * sn) j (v)), J, Rx R, N, G)) rfl ?_
      exact XP_ret rfl ⟨rfl, _, rfl, StC_w hI.1.C (mpC_sh hsn (show j < 40 by omega)), agrl_Lk (ag _).2 hI.2.2.1, agr_Cch (ag _).1 (Cch.w hI.2.2.2.1 hW.p.2 (by omega)), FrM.w FrM.rf (isC_s (by omega))⟩
    · unfold TP
      show XP X _ k_M_cell 0 [.ref (99), .int (nI (sn)), .int (nI (j)), .int (v)] [] _ _
      refine XP_n 3 (pc' := 3) (ls' := [.ref (99), .int (nI (sn)), .int (nI (j)), .int (v)]) (st' := [.int (nI (3)), .int (nI (0)), .int (nI (sn))]) (M' := (I, J, Rx R, N, G)) rfl ?_
      refine XP_pure rfl rfl (w_M X _ _ 0 3 _) ?_
      refine XP_s rfl ?_
      refine XP_bne (fun b4 => ?_) (fun b4 => absurd g0 b4)
      refine XP_n 3 (pc' := 10) (ls' := [.ref (99), .int (nI (sn)), .int (nI (j)), .int (v)]) (st' := [.int (nI (sn)), .ref (120)]) (M' := (I, J, Rx R, N, G)) rfl ?_
      refine XP_ialdM hS rfl rfl (show sn < 4 by omega) rfl (by omega) rfl ?_
      rw [ht]
      refine XP_n 1 (pc' := 12) (ls' := [.ref (99), .int (nI (sn)), .int (nI (j)), .int (v)]) (st' := [.int (cI (-1)), .int (nI (2))]) (M' := (I, J, Rx R, N, G)) rfl ?_
      refine XP_icD rfl (fun (b12 : ¬ nI (2) = cI (-1)) => ?_) (fun (b12 : nI (2) = cI (-1)) => absurd b12 (by decide))
      refine XP_n 5 (pc' := 20) (ls' := [.ref (99), .int (nI (sn)), .int (nI (j)), .int (v)]) (st' := [.int (nI (sn)), .ref (121), .int (nI (0)), .int (nI (j))]) (M' := (I, J, Rx R, N, G)) rfl ?_
      refine XP_ialdM hS rfl rfl (show sn < 4 by omega) rfl (by omega) rfl ?_
      rw [(hW.sz1 hsn).1]
      refine XP_n 2 (pc' := 23) (ls' := [.ref (99), .int (nI (sn)), .int (nI (j)), .int (v)]) (st' := [.int ((nI (sz s sn)) - (nI (1))), .int (nI (0)), .int (nI (j))]) (M' := (I, J, Rx R, N, G)) rfl ?_
      refine XP_pure rfl rfl (t_M_in X _ _ (nI 0) (nI (sz s sn) - nI 1) _) ?_
      rw [show b2i (nI 0 ≤ nI (j) ∧ nI (j) ≤ nI (sz s sn) - nI 1) = b2i (inN (nI (j)) (sz s sn)) from b2i_congr (in_n (by omega))]
      refine XP_s rfl ?_
      refine XP_bne (fun b24 => ?_) (fun b24 => absurd g2 b24)
      refine XP_n 10 (pc' := 37) (ls' := [.ref (99), .int (nI (sn)), .int (nI (j)), .int (v)]) (st' := [.int (nI (sn)), .ref (120), .int (((nI (40)) * (nI (sn))) + (nI (j))), .ref (122)]) (M' := (I, J, Rx R, N, G)) rfl ?_
      rw [show ((nI (40)) * (nI (sn))) + (nI (j)) = nI ((40) * (sn) + j) from nI_addE (nI_mulE (rfl) (rfl)) (rfl)]
      refine XP_ialdM hS rfl rfl (show sn < 4 by omega) rfl (by omega) rfl ?_
      rw [ht]
      refine XP_ifN (x := 2)  rfl (by omega) (fun (b38 : ¬ 2 = 0) => ?_) (fun (b38 : 2 = 0) => absurd b38 (by omega))
      refine XP_n 3 (pc' := 45) (ls' := [.ref (99), .int (nI (sn)), .int (nI (j)), .int (v)]) (st' := [.int (nI (sn)), .ref (120), .int (nI ((40) * (sn) + j)), .ref (122)]) (M' := (I, J, Rx R, N, G)) rfl ?_
      refine XP_ialdM hS rfl rfl (show sn < 4 by omega) rfl (by omega) rfl ?_
      rw [ht]
      refine XP_n 1 (pc' := 47) (ls' := [.ref (99), .int (nI (sn)), .int (nI (j)), .int (v)]) (st' := [.int (nI (1)), .int (nI (2)), .int (nI ((40) * (sn) + j)), .ref (122)]) (M' := (I, J, Rx R, N, G)) rfl ?_
      refine XP_icN (x := 2) (y := 1) rfl (by omega) (by omega) (fun (b47 : ¬ 2 = 1) => ?_) (fun (b47 : 2 = 1) => absurd b47 (by omega))
      refine XP_n 1 (pc' := 52) (ls' := [.ref (99), .int (nI (sn)), .int (nI (j)), .int (v)]) (st' := [.int (v), .int (nI ((40) * (sn) + j)), .ref (122)]) (M' := (I, J, Rx R, N, G)) rfl ?_
      refine XP_iast rfl rfl (show (40) * (sn) + j < 160 by omega) rfl (by omega) ?_
      refine XP_n 1 (pc' := 54) (ls' := [.ref (99), .int (nI (sn)), .int (nI (j)), .int (v)]) (st' := [.int (nI (1))]) (M' := ((rw2 I 122 ((40) * (sn) + j) (v)), J, Rx R, N, G)) rfl ?_
      exact XP_ret rfl ⟨rfl, _, rfl, (StM_w hS rfl), (FrC.w FrC.rf rfl)⟩
section
variable {X : hX} {d : Nat} {s I : Nat → Nat → Int32} {J : Nat → Nat → Int64} {R : Nat → Nat → Option Nat} {N : Nat → Nat} {G : hG}
/-- the row while it is copied: x counts what has been copied, from the end if up -/
def cpyS (f : Nat → Int32) (A B n x : Nat) : Nat → Int32 := fun y => if A < B then (if B + (n - x) ≤ y ∧ y < B + n then f (A + (y - B)) else f y) else (if B ≤ y ∧ y < B + x then f (A + (y - B)) else f y)
theorem l_M_cp {a i b j n A B : Nat} (hA : A + n ≤ 160) (hB : B + n ≤ 160) {Q : Option Value → hM → Prop} (kk : ∀ (I1 : Nat → Nat → Int32), (∀ k, k ≠ 122 → I1 k = I k) → (∀ y, I1 122 y = cpyS (I 122) A B n n y) → Q (some (.int (nI n))) (I1, J, Rx R, N, G)) : ∀ (m x : Nat) (I1 : Nat → Nat → Int32) (w9 : Value), x + m = n → (∀ k, k ≠ 122 → I1 k = I k) → (∀ y, I1 122 y = cpyS (I 122) A B n x y) → XP X d k_M_copy 87 [.ref 99, .int (nI a), .int (nI i), .int (nI b), .int (nI j), .int (nI n), .int (nI A), .int (nI B), .int (nI x), w9] [] (I1, J, Rx R, N, G) Q := by
  intro m
  induction m with
  | zero =>
    rintro x I1 w9 hx h1 h2
    obtain rfl : x = n := by omega
    refine XP_n 2 (pc' := 89) (ls' := [.ref (99), .int (nI (a)), .int (nI (i)), .int (nI (b)), .int (nI (j)), .int (nI (x)), .int (nI (A)), .int (nI (B)), .int (nI (x)), w9]) (st' := [.int (nI (x)), .int (nI (x))]) (M' := (I1, J, Rx R, N, G)) rfl ?_
    refine XP_icN (x := x) (y := x) rfl (by omega) (by omega) (fun (b89 : x ≤ x) => ?_) (fun (b89 : x < x) => absurd b89 (by omega))
    refine XP_n 1 (pc' := 116) (ls' := [.ref (99), .int (nI (a)), .int (nI (i)), .int (nI (b)), .int (nI (j)), .int (nI (x)), .int (nI (A)), .int (nI (B)), .int (nI (x)), w9]) (st' := [.int (nI (x))]) (M' := (I1, J, Rx R, N, G)) rfl ?_
    exact XP_ret rfl (kk _ h1 h2)
  | succ m ih =>
    rintro x I1 w9 hx h1 h2
    by_cases e : A < B
    · refine XP_n 2 (pc' := 89) (ls' := [.ref (99), .int (nI (a)), .int (nI (i)), .int (nI (b)), .int (nI (j)), .int (nI (n)), .int (nI (A)), .int (nI (B)), .int (nI (x)), w9]) (st' := [.int (nI (n)), .int (nI (x))]) (M' := (I1, J, Rx R, N, G)) rfl ?_
      refine XP_icN (x := x) (y := n) rfl (by omega) (by omega) (fun (b89 : n ≤ x) => absurd b89 (by omega)) (fun (b89 : x < n) => ?_)
      refine XP_n 2 (pc' := 92) (ls' := [.ref (99), .int (nI (a)), .int (nI (i)), .int (nI (b)), .int (nI (j)), .int (nI (n)), .int (nI (A)), .int (nI (B)), .int (nI (x)), w9]) (st' := [.int (nI (B)), .int (nI (A))]) (M' := (I1, J, Rx R, N, G)) rfl ?_
      refine XP_icN (x := A) (y := B) rfl (by omega) (by omega) (fun (b92 : B ≤ A) => absurd b92 (by omega)) (fun (b92 : A < B) => ?_)
      refine XP_n 7 (pc' := 101) (ls' := [.ref (99), .int (nI (a)), .int (nI (i)), .int (nI (b)), .int (nI (j)), .int (nI (n)), .int (nI (A)), .int (nI (B)), .int (nI (x)), .int (((nI (n)) - (nI (1))) - (nI (x)))]) (st' := []) (M' := (I1, J, Rx R, N, G)) rfl ?_
      rw [show ((nI (n)) - (nI (1))) - (nI (x)) = nI (n - 1 - x) from nI_subE (nI_subE (rfl) (rfl) (by omega)) (rfl) (by omega)]
      refine XP_n 10 (pc' := 111) (ls' := [.ref (99), .int (nI (a)), .int (nI (i)), .int (nI (b)), .int (nI (j)), .int (nI (n)), .int (nI (A)), .int (nI (B)), .int (nI (x)), .int (nI (n - 1 - x))]) (st' := [.int ((nI (A)) + (nI (n - 1 - x))), .ref (122), .int ((nI (B)) + (nI (n - 1 - x))), .ref (122)]) (M' := (I1, J, Rx R, N, G)) rfl ?_
      rw [show (nI (A)) + (nI (n - 1 - x)) = nI (A + (n - 1 - x)) from nI_addE (rfl) (rfl)]
      rw [show (nI (B)) + (nI (n - 1 - x)) = nI (B + (n - 1 - x)) from nI_addE (rfl) (rfl)]
      refine XP_iraw rfl rfl (show A + (n - 1 - x) < 160 by omega) rfl (by omega) ?_
      refine XP_iast rfl rfl (show B + (n - 1 - x) < 160 by omega) rfl (by omega) ?_
      refine XP_n 1 (pc' := 114) (ls' := [.ref (99), .int (nI (a)), .int (nI (i)), .int (nI (b)), .int (nI (j)), .int (nI (n)), .int (nI (A)), .int (nI (B)), .int (nI (x) + nI (1)), .int (nI (n - 1 - x))]) (st' := []) (M' := ((rw2 I1 122 (B + (n - 1 - x)) (I1 122 (A + (n - 1 - x)))), J, Rx R, N, G)) rfl ?_
      rw [show nI (x) + nI (1) = nI (x + 1) from nI_addE (rfl) rfl]
      refine XP_n 1 (pc' := 87) (ls' := [.ref (99), .int (nI (a)), .int (nI (i)), .int (nI (b)), .int (nI (j)), .int (nI (n)), .int (nI (A)), .int (nI (B)), .int (nI (x + 1)), .int (nI (n - 1 - x))]) (st' := []) (M' := ((rw2 I1 122 (B + (n - 1 - x)) (I1 122 (A + (n - 1 - x)))), J, Rx R, N, G)) rfl ?_
      refine ih (x + 1) _ _ (by omega) (fun k hk => (rw2_ro hk).trans (h1 k hk)) (fun y => ?_)
      have e4 : I1 122 (A + (n - 1 - x)) = I 122 (A + (n - 1 - x)) := by
        rw [h2]
        unfold cpyS
        first
          | rw [if_pos e, if_neg (by omega)]
          | rw [if_neg e, if_neg (by omega)]
      by_cases e5 : y = B + (n - 1 - x)
      · subst e5
        rw [rw2_on, e4]
        unfold cpyS
        first
          | rw [if_pos e, if_pos (by omega)]
          | rw [if_neg e, if_pos (by omega)]
        rw [show A + (B + (n - 1 - x) - B) = A + (n - 1 - x) by omega]
      · rw [rw2_off (fun z => e5 z.2), h2 y]
        unfold cpyS
        by_cases g : B + (n - x) ≤ y ∧ y < B + n
        · first
            | rw [if_pos e, if_pos e, if_pos g, if_pos (by omega)]
            | rw [if_neg e, if_neg e, if_pos g, if_pos (by omega)]
        · first
            | rw [if_pos e, if_pos e, if_neg g, if_neg (by omega)]
            | rw [if_neg e, if_neg e, if_neg g, if_neg (by omega)]
    · refine XP_n 2 (pc' := 89) (ls' := [.ref (99), .int (nI (a)), .int (nI (i)), .int (nI (b)), .int (nI (j)), .int (nI (n)), .int (nI (A)), .int (nI (B)), .int (nI (x)), w9]) (st' := [.int (nI (n)), .int (nI (x))]) (M' := (I1, J, Rx R, N, G)) rfl ?_
      refine XP_icN (x := x) (y := n) rfl (by omega) (by omega) (fun (b89 : n ≤ x) => absurd b89 (by omega)) (fun (b89 : x < n) => ?_)
      refine XP_n 2 (pc' := 92) (ls' := [.ref (99), .int (nI (a)), .int (nI (i)), .int (nI (b)), .int (nI (j)), .int (nI (n)), .int (nI (A)), .int (nI (B)), .int (nI (x)), w9]) (st' := [.int (nI (B)), .int (nI (A))]) (M' := (I1, J, Rx R, N, G)) rfl ?_
      refine XP_icN (x := A) (y := B) rfl (by omega) (by omega) (fun (b92 : B ≤ A) => ?_) (fun (b92 : A < B) => absurd b92 (by omega))
      refine XP_n 12 (pc' := 111) (ls' := [.ref (99), .int (nI (a)), .int (nI (i)), .int (nI (b)), .int (nI (j)), .int (nI (n)), .int (nI (A)), .int (nI (B)), .int (nI (x)), .int (nI (x))]) (st' := [.int ((nI (A)) + (nI (x))), .ref (122), .int ((nI (B)) + (nI (x))), .ref (122)]) (M' := (I1, J, Rx R, N, G)) rfl ?_
      rw [show (nI (A)) + (nI (x)) = nI (A + x) from nI_addE (rfl) (rfl)]
      rw [show (nI (B)) + (nI (x)) = nI (B + x) from nI_addE (rfl) (rfl)]
      refine XP_iraw rfl rfl (show A + x < 160 by omega) rfl (by omega) ?_
      refine XP_iast rfl rfl (show B + x < 160 by omega) rfl (by omega) ?_
      refine XP_n 1 (pc' := 114) (ls' := [.ref (99), .int (nI (a)), .int (nI (i)), .int (nI (b)), .int (nI (j)), .int (nI (n)), .int (nI (A)), .int (nI (B)), .int (nI (x) + nI (1)), .int (nI (x))]) (st' := []) (M' := ((rw2 I1 122 (B + x) (I1 122 (A + x))), J, Rx R, N, G)) rfl ?_
      rw [show nI (x) + nI (1) = nI (x + 1) from nI_addE (rfl) rfl]
      refine XP_n 1 (pc' := 87) (ls' := [.ref (99), .int (nI (a)), .int (nI (i)), .int (nI (b)), .int (nI (j)), .int (nI (n)), .int (nI (A)), .int (nI (B)), .int (nI (x + 1)), .int (nI (x))]) (st' := []) (M' := ((rw2 I1 122 (B + x) (I1 122 (A + x))), J, Rx R, N, G)) rfl ?_
      refine ih (x + 1) _ _ (by omega) (fun k hk => (rw2_ro hk).trans (h1 k hk)) (fun y => ?_)
      have e4 : I1 122 (A + (x)) = I 122 (A + (x)) := by
        rw [h2]
        unfold cpyS
        first
          | rw [if_pos e, if_neg (by omega)]
          | rw [if_neg e, if_neg (by omega)]
      by_cases e5 : y = B + (x)
      · subst e5
        rw [rw2_on, e4]
        unfold cpyS
        first
          | rw [if_pos e, if_pos (by omega)]
          | rw [if_neg e, if_pos (by omega)]
        rw [show A + (B + (x) - B) = A + (x) by omega]
      · rw [rw2_off (fun z => e5 z.2), h2 y]
        unfold cpyS
        by_cases g : B ≤ y ∧ y < B + x
        · first
            | rw [if_pos e, if_pos e, if_pos g, if_pos (by omega)]
            | rw [if_neg e, if_neg e, if_pos g, if_pos (by omega)]
        · first
            | rw [if_pos e, if_pos e, if_neg g, if_neg (by omega)]
            | rw [if_neg e, if_neg e, if_neg g, if_neg (by omega)]
end
theorem s_copy {s : Nat → Nat → Int32} (hW : Wf s) (hch : iN 0 1000000 (s 1 15)) (sa i sb j n : Int32) : SetOk 20 n_H_copy n_M_copy [.int sa, .int i, .int sb, .int j, .int n] s := by
  by_cases g0 : iv 0 3 sa
  rotate_left
  · skip
    by_cases g9 : iv 0 3 sb
    · obtain ⟨b, -, hb, rfl, -⟩ := iv_nat g9 (by omega) (by omega)
      refine ⟨cI (-2), s, hW, Up.rf hch, fun X d I J R N G hI => ?_, fun X d I J R N G hS => ?_⟩
      · have hL := hI.2.2.1
        unfold TP
        show XP X _ k_H_copy 0 [.ref (0), .int (sa), .int (i), .int (nI (b)), .int (j), .int (n), xj, xj] [] _ _
        refine XP_n 2 (pc' := 2) (ls' := [.ref (0), .int (sa), .int (i), .int (nI (b)), .int (j), .int (n), xj, xj]) (st' := [.int (sa), .ref (0)]) (M' := (I, J, Rx R, N, G)) rfl ?_
        refine XP_pure rfl rfl (c_sheetAtF g0) ?_
        refine XP_n 3 (pc' := 6) (ls' := [.ref (0), .int (sa), .int (i), .int (nI (b)), .int (j), .int (n), .null, xj]) (st' := [.int (nI (b)), .ref (0)]) (M' := (I, J, Rx R, N, G)) rfl ?_
        refine XP_pure rfl rfl (c_sheetAtT (show b < 4 by omega)) ?_
        refine XP_n 4 (pc' := 13) (ls' := [.ref (0), .int (sa), .int (i), .int (nI (b)), .int (j), .int (n), .null, .ref (87 + 2 * b)]) (st' := [.int (cI (-2))]) (M' := (I, J, Rx R, N, G)) rfl ?_
        exact XP_ret rfl ⟨rfl, _, rfl, hI.1.C, hI.2.2.1, hI.2.2.2.1, FrM.rf⟩
      · unfold TP
        show XP X _ k_M_copy 0 [.ref (99), .int (sa), .int (i), .int (nI (b)), .int (j), .int (n), xj, xj, xj, xj] [] _ _
        refine XP_n 3 (pc' := 3) (ls' := [.ref (99), .int (sa), .int (i), .int (nI (b)), .int (j), .int (n), xj, xj, xj, xj]) (st' := [.int (nI (3)), .int (nI (0)), .int (sa)]) (M' := (I, J, Rx R, N, G)) rfl ?_
        refine XP_pure rfl rfl (w_M X _ _ 0 3 _) ?_
        refine XP_s rfl ?_
        refine XP_beq (fun b4 => ?_) (fun b4 => absurd b4 g0)
        refine XP_n 1 (pc' := 11) (ls' := [.ref (99), .int (sa), .int (i), .int (nI (b)), .int (j), .int (n), xj, xj, xj, xj]) (st' := [.int (cI (-2))]) (M' := (I, J, Rx R, N, G)) rfl ?_
        exact XP_ret rfl ⟨rfl, _, rfl, hS, FrC.rf⟩
    · skip
      refine ⟨cI (-2), s, hW, Up.rf hch, fun X d I J R N G hI => ?_, fun X d I J R N G hS => ?_⟩
      · have hL := hI.2.2.1
        unfold TP
        show XP X _ k_H_copy 0 [.ref (0), .int (sa), .int (i), .int (sb), .int (j), .int (n), xj, xj] [] _ _
        refine XP_n 2 (pc' := 2) (ls' := [.ref (0), .int (sa), .int (i), .int (sb), .int (j), .int (n), xj, xj]) (st' := [.int (sa), .ref (0)]) (M' := (I, J, Rx R, N, G)) rfl ?_
        refine XP_pure rfl rfl (c_sheetAtF g0) ?_
        refine XP_n 3 (pc' := 6) (ls' := [.ref (0), .int (sa), .int (i), .int (sb), .int (j), .int (n), .null, xj]) (st' := [.int (sb), .ref (0)]) (M' := (I, J, Rx R, N, G)) rfl ?_
        refine XP_pure rfl rfl (c_sheetAtF g9) ?_
        refine XP_n 4 (pc' := 13) (ls' := [.ref (0), .int (sa), .int (i), .int (sb), .int (j), .int (n), .null, .null]) (st' := [.int (cI (-2))]) (M' := (I, J, Rx R, N, G)) rfl ?_
        exact XP_ret rfl ⟨rfl, _, rfl, hI.1.C, hI.2.2.1, hI.2.2.2.1, FrM.rf⟩
      · unfold TP
        show XP X _ k_M_copy 0 [.ref (99), .int (sa), .int (i), .int (sb), .int (j), .int (n), xj, xj, xj, xj] [] _ _
        refine XP_n 3 (pc' := 3) (ls' := [.ref (99), .int (sa), .int (i), .int (sb), .int (j), .int (n), xj, xj, xj, xj]) (st' := [.int (nI (3)), .int (nI (0)), .int (sa)]) (M' := (I, J, Rx R, N, G)) rfl ?_
        refine XP_pure rfl rfl (w_M X _ _ 0 3 _) ?_
        refine XP_s rfl ?_
        refine XP_beq (fun b4 => ?_) (fun b4 => absurd b4 g0)
        refine XP_n 1 (pc' := 11) (ls' := [.ref (99), .int (sa), .int (i), .int (sb), .int (j), .int (n), xj, xj, xj, xj]) (st' := [.int (cI (-2))]) (M' := (I, J, Rx R, N, G)) rfl ?_
        exact XP_ret rfl ⟨rfl, _, rfl, hS, FrC.rf⟩
  obtain ⟨a, -, ha, rfl, -⟩ := iv_nat g0 (by omega) (by omega)
  have ha : a < 4 := by omega
  have hza := (hW.sz1 ha).2
  by_cases g1 : iv 0 3 sb
  rotate_left
  · skip
    refine ⟨cI (-2), s, hW, Up.rf hch, fun X d I J R N G hI => ?_, fun X d I J R N G hS => ?_⟩
    · have hL := hI.2.2.1
      unfold TP
      show XP X _ k_H_copy 0 [.ref (0), .int (nI (a)), .int (i), .int (sb), .int (j), .int (n), xj, xj] [] _ _
      refine XP_n 2 (pc' := 2) (ls' := [.ref (0), .int (nI (a)), .int (i), .int (sb), .int (j), .int (n), xj, xj]) (st' := [.int (nI (a)), .ref (0)]) (M' := (I, J, Rx R, N, G)) rfl ?_
      refine XP_pure rfl rfl (c_sheetAtT (show a < 4 by omega)) ?_
      refine XP_n 3 (pc' := 6) (ls' := [.ref (0), .int (nI (a)), .int (i), .int (sb), .int (j), .int (n), .ref (87 + 2 * a), xj]) (st' := [.int (sb), .ref (0)]) (M' := (I, J, Rx R, N, G)) rfl ?_
      refine XP_pure rfl rfl (c_sheetAtF g1) ?_
      refine XP_n 6 (pc' := 13) (ls' := [.ref (0), .int (nI (a)), .int (i), .int (sb), .int (j), .int (n), .ref (87 + 2 * a), .null]) (st' := [.int (cI (-2))]) (M' := (I, J, Rx R, N, G)) rfl ?_
      exact XP_ret rfl ⟨rfl, _, rfl, hI.1.C, hI.2.2.1, hI.2.2.2.1, FrM.rf⟩
    · unfold TP
      show XP X _ k_M_copy 0 [.ref (99), .int (nI (a)), .int (i), .int (sb), .int (j), .int (n), xj, xj, xj, xj] [] _ _
      refine XP_n 3 (pc' := 3) (ls' := [.ref (99), .int (nI (a)), .int (i), .int (sb), .int (j), .int (n), xj, xj, xj, xj]) (st' := [.int (nI (3)), .int (nI (0)), .int (nI (a))]) (M' := (I, J, Rx R, N, G)) rfl ?_
      refine XP_pure rfl rfl (w_M X _ _ 0 3 _) ?_
      refine XP_s rfl ?_
      refine XP_beq (fun b4 => absurd g0 b4) (fun b4 => ?_)
      refine XP_n 3 (pc' := 8) (ls' := [.ref (99), .int (nI (a)), .int (i), .int (sb), .int (j), .int (n), xj, xj, xj, xj]) (st' := [.int (nI (3)), .int (nI (0)), .int (sb)]) (M' := (I, J, Rx R, N, G)) rfl ?_
      refine XP_pure rfl rfl (w_M X _ _ 0 3 _) ?_
      refine XP_s rfl ?_
      refine XP_bne (fun b9 => absurd b9 g1) (fun b9 => ?_)
      refine XP_n 1 (pc' := 11) (ls' := [.ref (99), .int (nI (a)), .int (i), .int (sb), .int (j), .int (n), xj, xj, xj, xj]) (st' := [.int (cI (-2))]) (M' := (I, J, Rx R, N, G)) rfl ?_
      exact XP_ret rfl ⟨rfl, _, rfl, hS, FrC.rf⟩
  obtain ⟨b, -, hb, rfl, -⟩ := iv_nat g1 (by omega) (by omega)
  have hb : b < 4 := by omega
  have hzb := (hW.sz1 hb).2
  by_cases g2 : ¬ s 120 a = cI (-1)
  rotate_left
  · skip
    refine ⟨cI (-11), s, hW, Up.rf hch, fun X d I J R N G hI => ?_, fun X d I J R N G hS => ?_⟩
    · have hL := hI.2.2.1
      unfold TP
      show XP X _ k_H_copy 0 [.ref (0), .int (nI (a)), .int (i), .int (nI (b)), .int (j), .int (n), xj, xj] [] _ _
      refine XP_n 2 (pc' := 2) (ls' := [.ref (0), .int (nI (a)), .int (i), .int (nI (b)), .int (j), .int (n), xj, xj]) (st' := [.int (nI (a)), .ref (0)]) (M' := (I, J, Rx R, N, G)) rfl ?_
      refine XP_pure rfl rfl (c_sheetAtT (show a < 4 by omega)) ?_
      refine XP_n 3 (pc' := 6) (ls' := [.ref (0), .int (nI (a)), .int (i), .int (nI (b)), .int (j), .int (n), .ref (87 + 2 * a), xj]) (st' := [.int (nI (b)), .ref (0)]) (M' := (I, J, Rx R, N, G)) rfl ?_
      refine XP_pure rfl rfl (c_sheetAtT (show b < 4 by omega)) ?_
      refine XP_n 6 (pc' := 15) (ls' := [.ref (0), .int (nI (a)), .int (i), .int (nI (b)), .int (j), .int (n), .ref (87 + 2 * a), .ref (87 + 2 * b)]) (st' := [.ref (87 + 2 * a)]) (M' := (I, J, Rx R, N, G)) rfl ?_
      refine XP_pure rfl (by show (isO (87 + 2 * a) 8 || false) = true; rw [sh_o ha]; rfl) (c_missT hI.1 ha (Classical.not_not.mp g2)) ?_
      refine XP_ifN (x := 1)  rfl (by omega) (fun (b16 : ¬ 1 = 0) => ?_) (fun (b16 : 1 = 0) => absurd b16 (by omega))
      refine XP_n 1 (pc' := 21) (ls' := [.ref (0), .int (nI (a)), .int (i), .int (nI (b)), .int (j), .int (n), .ref (87 + 2 * a), .ref (87 + 2 * b)]) (st' := [.int (cI (-11))]) (M' := (I, J, Rx R, N, G)) rfl ?_
      exact XP_ret rfl ⟨rfl, _, rfl, hI.1.C, hI.2.2.1, hI.2.2.2.1, FrM.rf⟩
    · unfold TP
      show XP X _ k_M_copy 0 [.ref (99), .int (nI (a)), .int (i), .int (nI (b)), .int (j), .int (n), xj, xj, xj, xj] [] _ _
      refine XP_n 3 (pc' := 3) (ls' := [.ref (99), .int (nI (a)), .int (i), .int (nI (b)), .int (j), .int (n), xj, xj, xj, xj]) (st' := [.int (nI (3)), .int (nI (0)), .int (nI (a))]) (M' := (I, J, Rx R, N, G)) rfl ?_
      refine XP_pure rfl rfl (w_M X _ _ 0 3 _) ?_
      refine XP_s rfl ?_
      refine XP_beq (fun b4 => absurd g0 b4) (fun b4 => ?_)
      refine XP_n 3 (pc' := 8) (ls' := [.ref (99), .int (nI (a)), .int (i), .int (nI (b)), .int (j), .int (n), xj, xj, xj, xj]) (st' := [.int (nI (3)), .int (nI (0)), .int (nI (b))]) (M' := (I, J, Rx R, N, G)) rfl ?_
      refine XP_pure rfl rfl (w_M X _ _ 0 3 _) ?_
      refine XP_s rfl ?_
      refine XP_bne (fun b9 => ?_) (fun b9 => absurd g1 b9)
      refine XP_n 3 (pc' := 15) (ls' := [.ref (99), .int (nI (a)), .int (i), .int (nI (b)), .int (j), .int (n), xj, xj, xj, xj]) (st' := [.int (nI (a)), .ref (120)]) (M' := (I, J, Rx R, N, G)) rfl ?_
      refine XP_ialdM hS rfl rfl (show a < 4 by omega) rfl (by omega) rfl ?_
      refine XP_n 1 (pc' := 17) (ls' := [.ref (99), .int (nI (a)), .int (i), .int (nI (b)), .int (j), .int (n), xj, xj, xj, xj]) (st' := [.int (cI (-1)), .int (s 120 a)]) (M' := (I, J, Rx R, N, G)) rfl ?_
      refine XP_icD rfl (fun (b17 : s 120 a = cI (-1)) => ?_) (fun (b17 : ¬ s 120 a = cI (-1)) => absurd b17 (by first | exact (Classical.not_not.mp g2) | exact fun z => z (Classical.not_not.mp g2) | exact Int32.not_le.mpr (Classical.not_not.mp g2) | exact Int32.not_lt.mpr (Int32.not_lt.mp (Classical.not_not.mp g2)) | omega))
      refine XP_n 1 (pc' := 25) (ls' := [.ref (99), .int (nI (a)), .int (i), .int (nI (b)), .int (j), .int (n), xj, xj, xj, xj]) (st' := [.int (cI (-11))]) (M' := (I, J, Rx R, N, G)) rfl ?_
      exact XP_ret rfl ⟨rfl, _, rfl, hS, FrC.rf⟩
  by_cases g3 : ¬ s 120 b = cI (-1)
  rotate_left
  · skip
    refine ⟨cI (-11), s, hW, Up.rf hch, fun X d I J R N G hI => ?_, fun X d I J R N G hS => ?_⟩
    · have hL := hI.2.2.1
      unfold TP
      show XP X _ k_H_copy 0 [.ref (0), .int (nI (a)), .int (i), .int (nI (b)), .int (j), .int (n), xj, xj] [] _ _
      refine XP_n 2 (pc' := 2) (ls' := [.ref (0), .int (nI (a)), .int (i), .int (nI (b)), .int (j), .int (n), xj, xj]) (st' := [.int (nI (a)), .ref (0)]) (M' := (I, J, Rx R, N, G)) rfl ?_
      refine XP_pure rfl rfl (c_sheetAtT (show a < 4 by omega)) ?_
      refine XP_n 3 (pc' := 6) (ls' := [.ref (0), .int (nI (a)), .int (i), .int (nI (b)), .int (j), .int (n), .ref (87 + 2 * a), xj]) (st' := [.int (nI (b)), .ref (0)]) (M' := (I, J, Rx R, N, G)) rfl ?_
      refine XP_pure rfl rfl (c_sheetAtT (show b < 4 by omega)) ?_
      refine XP_n 6 (pc' := 15) (ls' := [.ref (0), .int (nI (a)), .int (i), .int (nI (b)), .int (j), .int (n), .ref (87 + 2 * a), .ref (87 + 2 * b)]) (st' := [.ref (87 + 2 * a)]) (M' := (I, J, Rx R, N, G)) rfl ?_
      refine XP_pure rfl (by show (isO (87 + 2 * a) 8 || false) = true; rw [sh_o ha]; rfl) (c_missF hI.1 ha g2) ?_
      refine XP_ifN (x := 0)  rfl (by omega) (fun (b16 : ¬ 0 = 0) => absurd b16 (by omega)) (fun (b16 : 0 = 0) => ?_)
      refine XP_n 1 (pc' := 18) (ls' := [.ref (0), .int (nI (a)), .int (i), .int (nI (b)), .int (j), .int (n), .ref (87 + 2 * a), .ref (87 + 2 * b)]) (st' := [.ref (87 + 2 * b)]) (M' := (I, J, Rx R, N, G)) rfl ?_
      refine XP_pure rfl (by show (isO (87 + 2 * b) 8 || false) = true; rw [sh_o hb]; rfl) (c_missT hI.1 hb (Classical.not_not.mp g3)) ?_
      refine XP_ifN (x := 1)  rfl (by omega) (fun (b19 : 1 = 0) => absurd b19 (by omega)) (fun (b19 : ¬ 1 = 0) => ?_)
      refine XP_n 1 (pc' := 21) (ls' := [.ref (0), .int (nI (a)), .int (i), .int (nI (b)), .int (j), .int (n), .ref (87 + 2 * a), .ref (87 + 2 * b)]) (st' := [.int (cI (-11))]) (M' := (I, J, Rx R, N, G)) rfl ?_
      exact XP_ret rfl ⟨rfl, _, rfl, hI.1.C, hI.2.2.1, hI.2.2.2.1, FrM.rf⟩
    · unfold TP
      show XP X _ k_M_copy 0 [.ref (99), .int (nI (a)), .int (i), .int (nI (b)), .int (j), .int (n), xj, xj, xj, xj] [] _ _
      refine XP_n 3 (pc' := 3) (ls' := [.ref (99), .int (nI (a)), .int (i), .int (nI (b)), .int (j), .int (n), xj, xj, xj, xj]) (st' := [.int (nI (3)), .int (nI (0)), .int (nI (a))]) (M' := (I, J, Rx R, N, G)) rfl ?_
      refine XP_pure rfl rfl (w_M X _ _ 0 3 _) ?_
      refine XP_s rfl ?_
      refine XP_beq (fun b4 => absurd g0 b4) (fun b4 => ?_)
      refine XP_n 3 (pc' := 8) (ls' := [.ref (99), .int (nI (a)), .int (i), .int (nI (b)), .int (j), .int (n), xj, xj, xj, xj]) (st' := [.int (nI (3)), .int (nI (0)), .int (nI (b))]) (M' := (I, J, Rx R, N, G)) rfl ?_
      refine XP_pure rfl rfl (w_M X _ _ 0 3 _) ?_
      refine XP_s rfl ?_
      refine XP_bne (fun b9 => ?_) (fun b9 => absurd g1 b9)
      refine XP_n 3 (pc' := 15) (ls' := [.ref (99), .int (nI (a)), .int (i), .int (nI (b)), .int (j), .int (n), xj, xj, xj, xj]) (st' := [.int (nI (a)), .ref (120)]) (M' := (I, J, Rx R, N, G)) rfl ?_
      refine XP_ialdM hS rfl rfl (show a < 4 by omega) rfl (by omega) rfl ?_
      refine XP_n 1 (pc' := 17) (ls' := [.ref (99), .int (nI (a)), .int (i), .int (nI (b)), .int (j), .int (n), xj, xj, xj, xj]) (st' := [.int (cI (-1)), .int (s 120 a)]) (M' := (I, J, Rx R, N, G)) rfl ?_
      refine XP_icD rfl (fun (b17 : s 120 a = cI (-1)) => absurd b17 (by first | exact g2 | exact fun z => z g2 | exact Int32.not_le.mpr g2 | exact Int32.not_lt.mpr (Int32.not_lt.mp g2) | omega)) (fun (b17 : ¬ s 120 a = cI (-1)) => ?_)
      refine XP_n 3 (pc' := 21) (ls' := [.ref (99), .int (nI (a)), .int (i), .int (nI (b)), .int (j), .int (n), xj, xj, xj, xj]) (st' := [.int (nI (b)), .ref (120)]) (M' := (I, J, Rx R, N, G)) rfl ?_
      refine XP_ialdM hS rfl rfl (show b < 4 by omega) rfl (by omega) rfl ?_
      refine XP_n 1 (pc' := 23) (ls' := [.ref (99), .int (nI (a)), .int (i), .int (nI (b)), .int (j), .int (n), xj, xj, xj, xj]) (st' := [.int (cI (-1)), .int (s 120 b)]) (M' := (I, J, Rx R, N, G)) rfl ?_
      refine XP_icD rfl (fun (b23 : ¬ s 120 b = cI (-1)) => absurd b23 (by first | exact (Classical.not_not.mp g3) | exact fun z => z (Classical.not_not.mp g3) | exact Int32.not_le.mpr (Classical.not_not.mp g3) | exact Int32.not_lt.mpr (Int32.not_lt.mp (Classical.not_not.mp g3)) | omega)) (fun (b23 : s 120 b = cI (-1)) => ?_)
      refine XP_n 1 (pc' := 25) (ls' := [.ref (99), .int (nI (a)), .int (i), .int (nI (b)), .int (j), .int (n), xj, xj, xj, xj]) (st' := [.int (cI (-11))]) (M' := (I, J, Rx R, N, G)) rfl ?_
      exact XP_ret rfl ⟨rfl, _, rfl, hS, FrC.rf⟩
  by_cases g4 : s 120 a = s 120 b
  rotate_left
  · skip
    refine ⟨cI (-13), s, hW, Up.rf hch, fun X d I J R N G hI => ?_, fun X d I J R N G hS => ?_⟩
    · have hL := hI.2.2.1
      unfold TP
      show XP X _ k_H_copy 0 [.ref (0), .int (nI (a)), .int (i), .int (nI (b)), .int (j), .int (n), xj, xj] [] _ _
      refine XP_n 2 (pc' := 2) (ls' := [.ref (0), .int (nI (a)), .int (i), .int (nI (b)), .int (j), .int (n), xj, xj]) (st' := [.int (nI (a)), .ref (0)]) (M' := (I, J, Rx R, N, G)) rfl ?_
      refine XP_pure rfl rfl (c_sheetAtT (show a < 4 by omega)) ?_
      refine XP_n 3 (pc' := 6) (ls' := [.ref (0), .int (nI (a)), .int (i), .int (nI (b)), .int (j), .int (n), .ref (87 + 2 * a), xj]) (st' := [.int (nI (b)), .ref (0)]) (M' := (I, J, Rx R, N, G)) rfl ?_
      refine XP_pure rfl rfl (c_sheetAtT (show b < 4 by omega)) ?_
      refine XP_n 6 (pc' := 15) (ls' := [.ref (0), .int (nI (a)), .int (i), .int (nI (b)), .int (j), .int (n), .ref (87 + 2 * a), .ref (87 + 2 * b)]) (st' := [.ref (87 + 2 * a)]) (M' := (I, J, Rx R, N, G)) rfl ?_
      refine XP_pure rfl (by show (isO (87 + 2 * a) 8 || false) = true; rw [sh_o ha]; rfl) (c_missF hI.1 ha g2) ?_
      refine XP_ifN (x := 0)  rfl (by omega) (fun (b16 : ¬ 0 = 0) => absurd b16 (by omega)) (fun (b16 : 0 = 0) => ?_)
      refine XP_n 1 (pc' := 18) (ls' := [.ref (0), .int (nI (a)), .int (i), .int (nI (b)), .int (j), .int (n), .ref (87 + 2 * a), .ref (87 + 2 * b)]) (st' := [.ref (87 + 2 * b)]) (M' := (I, J, Rx R, N, G)) rfl ?_
      refine XP_pure rfl (by show (isO (87 + 2 * b) 8 || false) = true; rw [sh_o hb]; rfl) (c_missF hI.1 hb g3) ?_
      refine XP_ifN (x := 0)  rfl (by omega) (fun (b19 : 0 = 0) => ?_) (fun (b19 : ¬ 0 = 0) => absurd b19 (by omega))
      refine XP_n 1 (pc' := 23) (ls' := [.ref (0), .int (nI (a)), .int (i), .int (nI (b)), .int (j), .int (n), .ref (87 + 2 * a), .ref (87 + 2 * b)]) (st' := [.ref (87 + 2 * a)]) (M' := (I, J, Rx R, N, G)) rfl ?_
      refine XP_getw rfl (by rw [sh_o (show a < 4 by omega)]; rfl) ?_
      show XP X _ k_H_copy 24 [.ref (0), .int (nI (a)), .int (i), .int (nI (b)), .int (j), .int (n), .ref (87 + 2 * a), .ref (87 + 2 * b)] [.int (I (87 + 2 * a) 0)] _ _
      rw [show I (87 + 2 * a) 0 = s 120 a from hI.1 _ _ _ _ (sh_m0 (show a < 4 by omega))]
      refine XP_n 1 (pc' := 25) (ls' := [.ref (0), .int (nI (a)), .int (i), .int (nI (b)), .int (j), .int (n), .ref (87 + 2 * a), .ref (87 + 2 * b)]) (st' := [.ref (87 + 2 * b), .int (s 120 a)]) (M' := (I, J, Rx R, N, G)) rfl ?_
      refine XP_getw rfl (by rw [sh_o (show b < 4 by omega)]; rfl) ?_
      show XP X _ k_H_copy 26 [.ref (0), .int (nI (a)), .int (i), .int (nI (b)), .int (j), .int (n), .ref (87 + 2 * a), .ref (87 + 2 * b)] [.int (I (87 + 2 * b) 0), .int (s 120 a)] _ _
      rw [show I (87 + 2 * b) 0 = s 120 b from hI.1 _ _ _ _ (sh_m0 (show b < 4 by omega))]
      refine XP_icD rfl (fun (b26 : s 120 a = s 120 b) => absurd b26 (by first | exact g4 | exact fun z => z g4 | exact Int32.not_le.mpr g4 | exact Int32.not_lt.mpr (Int32.not_lt.mp g4) | omega)) (fun (b26 : ¬ s 120 a = s 120 b) => ?_)
      refine XP_n 1 (pc' := 28) (ls' := [.ref (0), .int (nI (a)), .int (i), .int (nI (b)), .int (j), .int (n), .ref (87 + 2 * a), .ref (87 + 2 * b)]) (st' := [.int (cI (-13))]) (M' := (I, J, Rx R, N, G)) rfl ?_
      exact XP_ret rfl ⟨rfl, _, rfl, hI.1.C, hI.2.2.1, hI.2.2.2.1, FrM.rf⟩
    · unfold TP
      show XP X _ k_M_copy 0 [.ref (99), .int (nI (a)), .int (i), .int (nI (b)), .int (j), .int (n), xj, xj, xj, xj] [] _ _
      refine XP_n 3 (pc' := 3) (ls' := [.ref (99), .int (nI (a)), .int (i), .int (nI (b)), .int (j), .int (n), xj, xj, xj, xj]) (st' := [.int (nI (3)), .int (nI (0)), .int (nI (a))]) (M' := (I, J, Rx R, N, G)) rfl ?_
      refine XP_pure rfl rfl (w_M X _ _ 0 3 _) ?_
      refine XP_s rfl ?_
      refine XP_beq (fun b4 => absurd g0 b4) (fun b4 => ?_)
      refine XP_n 3 (pc' := 8) (ls' := [.ref (99), .int (nI (a)), .int (i), .int (nI (b)), .int (j), .int (n), xj, xj, xj, xj]) (st' := [.int (nI (3)), .int (nI (0)), .int (nI (b))]) (M' := (I, J, Rx R, N, G)) rfl ?_
      refine XP_pure rfl rfl (w_M X _ _ 0 3 _) ?_
      refine XP_s rfl ?_
      refine XP_bne (fun b9 => ?_) (fun b9 => absurd g1 b9)
      refine XP_n 3 (pc' := 15) (ls' := [.ref (99), .int (nI (a)), .int (i), .int (nI (b)), .int (j), .int (n), xj, xj, xj, xj]) (st' := [.int (nI (a)), .ref (120)]) (M' := (I, J, Rx R, N, G)) rfl ?_
      refine XP_ialdM hS rfl rfl (show a < 4 by omega) rfl (by omega) rfl ?_
      refine XP_n 1 (pc' := 17) (ls' := [.ref (99), .int (nI (a)), .int (i), .int (nI (b)), .int (j), .int (n), xj, xj, xj, xj]) (st' := [.int (cI (-1)), .int (s 120 a)]) (M' := (I, J, Rx R, N, G)) rfl ?_
      refine XP_icD rfl (fun (b17 : s 120 a = cI (-1)) => absurd b17 (by first | exact g2 | exact fun z => z g2 | exact Int32.not_le.mpr g2 | exact Int32.not_lt.mpr (Int32.not_lt.mp g2) | omega)) (fun (b17 : ¬ s 120 a = cI (-1)) => ?_)
      refine XP_n 3 (pc' := 21) (ls' := [.ref (99), .int (nI (a)), .int (i), .int (nI (b)), .int (j), .int (n), xj, xj, xj, xj]) (st' := [.int (nI (b)), .ref (120)]) (M' := (I, J, Rx R, N, G)) rfl ?_
      refine XP_ialdM hS rfl rfl (show b < 4 by omega) rfl (by omega) rfl ?_
      refine XP_n 1 (pc' := 23) (ls' := [.ref (99), .int (nI (a)), .int (i), .int (nI (b)), .int (j), .int (n), xj, xj, xj, xj]) (st' := [.int (cI (-1)), .int (s 120 b)]) (M' := (I, J, Rx R, N, G)) rfl ?_
      refine XP_icD rfl (fun (b23 : ¬ s 120 b = cI (-1)) => ?_) (fun (b23 : s 120 b = cI (-1)) => absurd b23 (by first | exact g3 | exact fun z => z g3 | exact Int32.not_le.mpr g3 | exact Int32.not_lt.mpr (Int32.not_lt.mp g3) | omega))
      refine XP_n 3 (pc' := 29) (ls' := [.ref (99), .int (nI (a)), .int (i), .int (nI (b)), .int (j), .int (n), xj, xj, xj, xj]) (st' := [.int (nI (a)), .ref (120)]) (M' := (I, J, Rx R, N, G)) rfl ?_
      refine XP_ialdM hS rfl rfl (show a < 4 by omega) rfl (by omega) rfl ?_
      refine XP_n 3 (pc' := 33) (ls' := [.ref (99), .int (nI (a)), .int (i), .int (nI (b)), .int (j), .int (n), xj, xj, xj, xj]) (st' := [.int (nI (b)), .ref (120), .int (s 120 a)]) (M' := (I, J, Rx R, N, G)) rfl ?_
      refine XP_ialdM hS rfl rfl (show b < 4 by omega) rfl (by omega) rfl ?_
      refine XP_icD rfl (fun (b34 : s 120 a = s 120 b) => absurd b34 (by first | exact g4 | exact fun z => z g4 | exact Int32.not_le.mpr g4 | exact Int32.not_lt.mpr (Int32.not_lt.mp g4) | omega)) (fun (b34 : ¬ s 120 a = s 120 b) => ?_)
      refine XP_n 1 (pc' := 36) (ls' := [.ref (99), .int (nI (a)), .int (i), .int (nI (b)), .int (j), .int (n), xj, xj, xj, xj]) (st' := [.int (cI (-13))]) (M' := (I, J, Rx R, N, G)) rfl ?_
      exact XP_ret rfl ⟨rfl, _, rfl, hS, FrC.rf⟩
  by_cases g5 : ¬ i < 0
  rotate_left
  · skip
    refine ⟨cI (-12), s, hW, Up.rf hch, fun X d I J R N G hI => ?_, fun X d I J R N G hS => ?_⟩
    · have hL := hI.2.2.1
      unfold TP
      show XP X _ k_H_copy 0 [.ref (0), .int (nI (a)), .int (i), .int (nI (b)), .int (j), .int (n), xj, xj] [] _ _
      refine XP_n 2 (pc' := 2) (ls' := [.ref (0), .int (nI (a)), .int (i), .int (nI (b)), .int (j), .int (n), xj, xj]) (st' := [.int (nI (a)), .ref (0)]) (M' := (I, J, Rx R, N, G)) rfl ?_
      refine XP_pure rfl rfl (c_sheetAtT (show a < 4 by omega)) ?_
      refine XP_n 3 (pc' := 6) (ls' := [.ref (0), .int (nI (a)), .int (i), .int (nI (b)), .int (j), .int (n), .ref (87 + 2 * a), xj]) (st' := [.int (nI (b)), .ref (0)]) (M' := (I, J, Rx R, N, G)) rfl ?_
      refine XP_pure rfl rfl (c_sheetAtT (show b < 4 by omega)) ?_
      refine XP_n 6 (pc' := 15) (ls' := [.ref (0), .int (nI (a)), .int (i), .int (nI (b)), .int (j), .int (n), .ref (87 + 2 * a), .ref (87 + 2 * b)]) (st' := [.ref (87 + 2 * a)]) (M' := (I, J, Rx R, N, G)) rfl ?_
      refine XP_pure rfl (by show (isO (87 + 2 * a) 8 || false) = true; rw [sh_o ha]; rfl) (c_missF hI.1 ha g2) ?_
      refine XP_ifN (x := 0)  rfl (by omega) (fun (b16 : ¬ 0 = 0) => absurd b16 (by omega)) (fun (b16 : 0 = 0) => ?_)
      refine XP_n 1 (pc' := 18) (ls' := [.ref (0), .int (nI (a)), .int (i), .int (nI (b)), .int (j), .int (n), .ref (87 + 2 * a), .ref (87 + 2 * b)]) (st' := [.ref (87 + 2 * b)]) (M' := (I, J, Rx R, N, G)) rfl ?_
      refine XP_pure rfl (by show (isO (87 + 2 * b) 8 || false) = true; rw [sh_o hb]; rfl) (c_missF hI.1 hb g3) ?_
      refine XP_ifN (x := 0)  rfl (by omega) (fun (b19 : 0 = 0) => ?_) (fun (b19 : ¬ 0 = 0) => absurd b19 (by omega))
      refine XP_n 1 (pc' := 23) (ls' := [.ref (0), .int (nI (a)), .int (i), .int (nI (b)), .int (j), .int (n), .ref (87 + 2 * a), .ref (87 + 2 * b)]) (st' := [.ref (87 + 2 * a)]) (M' := (I, J, Rx R, N, G)) rfl ?_
      refine XP_getw rfl (by rw [sh_o (show a < 4 by omega)]; rfl) ?_
      show XP X _ k_H_copy 24 [.ref (0), .int (nI (a)), .int (i), .int (nI (b)), .int (j), .int (n), .ref (87 + 2 * a), .ref (87 + 2 * b)] [.int (I (87 + 2 * a) 0)] _ _
      rw [show I (87 + 2 * a) 0 = s 120 a from hI.1 _ _ _ _ (sh_m0 (show a < 4 by omega))]
      refine XP_n 1 (pc' := 25) (ls' := [.ref (0), .int (nI (a)), .int (i), .int (nI (b)), .int (j), .int (n), .ref (87 + 2 * a), .ref (87 + 2 * b)]) (st' := [.ref (87 + 2 * b), .int (s 120 a)]) (M' := (I, J, Rx R, N, G)) rfl ?_
      refine XP_getw rfl (by rw [sh_o (show b < 4 by omega)]; rfl) ?_
      show XP X _ k_H_copy 26 [.ref (0), .int (nI (a)), .int (i), .int (nI (b)), .int (j), .int (n), .ref (87 + 2 * a), .ref (87 + 2 * b)] [.int (I (87 + 2 * b) 0), .int (s 120 a)] _ _
      rw [show I (87 + 2 * b) 0 = s 120 b from hI.1 _ _ _ _ (sh_m0 (show b < 4 by omega))]
      refine XP_icD rfl (fun (b26 : s 120 a = s 120 b) => ?_) (fun (b26 : ¬ s 120 a = s 120 b) => absurd b26 (by first | exact g4 | exact fun z => z g4 | exact Int32.not_le.mpr g4 | exact Int32.not_lt.mpr (Int32.not_lt.mp g4) | omega))
      refine XP_n 3 (pc' := 32) (ls' := [.ref (0), .int (nI (a)), .int (i), .int (nI (b)), .int (j), .int (n), .ref (87 + 2 * a), .ref (87 + 2 * b)]) (st' := [.int (n), .int (i), .ref (87 + 2 * a)]) (M' := (I, J, Rx R, N, G)) rfl ?_
      refine XP_pure rfl (by show (isO (87 + 2 * a) 8 || false) = true; rw [sh_o ha]; rfl) (c_reachI (Classical.not_not.mp g5) _) ?_
      refine XP_ifN (x := 0)  rfl (by omega) (fun (b33 : 0 = 0) => ?_) (fun (b33 : ¬ 0 = 0) => absurd b33 (by omega))
      refine XP_n 1 (pc' := 40) (ls' := [.ref (0), .int (nI (a)), .int (i), .int (nI (b)), .int (j), .int (n), .ref (87 + 2 * a), .ref (87 + 2 * b)]) (st' := [.int (cI (-12))]) (M' := (I, J, Rx R, N, G)) rfl ?_
      exact XP_ret rfl ⟨rfl, _, rfl, hI.1.C, hI.2.2.1, hI.2.2.2.1, FrM.rf⟩
    · unfold TP
      show XP X _ k_M_copy 0 [.ref (99), .int (nI (a)), .int (i), .int (nI (b)), .int (j), .int (n), xj, xj, xj, xj] [] _ _
      refine XP_n 3 (pc' := 3) (ls' := [.ref (99), .int (nI (a)), .int (i), .int (nI (b)), .int (j), .int (n), xj, xj, xj, xj]) (st' := [.int (nI (3)), .int (nI (0)), .int (nI (a))]) (M' := (I, J, Rx R, N, G)) rfl ?_
      refine XP_pure rfl rfl (w_M X _ _ 0 3 _) ?_
      refine XP_s rfl ?_
      refine XP_beq (fun b4 => absurd g0 b4) (fun b4 => ?_)
      refine XP_n 3 (pc' := 8) (ls' := [.ref (99), .int (nI (a)), .int (i), .int (nI (b)), .int (j), .int (n), xj, xj, xj, xj]) (st' := [.int (nI (3)), .int (nI (0)), .int (nI (b))]) (M' := (I, J, Rx R, N, G)) rfl ?_
      refine XP_pure rfl rfl (w_M X _ _ 0 3 _) ?_
      refine XP_s rfl ?_
      refine XP_bne (fun b9 => ?_) (fun b9 => absurd g1 b9)
      refine XP_n 3 (pc' := 15) (ls' := [.ref (99), .int (nI (a)), .int (i), .int (nI (b)), .int (j), .int (n), xj, xj, xj, xj]) (st' := [.int (nI (a)), .ref (120)]) (M' := (I, J, Rx R, N, G)) rfl ?_
      refine XP_ialdM hS rfl rfl (show a < 4 by omega) rfl (by omega) rfl ?_
      refine XP_n 1 (pc' := 17) (ls' := [.ref (99), .int (nI (a)), .int (i), .int (nI (b)), .int (j), .int (n), xj, xj, xj, xj]) (st' := [.int (cI (-1)), .int (s 120 a)]) (M' := (I, J, Rx R, N, G)) rfl ?_
      refine XP_icD rfl (fun (b17 : s 120 a = cI (-1)) => absurd b17 (by first | exact g2 | exact fun z => z g2 | exact Int32.not_le.mpr g2 | exact Int32.not_lt.mpr (Int32.not_lt.mp g2) | omega)) (fun (b17 : ¬ s 120 a = cI (-1)) => ?_)
      refine XP_n 3 (pc' := 21) (ls' := [.ref (99), .int (nI (a)), .int (i), .int (nI (b)), .int (j), .int (n), xj, xj, xj, xj]) (st' := [.int (nI (b)), .ref (120)]) (M' := (I, J, Rx R, N, G)) rfl ?_
      refine XP_ialdM hS rfl rfl (show b < 4 by omega) rfl (by omega) rfl ?_
      refine XP_n 1 (pc' := 23) (ls' := [.ref (99), .int (nI (a)), .int (i), .int (nI (b)), .int (j), .int (n), xj, xj, xj, xj]) (st' := [.int (cI (-1)), .int (s 120 b)]) (M' := (I, J, Rx R, N, G)) rfl ?_
      refine XP_icD rfl (fun (b23 : ¬ s 120 b = cI (-1)) => ?_) (fun (b23 : s 120 b = cI (-1)) => absurd b23 (by first | exact g3 | exact fun z => z g3 | exact Int32.not_le.mpr g3 | exact Int32.not_lt.mpr (Int32.not_lt.mp g3) | omega))
      refine XP_n 3 (pc' := 29) (ls' := [.ref (99), .int (nI (a)), .int (i), .int (nI (b)), .int (j), .int (n), xj, xj, xj, xj]) (st' := [.int (nI (a)), .ref (120)]) (M' := (I, J, Rx R, N, G)) rfl ?_
      refine XP_ialdM hS rfl rfl (show a < 4 by omega) rfl (by omega) rfl ?_
      refine XP_n 3 (pc' := 33) (ls' := [.ref (99), .int (nI (a)), .int (i), .int (nI (b)), .int (j), .int (n), xj, xj, xj, xj]) (st' := [.int (nI (b)), .ref (120), .int (s 120 a)]) (M' := (I, J, Rx R, N, G)) rfl ?_
      refine XP_ialdM hS rfl rfl (show b < 4 by omega) rfl (by omega) rfl ?_
      refine XP_icD rfl (fun (b34 : s 120 a = s 120 b) => ?_) (fun (b34 : ¬ s 120 a = s 120 b) => absurd b34 (by first | exact g4 | exact fun z => z g4 | exact Int32.not_le.mpr g4 | exact Int32.not_lt.mpr (Int32.not_lt.mp g4) | omega))
      refine XP_n 1 (pc' := 38) (ls' := [.ref (99), .int (nI (a)), .int (i), .int (nI (b)), .int (j), .int (n), xj, xj, xj, xj]) (st' := [.int (n)]) (M' := (I, J, Rx R, N, G)) rfl ?_
      refine XP_ifD rfl (fun (b38 : n < 0) => ?_) (fun (b38 : 0 ≤ n) => ?_)
      · have n38 := Int32.not_le.mpr b38
        refine XP_n 1 (pc' := 72) (ls' := [.ref (99), .int (nI (a)), .int (i), .int (nI (b)), .int (j), .int (n), xj, xj, xj, xj]) (st' := [.int (cI (-12))]) (M' := (I, J, Rx R, N, G)) rfl ?_
        exact XP_ret rfl ⟨rfl, _, rfl, hS, FrC.rf⟩
      · have n38 := Int32.not_lt.mpr b38
        refine XP_n 1 (pc' := 40) (ls' := [.ref (99), .int (nI (a)), .int (i), .int (nI (b)), .int (j), .int (n), xj, xj, xj, xj]) (st' := [.int (i)]) (M' := (I, J, Rx R, N, G)) rfl ?_
        refine XP_ifD rfl (fun (b40 : i < 0) => ?_) (fun (b40 : 0 ≤ i) => absurd b40 (by first | exact (Classical.not_not.mp g5) | exact fun z => z (Classical.not_not.mp g5) | exact Int32.not_le.mpr (Classical.not_not.mp g5) | exact Int32.not_lt.mpr (Int32.not_lt.mp (Classical.not_not.mp g5)) | omega))
        have n40 := Int32.not_le.mpr b40
        refine XP_n 1 (pc' := 72) (ls' := [.ref (99), .int (nI (a)), .int (i), .int (nI (b)), .int (j), .int (n), xj, xj, xj, xj]) (st' := [.int (cI (-12))]) (M' := (I, J, Rx R, N, G)) rfl ?_
        exact XP_ret rfl ⟨rfl, _, rfl, hS, FrC.rf⟩
  by_cases g6 : ¬ n < 0
  rotate_left
  · skip
    refine ⟨cI (-12), s, hW, Up.rf hch, fun X d I J R N G hI => ?_, fun X d I J R N G hS => ?_⟩
    · have hL := hI.2.2.1
      unfold TP
      show XP X _ k_H_copy 0 [.ref (0), .int (nI (a)), .int (i), .int (nI (b)), .int (j), .int (n), xj, xj] [] _ _
      refine XP_n 2 (pc' := 2) (ls' := [.ref (0), .int (nI (a)), .int (i), .int (nI (b)), .int (j), .int (n), xj, xj]) (st' := [.int (nI (a)), .ref (0)]) (M' := (I, J, Rx R, N, G)) rfl ?_
      refine XP_pure rfl rfl (c_sheetAtT (show a < 4 by omega)) ?_
      refine XP_n 3 (pc' := 6) (ls' := [.ref (0), .int (nI (a)), .int (i), .int (nI (b)), .int (j), .int (n), .ref (87 + 2 * a), xj]) (st' := [.int (nI (b)), .ref (0)]) (M' := (I, J, Rx R, N, G)) rfl ?_
      refine XP_pure rfl rfl (c_sheetAtT (show b < 4 by omega)) ?_
      refine XP_n 6 (pc' := 15) (ls' := [.ref (0), .int (nI (a)), .int (i), .int (nI (b)), .int (j), .int (n), .ref (87 + 2 * a), .ref (87 + 2 * b)]) (st' := [.ref (87 + 2 * a)]) (M' := (I, J, Rx R, N, G)) rfl ?_
      refine XP_pure rfl (by show (isO (87 + 2 * a) 8 || false) = true; rw [sh_o ha]; rfl) (c_missF hI.1 ha g2) ?_
      refine XP_ifN (x := 0)  rfl (by omega) (fun (b16 : ¬ 0 = 0) => absurd b16 (by omega)) (fun (b16 : 0 = 0) => ?_)
      refine XP_n 1 (pc' := 18) (ls' := [.ref (0), .int (nI (a)), .int (i), .int (nI (b)), .int (j), .int (n), .ref (87 + 2 * a), .ref (87 + 2 * b)]) (st' := [.ref (87 + 2 * b)]) (M' := (I, J, Rx R, N, G)) rfl ?_
      refine XP_pure rfl (by show (isO (87 + 2 * b) 8 || false) = true; rw [sh_o hb]; rfl) (c_missF hI.1 hb g3) ?_
      refine XP_ifN (x := 0)  rfl (by omega) (fun (b19 : 0 = 0) => ?_) (fun (b19 : ¬ 0 = 0) => absurd b19 (by omega))
      refine XP_n 1 (pc' := 23) (ls' := [.ref (0), .int (nI (a)), .int (i), .int (nI (b)), .int (j), .int (n), .ref (87 + 2 * a), .ref (87 + 2 * b)]) (st' := [.ref (87 + 2 * a)]) (M' := (I, J, Rx R, N, G)) rfl ?_
      refine XP_getw rfl (by rw [sh_o (show a < 4 by omega)]; rfl) ?_
      show XP X _ k_H_copy 24 [.ref (0), .int (nI (a)), .int (i), .int (nI (b)), .int (j), .int (n), .ref (87 + 2 * a), .ref (87 + 2 * b)] [.int (I (87 + 2 * a) 0)] _ _
      rw [show I (87 + 2 * a) 0 = s 120 a from hI.1 _ _ _ _ (sh_m0 (show a < 4 by omega))]
      refine XP_n 1 (pc' := 25) (ls' := [.ref (0), .int (nI (a)), .int (i), .int (nI (b)), .int (j), .int (n), .ref (87 + 2 * a), .ref (87 + 2 * b)]) (st' := [.ref (87 + 2 * b), .int (s 120 a)]) (M' := (I, J, Rx R, N, G)) rfl ?_
      refine XP_getw rfl (by rw [sh_o (show b < 4 by omega)]; rfl) ?_
      show XP X _ k_H_copy 26 [.ref (0), .int (nI (a)), .int (i), .int (nI (b)), .int (j), .int (n), .ref (87 + 2 * a), .ref (87 + 2 * b)] [.int (I (87 + 2 * b) 0), .int (s 120 a)] _ _
      rw [show I (87 + 2 * b) 0 = s 120 b from hI.1 _ _ _ _ (sh_m0 (show b < 4 by omega))]
      refine XP_icD rfl (fun (b26 : s 120 a = s 120 b) => ?_) (fun (b26 : ¬ s 120 a = s 120 b) => absurd b26 (by first | exact g4 | exact fun z => z g4 | exact Int32.not_le.mpr g4 | exact Int32.not_lt.mpr (Int32.not_lt.mp g4) | omega))
      refine XP_n 3 (pc' := 32) (ls' := [.ref (0), .int (nI (a)), .int (i), .int (nI (b)), .int (j), .int (n), .ref (87 + 2 * a), .ref (87 + 2 * b)]) (st' := [.int (n), .int (i), .ref (87 + 2 * a)]) (M' := (I, J, Rx R, N, G)) rfl ?_
      refine XP_pure rfl (by show (isO (87 + 2 * a) 8 || false) = true; rw [sh_o ha]; rfl) (c_reachN g5 (Classical.not_not.mp g6)) ?_
      refine XP_ifN (x := 0)  rfl (by omega) (fun (b33 : 0 = 0) => ?_) (fun (b33 : ¬ 0 = 0) => absurd b33 (by omega))
      refine XP_n 1 (pc' := 40) (ls' := [.ref (0), .int (nI (a)), .int (i), .int (nI (b)), .int (j), .int (n), .ref (87 + 2 * a), .ref (87 + 2 * b)]) (st' := [.int (cI (-12))]) (M' := (I, J, Rx R, N, G)) rfl ?_
      exact XP_ret rfl ⟨rfl, _, rfl, hI.1.C, hI.2.2.1, hI.2.2.2.1, FrM.rf⟩
    · unfold TP
      show XP X _ k_M_copy 0 [.ref (99), .int (nI (a)), .int (i), .int (nI (b)), .int (j), .int (n), xj, xj, xj, xj] [] _ _
      refine XP_n 3 (pc' := 3) (ls' := [.ref (99), .int (nI (a)), .int (i), .int (nI (b)), .int (j), .int (n), xj, xj, xj, xj]) (st' := [.int (nI (3)), .int (nI (0)), .int (nI (a))]) (M' := (I, J, Rx R, N, G)) rfl ?_
      refine XP_pure rfl rfl (w_M X _ _ 0 3 _) ?_
      refine XP_s rfl ?_
      refine XP_beq (fun b4 => absurd g0 b4) (fun b4 => ?_)
      refine XP_n 3 (pc' := 8) (ls' := [.ref (99), .int (nI (a)), .int (i), .int (nI (b)), .int (j), .int (n), xj, xj, xj, xj]) (st' := [.int (nI (3)), .int (nI (0)), .int (nI (b))]) (M' := (I, J, Rx R, N, G)) rfl ?_
      refine XP_pure rfl rfl (w_M X _ _ 0 3 _) ?_
      refine XP_s rfl ?_
      refine XP_bne (fun b9 => ?_) (fun b9 => absurd g1 b9)
      refine XP_n 3 (pc' := 15) (ls' := [.ref (99), .int (nI (a)), .int (i), .int (nI (b)), .int (j), .int (n), xj, xj, xj, xj]) (st' := [.int (nI (a)), .ref (120)]) (M' := (I, J, Rx R, N, G)) rfl ?_
      refine XP_ialdM hS rfl rfl (show a < 4 by omega) rfl (by omega) rfl ?_
      refine XP_n 1 (pc' := 17) (ls' := [.ref (99), .int (nI (a)), .int (i), .int (nI (b)), .int (j), .int (n), xj, xj, xj, xj]) (st' := [.int (cI (-1)), .int (s 120 a)]) (M' := (I, J, Rx R, N, G)) rfl ?_
      refine XP_icD rfl (fun (b17 : s 120 a = cI (-1)) => absurd b17 (by first | exact g2 | exact fun z => z g2 | exact Int32.not_le.mpr g2 | exact Int32.not_lt.mpr (Int32.not_lt.mp g2) | omega)) (fun (b17 : ¬ s 120 a = cI (-1)) => ?_)
      refine XP_n 3 (pc' := 21) (ls' := [.ref (99), .int (nI (a)), .int (i), .int (nI (b)), .int (j), .int (n), xj, xj, xj, xj]) (st' := [.int (nI (b)), .ref (120)]) (M' := (I, J, Rx R, N, G)) rfl ?_
      refine XP_ialdM hS rfl rfl (show b < 4 by omega) rfl (by omega) rfl ?_
      refine XP_n 1 (pc' := 23) (ls' := [.ref (99), .int (nI (a)), .int (i), .int (nI (b)), .int (j), .int (n), xj, xj, xj, xj]) (st' := [.int (cI (-1)), .int (s 120 b)]) (M' := (I, J, Rx R, N, G)) rfl ?_
      refine XP_icD rfl (fun (b23 : ¬ s 120 b = cI (-1)) => ?_) (fun (b23 : s 120 b = cI (-1)) => absurd b23 (by first | exact g3 | exact fun z => z g3 | exact Int32.not_le.mpr g3 | exact Int32.not_lt.mpr (Int32.not_lt.mp g3) | omega))
      refine XP_n 3 (pc' := 29) (ls' := [.ref (99), .int (nI (a)), .int (i), .int (nI (b)), .int (j), .int (n), xj, xj, xj, xj]) (st' := [.int (nI (a)), .ref (120)]) (M' := (I, J, Rx R, N, G)) rfl ?_
      refine XP_ialdM hS rfl rfl (show a < 4 by omega) rfl (by omega) rfl ?_
      refine XP_n 3 (pc' := 33) (ls' := [.ref (99), .int (nI (a)), .int (i), .int (nI (b)), .int (j), .int (n), xj, xj, xj, xj]) (st' := [.int (nI (b)), .ref (120), .int (s 120 a)]) (M' := (I, J, Rx R, N, G)) rfl ?_
      refine XP_ialdM hS rfl rfl (show b < 4 by omega) rfl (by omega) rfl ?_
      refine XP_icD rfl (fun (b34 : s 120 a = s 120 b) => ?_) (fun (b34 : ¬ s 120 a = s 120 b) => absurd b34 (by first | exact g4 | exact fun z => z g4 | exact Int32.not_le.mpr g4 | exact Int32.not_lt.mpr (Int32.not_lt.mp g4) | omega))
      refine XP_n 1 (pc' := 38) (ls' := [.ref (99), .int (nI (a)), .int (i), .int (nI (b)), .int (j), .int (n), xj, xj, xj, xj]) (st' := [.int (n)]) (M' := (I, J, Rx R, N, G)) rfl ?_
      refine XP_ifD rfl (fun (b38 : n < 0) => ?_) (fun (b38 : 0 ≤ n) => absurd b38 (by first | exact (Classical.not_not.mp g6) | exact fun z => z (Classical.not_not.mp g6) | exact Int32.not_le.mpr (Classical.not_not.mp g6) | exact Int32.not_lt.mpr (Int32.not_lt.mp (Classical.not_not.mp g6)) | omega))
      have n38 := Int32.not_le.mpr b38
      refine XP_n 1 (pc' := 72) (ls' := [.ref (99), .int (nI (a)), .int (i), .int (nI (b)), .int (j), .int (n), xj, xj, xj, xj]) (st' := [.int (cI (-12))]) (M' := (I, J, Rx R, N, G)) rfl ?_
      exact XP_ret rfl ⟨rfl, _, rfl, hS, FrC.rf⟩
  obtain ⟨i, hi, rfl⟩ := nn_nat g5
  obtain ⟨n, hn, rfl⟩ := nn_nat g6
  by_cases g7 : i + n ≤ sz s a
  rotate_left
  · skip
    by_cases g8 : j < 0
    · skip
      refine ⟨cI (-12), s, hW, Up.rf hch, fun X d I J R N G hI => ?_, fun X d I J R N G hS => ?_⟩
      · have hL := hI.2.2.1
        unfold TP
        show XP X _ k_H_copy 0 [.ref (0), .int (nI (a)), .int (nI (i)), .int (nI (b)), .int (j), .int (nI (n)), xj, xj] [] _ _
        refine XP_n 2 (pc' := 2) (ls' := [.ref (0), .int (nI (a)), .int (nI (i)), .int (nI (b)), .int (j), .int (nI (n)), xj, xj]) (st' := [.int (nI (a)), .ref (0)]) (M' := (I, J, Rx R, N, G)) rfl ?_
        refine XP_pure rfl rfl (c_sheetAtT (show a < 4 by omega)) ?_
        refine XP_n 3 (pc' := 6) (ls' := [.ref (0), .int (nI (a)), .int (nI (i)), .int (nI (b)), .int (j), .int (nI (n)), .ref (87 + 2 * a), xj]) (st' := [.int (nI (b)), .ref (0)]) (M' := (I, J, Rx R, N, G)) rfl ?_
        refine XP_pure rfl rfl (c_sheetAtT (show b < 4 by omega)) ?_
        refine XP_n 6 (pc' := 15) (ls' := [.ref (0), .int (nI (a)), .int (nI (i)), .int (nI (b)), .int (j), .int (nI (n)), .ref (87 + 2 * a), .ref (87 + 2 * b)]) (st' := [.ref (87 + 2 * a)]) (M' := (I, J, Rx R, N, G)) rfl ?_
        refine XP_pure rfl (by show (isO (87 + 2 * a) 8 || false) = true; rw [sh_o ha]; rfl) (c_missF hI.1 ha g2) ?_
        refine XP_ifN (x := 0)  rfl (by omega) (fun (b16 : ¬ 0 = 0) => absurd b16 (by omega)) (fun (b16 : 0 = 0) => ?_)
        refine XP_n 1 (pc' := 18) (ls' := [.ref (0), .int (nI (a)), .int (nI (i)), .int (nI (b)), .int (j), .int (nI (n)), .ref (87 + 2 * a), .ref (87 + 2 * b)]) (st' := [.ref (87 + 2 * b)]) (M' := (I, J, Rx R, N, G)) rfl ?_
        refine XP_pure rfl (by show (isO (87 + 2 * b) 8 || false) = true; rw [sh_o hb]; rfl) (c_missF hI.1 hb g3) ?_
        refine XP_ifN (x := 0)  rfl (by omega) (fun (b19 : 0 = 0) => ?_) (fun (b19 : ¬ 0 = 0) => absurd b19 (by omega))
        refine XP_n 1 (pc' := 23) (ls' := [.ref (0), .int (nI (a)), .int (nI (i)), .int (nI (b)), .int (j), .int (nI (n)), .ref (87 + 2 * a), .ref (87 + 2 * b)]) (st' := [.ref (87 + 2 * a)]) (M' := (I, J, Rx R, N, G)) rfl ?_
        refine XP_getw rfl (by rw [sh_o (show a < 4 by omega)]; rfl) ?_
        show XP X _ k_H_copy 24 [.ref (0), .int (nI (a)), .int (nI (i)), .int (nI (b)), .int (j), .int (nI (n)), .ref (87 + 2 * a), .ref (87 + 2 * b)] [.int (I (87 + 2 * a) 0)] _ _
        rw [show I (87 + 2 * a) 0 = s 120 a from hI.1 _ _ _ _ (sh_m0 (show a < 4 by omega))]
        refine XP_n 1 (pc' := 25) (ls' := [.ref (0), .int (nI (a)), .int (nI (i)), .int (nI (b)), .int (j), .int (nI (n)), .ref (87 + 2 * a), .ref (87 + 2 * b)]) (st' := [.ref (87 + 2 * b), .int (s 120 a)]) (M' := (I, J, Rx R, N, G)) rfl ?_
        refine XP_getw rfl (by rw [sh_o (show b < 4 by omega)]; rfl) ?_
        show XP X _ k_H_copy 26 [.ref (0), .int (nI (a)), .int (nI (i)), .int (nI (b)), .int (j), .int (nI (n)), .ref (87 + 2 * a), .ref (87 + 2 * b)] [.int (I (87 + 2 * b) 0), .int (s 120 a)] _ _
        rw [show I (87 + 2 * b) 0 = s 120 b from hI.1 _ _ _ _ (sh_m0 (show b < 4 by omega))]
        refine XP_icD rfl (fun (b26 : s 120 a = s 120 b) => ?_) (fun (b26 : ¬ s 120 a = s 120 b) => absurd b26 (by first | exact g4 | exact fun z => z g4 | exact Int32.not_le.mpr g4 | exact Int32.not_lt.mpr (Int32.not_lt.mp g4) | omega))
        refine XP_n 3 (pc' := 32) (ls' := [.ref (0), .int (nI (a)), .int (nI (i)), .int (nI (b)), .int (j), .int (nI (n)), .ref (87 + 2 * a), .ref (87 + 2 * b)]) (st' := [.int (nI (n)), .int (nI (i)), .ref (87 + 2 * a)]) (M' := (I, J, Rx R, N, G)) rfl ?_
        refine XP_pure rfl (by show (isO (87 + 2 * a) 8 || false) = true; rw [sh_o ha]; rfl) (c_reachF hI.1 hW ha hi hn g7) ?_
        refine XP_ifN (x := 0)  rfl (by omega) (fun (b33 : 0 = 0) => ?_) (fun (b33 : ¬ 0 = 0) => absurd b33 (by omega))
        refine XP_n 1 (pc' := 40) (ls' := [.ref (0), .int (nI (a)), .int (nI (i)), .int (nI (b)), .int (j), .int (nI (n)), .ref (87 + 2 * a), .ref (87 + 2 * b)]) (st' := [.int (cI (-12))]) (M' := (I, J, Rx R, N, G)) rfl ?_
        exact XP_ret rfl ⟨rfl, _, rfl, hI.1.C, hI.2.2.1, hI.2.2.2.1, FrM.rf⟩
      · unfold TP
        show XP X _ k_M_copy 0 [.ref (99), .int (nI (a)), .int (nI (i)), .int (nI (b)), .int (j), .int (nI (n)), xj, xj, xj, xj] [] _ _
        refine XP_n 3 (pc' := 3) (ls' := [.ref (99), .int (nI (a)), .int (nI (i)), .int (nI (b)), .int (j), .int (nI (n)), xj, xj, xj, xj]) (st' := [.int (nI (3)), .int (nI (0)), .int (nI (a))]) (M' := (I, J, Rx R, N, G)) rfl ?_
        refine XP_pure rfl rfl (w_M X _ _ 0 3 _) ?_
        refine XP_s rfl ?_
        refine XP_beq (fun b4 => absurd g0 b4) (fun b4 => ?_)
        refine XP_n 3 (pc' := 8) (ls' := [.ref (99), .int (nI (a)), .int (nI (i)), .int (nI (b)), .int (j), .int (nI (n)), xj, xj, xj, xj]) (st' := [.int (nI (3)), .int (nI (0)), .int (nI (b))]) (M' := (I, J, Rx R, N, G)) rfl ?_
        refine XP_pure rfl rfl (w_M X _ _ 0 3 _) ?_
        refine XP_s rfl ?_
        refine XP_bne (fun b9 => ?_) (fun b9 => absurd g1 b9)
        refine XP_n 3 (pc' := 15) (ls' := [.ref (99), .int (nI (a)), .int (nI (i)), .int (nI (b)), .int (j), .int (nI (n)), xj, xj, xj, xj]) (st' := [.int (nI (a)), .ref (120)]) (M' := (I, J, Rx R, N, G)) rfl ?_
        refine XP_ialdM hS rfl rfl (show a < 4 by omega) rfl (by omega) rfl ?_
        refine XP_n 1 (pc' := 17) (ls' := [.ref (99), .int (nI (a)), .int (nI (i)), .int (nI (b)), .int (j), .int (nI (n)), xj, xj, xj, xj]) (st' := [.int (cI (-1)), .int (s 120 a)]) (M' := (I, J, Rx R, N, G)) rfl ?_
        refine XP_icD rfl (fun (b17 : s 120 a = cI (-1)) => absurd b17 (by first | exact g2 | exact fun z => z g2 | exact Int32.not_le.mpr g2 | exact Int32.not_lt.mpr (Int32.not_lt.mp g2) | omega)) (fun (b17 : ¬ s 120 a = cI (-1)) => ?_)
        refine XP_n 3 (pc' := 21) (ls' := [.ref (99), .int (nI (a)), .int (nI (i)), .int (nI (b)), .int (j), .int (nI (n)), xj, xj, xj, xj]) (st' := [.int (nI (b)), .ref (120)]) (M' := (I, J, Rx R, N, G)) rfl ?_
        refine XP_ialdM hS rfl rfl (show b < 4 by omega) rfl (by omega) rfl ?_
        refine XP_n 1 (pc' := 23) (ls' := [.ref (99), .int (nI (a)), .int (nI (i)), .int (nI (b)), .int (j), .int (nI (n)), xj, xj, xj, xj]) (st' := [.int (cI (-1)), .int (s 120 b)]) (M' := (I, J, Rx R, N, G)) rfl ?_
        refine XP_icD rfl (fun (b23 : ¬ s 120 b = cI (-1)) => ?_) (fun (b23 : s 120 b = cI (-1)) => absurd b23 (by first | exact g3 | exact fun z => z g3 | exact Int32.not_le.mpr g3 | exact Int32.not_lt.mpr (Int32.not_lt.mp g3) | omega))
        refine XP_n 3 (pc' := 29) (ls' := [.ref (99), .int (nI (a)), .int (nI (i)), .int (nI (b)), .int (j), .int (nI (n)), xj, xj, xj, xj]) (st' := [.int (nI (a)), .ref (120)]) (M' := (I, J, Rx R, N, G)) rfl ?_
        refine XP_ialdM hS rfl rfl (show a < 4 by omega) rfl (by omega) rfl ?_
        refine XP_n 3 (pc' := 33) (ls' := [.ref (99), .int (nI (a)), .int (nI (i)), .int (nI (b)), .int (j), .int (nI (n)), xj, xj, xj, xj]) (st' := [.int (nI (b)), .ref (120), .int (s 120 a)]) (M' := (I, J, Rx R, N, G)) rfl ?_
        refine XP_ialdM hS rfl rfl (show b < 4 by omega) rfl (by omega) rfl ?_
        refine XP_icD rfl (fun (b34 : s 120 a = s 120 b) => ?_) (fun (b34 : ¬ s 120 a = s 120 b) => absurd b34 (by first | exact g4 | exact fun z => z g4 | exact Int32.not_le.mpr g4 | exact Int32.not_lt.mpr (Int32.not_lt.mp g4) | omega))
        refine XP_n 1 (pc' := 38) (ls' := [.ref (99), .int (nI (a)), .int (nI (i)), .int (nI (b)), .int (j), .int (nI (n)), xj, xj, xj, xj]) (st' := [.int (nI (n))]) (M' := (I, J, Rx R, N, G)) rfl ?_
        refine XP_ifN (x := n)  rfl (by omega) (fun (b38 : n < 0) => absurd b38 (by omega)) (fun (b38 : 0 ≤ n) => ?_)
        refine XP_n 1 (pc' := 40) (ls' := [.ref (99), .int (nI (a)), .int (nI (i)), .int (nI (b)), .int (j), .int (nI (n)), xj, xj, xj, xj]) (st' := [.int (nI (i))]) (M' := (I, J, Rx R, N, G)) rfl ?_
        refine XP_ifN (x := i)  rfl (by omega) (fun (b40 : i < 0) => absurd b40 (by omega)) (fun (b40 : 0 ≤ i) => ?_)
        refine XP_n 1 (pc' := 42) (ls' := [.ref (99), .int (nI (a)), .int (nI (i)), .int (nI (b)), .int (j), .int (nI (n)), xj, xj, xj, xj]) (st' := [.int (j)]) (M' := (I, J, Rx R, N, G)) rfl ?_
        refine XP_ifD rfl (fun (b42 : j < 0) => ?_) (fun (b42 : 0 ≤ j) => absurd b42 (by first | exact g8 | exact fun z => z g8 | exact Int32.not_le.mpr g8 | exact Int32.not_lt.mpr (Int32.not_lt.mp g8) | omega))
        have n42 := Int32.not_le.mpr b42
        refine XP_n 1 (pc' := 72) (ls' := [.ref (99), .int (nI (a)), .int (nI (i)), .int (nI (b)), .int (j), .int (nI (n)), xj, xj, xj, xj]) (st' := [.int (cI (-12))]) (M' := (I, J, Rx R, N, G)) rfl ?_
        exact XP_ret rfl ⟨rfl, _, rfl, hS, FrC.rf⟩
    obtain ⟨j, hj, rfl⟩ := nn_nat g8
    rcases Nat.lt_or_ge (sz s a) i with g9 | g9
    · skip
      refine ⟨cI (-12), s, hW, Up.rf hch, fun X d I J R N G hI => ?_, fun X d I J R N G hS => ?_⟩
      · have hL := hI.2.2.1
        unfold TP
        show XP X _ k_H_copy 0 [.ref (0), .int (nI (a)), .int (nI (i)), .int (nI (b)), .int (nI (j)), .int (nI (n)), xj, xj] [] _ _
        refine XP_n 2 (pc' := 2) (ls' := [.ref (0), .int (nI (a)), .int (nI (i)), .int (nI (b)), .int (nI (j)), .int (nI (n)), xj, xj]) (st' := [.int (nI (a)), .ref (0)]) (M' := (I, J, Rx R, N, G)) rfl ?_
        refine XP_pure rfl rfl (c_sheetAtT (show a < 4 by omega)) ?_
        refine XP_n 3 (pc' := 6) (ls' := [.ref (0), .int (nI (a)), .int (nI (i)), .int (nI (b)), .int (nI (j)), .int (nI (n)), .ref (87 + 2 * a), xj]) (st' := [.int (nI (b)), .ref (0)]) (M' := (I, J, Rx R, N, G)) rfl ?_
        refine XP_pure rfl rfl (c_sheetAtT (show b < 4 by omega)) ?_
        refine XP_n 6 (pc' := 15) (ls' := [.ref (0), .int (nI (a)), .int (nI (i)), .int (nI (b)), .int (nI (j)), .int (nI (n)), .ref (87 + 2 * a), .ref (87 + 2 * b)]) (st' := [.ref (87 + 2 * a)]) (M' := (I, J, Rx R, N, G)) rfl ?_
        refine XP_pure rfl (by show (isO (87 + 2 * a) 8 || false) = true; rw [sh_o ha]; rfl) (c_missF hI.1 ha g2) ?_
        refine XP_ifN (x := 0)  rfl (by omega) (fun (b16 : ¬ 0 = 0) => absurd b16 (by omega)) (fun (b16 : 0 = 0) => ?_)
        refine XP_n 1 (pc' := 18) (ls' := [.ref (0), .int (nI (a)), .int (nI (i)), .int (nI (b)), .int (nI (j)), .int (nI (n)), .ref (87 + 2 * a), .ref (87 + 2 * b)]) (st' := [.ref (87 + 2 * b)]) (M' := (I, J, Rx R, N, G)) rfl ?_
        refine XP_pure rfl (by show (isO (87 + 2 * b) 8 || false) = true; rw [sh_o hb]; rfl) (c_missF hI.1 hb g3) ?_
        refine XP_ifN (x := 0)  rfl (by omega) (fun (b19 : 0 = 0) => ?_) (fun (b19 : ¬ 0 = 0) => absurd b19 (by omega))
        refine XP_n 1 (pc' := 23) (ls' := [.ref (0), .int (nI (a)), .int (nI (i)), .int (nI (b)), .int (nI (j)), .int (nI (n)), .ref (87 + 2 * a), .ref (87 + 2 * b)]) (st' := [.ref (87 + 2 * a)]) (M' := (I, J, Rx R, N, G)) rfl ?_
        refine XP_getw rfl (by rw [sh_o (show a < 4 by omega)]; rfl) ?_
        show XP X _ k_H_copy 24 [.ref (0), .int (nI (a)), .int (nI (i)), .int (nI (b)), .int (nI (j)), .int (nI (n)), .ref (87 + 2 * a), .ref (87 + 2 * b)] [.int (I (87 + 2 * a) 0)] _ _
        rw [show I (87 + 2 * a) 0 = s 120 a from hI.1 _ _ _ _ (sh_m0 (show a < 4 by omega))]
        refine XP_n 1 (pc' := 25) (ls' := [.ref (0), .int (nI (a)), .int (nI (i)), .int (nI (b)), .int (nI (j)), .int (nI (n)), .ref (87 + 2 * a), .ref (87 + 2 * b)]) (st' := [.ref (87 + 2 * b), .int (s 120 a)]) (M' := (I, J, Rx R, N, G)) rfl ?_
        refine XP_getw rfl (by rw [sh_o (show b < 4 by omega)]; rfl) ?_
        show XP X _ k_H_copy 26 [.ref (0), .int (nI (a)), .int (nI (i)), .int (nI (b)), .int (nI (j)), .int (nI (n)), .ref (87 + 2 * a), .ref (87 + 2 * b)] [.int (I (87 + 2 * b) 0), .int (s 120 a)] _ _
        rw [show I (87 + 2 * b) 0 = s 120 b from hI.1 _ _ _ _ (sh_m0 (show b < 4 by omega))]
        refine XP_icD rfl (fun (b26 : s 120 a = s 120 b) => ?_) (fun (b26 : ¬ s 120 a = s 120 b) => absurd b26 (by first | exact g4 | exact fun z => z g4 | exact Int32.not_le.mpr g4 | exact Int32.not_lt.mpr (Int32.not_lt.mp g4) | omega))
        refine XP_n 3 (pc' := 32) (ls' := [.ref (0), .int (nI (a)), .int (nI (i)), .int (nI (b)), .int (nI (j)), .int (nI (n)), .ref (87 + 2 * a), .ref (87 + 2 * b)]) (st' := [.int (nI (n)), .int (nI (i)), .ref (87 + 2 * a)]) (M' := (I, J, Rx R, N, G)) rfl ?_
        refine XP_pure rfl (by show (isO (87 + 2 * a) 8 || false) = true; rw [sh_o ha]; rfl) (c_reachF hI.1 hW ha hi hn g7) ?_
        refine XP_ifN (x := 0)  rfl (by omega) (fun (b33 : 0 = 0) => ?_) (fun (b33 : ¬ 0 = 0) => absurd b33 (by omega))
        refine XP_n 1 (pc' := 40) (ls' := [.ref (0), .int (nI (a)), .int (nI (i)), .int (nI (b)), .int (nI (j)), .int (nI (n)), .ref (87 + 2 * a), .ref (87 + 2 * b)]) (st' := [.int (cI (-12))]) (M' := (I, J, Rx R, N, G)) rfl ?_
        exact XP_ret rfl ⟨rfl, _, rfl, hI.1.C, hI.2.2.1, hI.2.2.2.1, FrM.rf⟩
      · unfold TP
        show XP X _ k_M_copy 0 [.ref (99), .int (nI (a)), .int (nI (i)), .int (nI (b)), .int (nI (j)), .int (nI (n)), xj, xj, xj, xj] [] _ _
        refine XP_n 3 (pc' := 3) (ls' := [.ref (99), .int (nI (a)), .int (nI (i)), .int (nI (b)), .int (nI (j)), .int (nI (n)), xj, xj, xj, xj]) (st' := [.int (nI (3)), .int (nI (0)), .int (nI (a))]) (M' := (I, J, Rx R, N, G)) rfl ?_
        refine XP_pure rfl rfl (w_M X _ _ 0 3 _) ?_
        refine XP_s rfl ?_
        refine XP_beq (fun b4 => absurd g0 b4) (fun b4 => ?_)
        refine XP_n 3 (pc' := 8) (ls' := [.ref (99), .int (nI (a)), .int (nI (i)), .int (nI (b)), .int (nI (j)), .int (nI (n)), xj, xj, xj, xj]) (st' := [.int (nI (3)), .int (nI (0)), .int (nI (b))]) (M' := (I, J, Rx R, N, G)) rfl ?_
        refine XP_pure rfl rfl (w_M X _ _ 0 3 _) ?_
        refine XP_s rfl ?_
        refine XP_bne (fun b9 => ?_) (fun b9 => absurd g1 b9)
        refine XP_n 3 (pc' := 15) (ls' := [.ref (99), .int (nI (a)), .int (nI (i)), .int (nI (b)), .int (nI (j)), .int (nI (n)), xj, xj, xj, xj]) (st' := [.int (nI (a)), .ref (120)]) (M' := (I, J, Rx R, N, G)) rfl ?_
        refine XP_ialdM hS rfl rfl (show a < 4 by omega) rfl (by omega) rfl ?_
        refine XP_n 1 (pc' := 17) (ls' := [.ref (99), .int (nI (a)), .int (nI (i)), .int (nI (b)), .int (nI (j)), .int (nI (n)), xj, xj, xj, xj]) (st' := [.int (cI (-1)), .int (s 120 a)]) (M' := (I, J, Rx R, N, G)) rfl ?_
        refine XP_icD rfl (fun (b17 : s 120 a = cI (-1)) => absurd b17 (by first | exact g2 | exact fun z => z g2 | exact Int32.not_le.mpr g2 | exact Int32.not_lt.mpr (Int32.not_lt.mp g2) | omega)) (fun (b17 : ¬ s 120 a = cI (-1)) => ?_)
        refine XP_n 3 (pc' := 21) (ls' := [.ref (99), .int (nI (a)), .int (nI (i)), .int (nI (b)), .int (nI (j)), .int (nI (n)), xj, xj, xj, xj]) (st' := [.int (nI (b)), .ref (120)]) (M' := (I, J, Rx R, N, G)) rfl ?_
        refine XP_ialdM hS rfl rfl (show b < 4 by omega) rfl (by omega) rfl ?_
        refine XP_n 1 (pc' := 23) (ls' := [.ref (99), .int (nI (a)), .int (nI (i)), .int (nI (b)), .int (nI (j)), .int (nI (n)), xj, xj, xj, xj]) (st' := [.int (cI (-1)), .int (s 120 b)]) (M' := (I, J, Rx R, N, G)) rfl ?_
        refine XP_icD rfl (fun (b23 : ¬ s 120 b = cI (-1)) => ?_) (fun (b23 : s 120 b = cI (-1)) => absurd b23 (by first | exact g3 | exact fun z => z g3 | exact Int32.not_le.mpr g3 | exact Int32.not_lt.mpr (Int32.not_lt.mp g3) | omega))
        refine XP_n 3 (pc' := 29) (ls' := [.ref (99), .int (nI (a)), .int (nI (i)), .int (nI (b)), .int (nI (j)), .int (nI (n)), xj, xj, xj, xj]) (st' := [.int (nI (a)), .ref (120)]) (M' := (I, J, Rx R, N, G)) rfl ?_
        refine XP_ialdM hS rfl rfl (show a < 4 by omega) rfl (by omega) rfl ?_
        refine XP_n 3 (pc' := 33) (ls' := [.ref (99), .int (nI (a)), .int (nI (i)), .int (nI (b)), .int (nI (j)), .int (nI (n)), xj, xj, xj, xj]) (st' := [.int (nI (b)), .ref (120), .int (s 120 a)]) (M' := (I, J, Rx R, N, G)) rfl ?_
        refine XP_ialdM hS rfl rfl (show b < 4 by omega) rfl (by omega) rfl ?_
        refine XP_icD rfl (fun (b34 : s 120 a = s 120 b) => ?_) (fun (b34 : ¬ s 120 a = s 120 b) => absurd b34 (by first | exact g4 | exact fun z => z g4 | exact Int32.not_le.mpr g4 | exact Int32.not_lt.mpr (Int32.not_lt.mp g4) | omega))
        refine XP_n 1 (pc' := 38) (ls' := [.ref (99), .int (nI (a)), .int (nI (i)), .int (nI (b)), .int (nI (j)), .int (nI (n)), xj, xj, xj, xj]) (st' := [.int (nI (n))]) (M' := (I, J, Rx R, N, G)) rfl ?_
        refine XP_ifN (x := n)  rfl (by omega) (fun (b38 : n < 0) => absurd b38 (by omega)) (fun (b38 : 0 ≤ n) => ?_)
        refine XP_n 1 (pc' := 40) (ls' := [.ref (99), .int (nI (a)), .int (nI (i)), .int (nI (b)), .int (nI (j)), .int (nI (n)), xj, xj, xj, xj]) (st' := [.int (nI (i))]) (M' := (I, J, Rx R, N, G)) rfl ?_
        refine XP_ifN (x := i)  rfl (by omega) (fun (b40 : i < 0) => absurd b40 (by omega)) (fun (b40 : 0 ≤ i) => ?_)
        refine XP_n 1 (pc' := 42) (ls' := [.ref (99), .int (nI (a)), .int (nI (i)), .int (nI (b)), .int (nI (j)), .int (nI (n)), xj, xj, xj, xj]) (st' := [.int (nI (j))]) (M' := (I, J, Rx R, N, G)) rfl ?_
        refine XP_ifN (x := j)  rfl (by omega) (fun (b42 : j < 0) => absurd b42 (by omega)) (fun (b42 : 0 ≤ j) => ?_)
        refine XP_n 4 (pc' := 47) (ls' := [.ref (99), .int (nI (a)), .int (nI (i)), .int (nI (b)), .int (nI (j)), .int (nI (n)), xj, xj, xj, xj]) (st' := [.int (nI (a)), .ref (121), .int (nI (i))]) (M' := (I, J, Rx R, N, G)) rfl ?_
        refine XP_ialdM hS rfl rfl (show a < 4 by omega) rfl (by omega) rfl ?_
        rw [(hW.sz1 ha).1]
        refine XP_icN (x := i) (y := sz s a) rfl (by omega) (by omega) (fun (b48 : sz s a < i) => ?_) (fun (b48 : i ≤ sz s a) => absurd b48 (by omega))
        refine XP_n 1 (pc' := 72) (ls' := [.ref (99), .int (nI (a)), .int (nI (i)), .int (nI (b)), .int (nI (j)), .int (nI (n)), xj, xj, xj, xj]) (st' := [.int (cI (-12))]) (M' := (I, J, Rx R, N, G)) rfl ?_
        exact XP_ret rfl ⟨rfl, _, rfl, hS, FrC.rf⟩
    · rcases Nat.lt_or_ge (sz s b) j with g10 | g10
      · skip
        refine ⟨cI (-12), s, hW, Up.rf hch, fun X d I J R N G hI => ?_, fun X d I J R N G hS => ?_⟩
        · have hL := hI.2.2.1
          unfold TP
          show XP X _ k_H_copy 0 [.ref (0), .int (nI (a)), .int (nI (i)), .int (nI (b)), .int (nI (j)), .int (nI (n)), xj, xj] [] _ _
          refine XP_n 2 (pc' := 2) (ls' := [.ref (0), .int (nI (a)), .int (nI (i)), .int (nI (b)), .int (nI (j)), .int (nI (n)), xj, xj]) (st' := [.int (nI (a)), .ref (0)]) (M' := (I, J, Rx R, N, G)) rfl ?_
          refine XP_pure rfl rfl (c_sheetAtT (show a < 4 by omega)) ?_
          refine XP_n 3 (pc' := 6) (ls' := [.ref (0), .int (nI (a)), .int (nI (i)), .int (nI (b)), .int (nI (j)), .int (nI (n)), .ref (87 + 2 * a), xj]) (st' := [.int (nI (b)), .ref (0)]) (M' := (I, J, Rx R, N, G)) rfl ?_
          refine XP_pure rfl rfl (c_sheetAtT (show b < 4 by omega)) ?_
          refine XP_n 6 (pc' := 15) (ls' := [.ref (0), .int (nI (a)), .int (nI (i)), .int (nI (b)), .int (nI (j)), .int (nI (n)), .ref (87 + 2 * a), .ref (87 + 2 * b)]) (st' := [.ref (87 + 2 * a)]) (M' := (I, J, Rx R, N, G)) rfl ?_
          refine XP_pure rfl (by show (isO (87 + 2 * a) 8 || false) = true; rw [sh_o ha]; rfl) (c_missF hI.1 ha g2) ?_
          refine XP_ifN (x := 0)  rfl (by omega) (fun (b16 : ¬ 0 = 0) => absurd b16 (by omega)) (fun (b16 : 0 = 0) => ?_)
          refine XP_n 1 (pc' := 18) (ls' := [.ref (0), .int (nI (a)), .int (nI (i)), .int (nI (b)), .int (nI (j)), .int (nI (n)), .ref (87 + 2 * a), .ref (87 + 2 * b)]) (st' := [.ref (87 + 2 * b)]) (M' := (I, J, Rx R, N, G)) rfl ?_
          refine XP_pure rfl (by show (isO (87 + 2 * b) 8 || false) = true; rw [sh_o hb]; rfl) (c_missF hI.1 hb g3) ?_
          refine XP_ifN (x := 0)  rfl (by omega) (fun (b19 : 0 = 0) => ?_) (fun (b19 : ¬ 0 = 0) => absurd b19 (by omega))
          refine XP_n 1 (pc' := 23) (ls' := [.ref (0), .int (nI (a)), .int (nI (i)), .int (nI (b)), .int (nI (j)), .int (nI (n)), .ref (87 + 2 * a), .ref (87 + 2 * b)]) (st' := [.ref (87 + 2 * a)]) (M' := (I, J, Rx R, N, G)) rfl ?_
          refine XP_getw rfl (by rw [sh_o (show a < 4 by omega)]; rfl) ?_
          show XP X _ k_H_copy 24 [.ref (0), .int (nI (a)), .int (nI (i)), .int (nI (b)), .int (nI (j)), .int (nI (n)), .ref (87 + 2 * a), .ref (87 + 2 * b)] [.int (I (87 + 2 * a) 0)] _ _
          rw [show I (87 + 2 * a) 0 = s 120 a from hI.1 _ _ _ _ (sh_m0 (show a < 4 by omega))]
          refine XP_n 1 (pc' := 25) (ls' := [.ref (0), .int (nI (a)), .int (nI (i)), .int (nI (b)), .int (nI (j)), .int (nI (n)), .ref (87 + 2 * a), .ref (87 + 2 * b)]) (st' := [.ref (87 + 2 * b), .int (s 120 a)]) (M' := (I, J, Rx R, N, G)) rfl ?_
          refine XP_getw rfl (by rw [sh_o (show b < 4 by omega)]; rfl) ?_
          show XP X _ k_H_copy 26 [.ref (0), .int (nI (a)), .int (nI (i)), .int (nI (b)), .int (nI (j)), .int (nI (n)), .ref (87 + 2 * a), .ref (87 + 2 * b)] [.int (I (87 + 2 * b) 0), .int (s 120 a)] _ _
          rw [show I (87 + 2 * b) 0 = s 120 b from hI.1 _ _ _ _ (sh_m0 (show b < 4 by omega))]
          refine XP_icD rfl (fun (b26 : s 120 a = s 120 b) => ?_) (fun (b26 : ¬ s 120 a = s 120 b) => absurd b26 (by first | exact g4 | exact fun z => z g4 | exact Int32.not_le.mpr g4 | exact Int32.not_lt.mpr (Int32.not_lt.mp g4) | omega))
          refine XP_n 3 (pc' := 32) (ls' := [.ref (0), .int (nI (a)), .int (nI (i)), .int (nI (b)), .int (nI (j)), .int (nI (n)), .ref (87 + 2 * a), .ref (87 + 2 * b)]) (st' := [.int (nI (n)), .int (nI (i)), .ref (87 + 2 * a)]) (M' := (I, J, Rx R, N, G)) rfl ?_
          refine XP_pure rfl (by show (isO (87 + 2 * a) 8 || false) = true; rw [sh_o ha]; rfl) (c_reachF hI.1 hW ha hi hn g7) ?_
          refine XP_ifN (x := 0)  rfl (by omega) (fun (b33 : 0 = 0) => ?_) (fun (b33 : ¬ 0 = 0) => absurd b33 (by omega))
          refine XP_n 1 (pc' := 40) (ls' := [.ref (0), .int (nI (a)), .int (nI (i)), .int (nI (b)), .int (nI (j)), .int (nI (n)), .ref (87 + 2 * a), .ref (87 + 2 * b)]) (st' := [.int (cI (-12))]) (M' := (I, J, Rx R, N, G)) rfl ?_
          exact XP_ret rfl ⟨rfl, _, rfl, hI.1.C, hI.2.2.1, hI.2.2.2.1, FrM.rf⟩
        · unfold TP
          show XP X _ k_M_copy 0 [.ref (99), .int (nI (a)), .int (nI (i)), .int (nI (b)), .int (nI (j)), .int (nI (n)), xj, xj, xj, xj] [] _ _
          refine XP_n 3 (pc' := 3) (ls' := [.ref (99), .int (nI (a)), .int (nI (i)), .int (nI (b)), .int (nI (j)), .int (nI (n)), xj, xj, xj, xj]) (st' := [.int (nI (3)), .int (nI (0)), .int (nI (a))]) (M' := (I, J, Rx R, N, G)) rfl ?_
          refine XP_pure rfl rfl (w_M X _ _ 0 3 _) ?_
          refine XP_s rfl ?_
          refine XP_beq (fun b4 => absurd g0 b4) (fun b4 => ?_)
          refine XP_n 3 (pc' := 8) (ls' := [.ref (99), .int (nI (a)), .int (nI (i)), .int (nI (b)), .int (nI (j)), .int (nI (n)), xj, xj, xj, xj]) (st' := [.int (nI (3)), .int (nI (0)), .int (nI (b))]) (M' := (I, J, Rx R, N, G)) rfl ?_
          refine XP_pure rfl rfl (w_M X _ _ 0 3 _) ?_
          refine XP_s rfl ?_
          refine XP_bne (fun b9 => ?_) (fun b9 => absurd g1 b9)
          refine XP_n 3 (pc' := 15) (ls' := [.ref (99), .int (nI (a)), .int (nI (i)), .int (nI (b)), .int (nI (j)), .int (nI (n)), xj, xj, xj, xj]) (st' := [.int (nI (a)), .ref (120)]) (M' := (I, J, Rx R, N, G)) rfl ?_
          refine XP_ialdM hS rfl rfl (show a < 4 by omega) rfl (by omega) rfl ?_
          refine XP_n 1 (pc' := 17) (ls' := [.ref (99), .int (nI (a)), .int (nI (i)), .int (nI (b)), .int (nI (j)), .int (nI (n)), xj, xj, xj, xj]) (st' := [.int (cI (-1)), .int (s 120 a)]) (M' := (I, J, Rx R, N, G)) rfl ?_
          refine XP_icD rfl (fun (b17 : s 120 a = cI (-1)) => absurd b17 (by first | exact g2 | exact fun z => z g2 | exact Int32.not_le.mpr g2 | exact Int32.not_lt.mpr (Int32.not_lt.mp g2) | omega)) (fun (b17 : ¬ s 120 a = cI (-1)) => ?_)
          refine XP_n 3 (pc' := 21) (ls' := [.ref (99), .int (nI (a)), .int (nI (i)), .int (nI (b)), .int (nI (j)), .int (nI (n)), xj, xj, xj, xj]) (st' := [.int (nI (b)), .ref (120)]) (M' := (I, J, Rx R, N, G)) rfl ?_
          refine XP_ialdM hS rfl rfl (show b < 4 by omega) rfl (by omega) rfl ?_
          refine XP_n 1 (pc' := 23) (ls' := [.ref (99), .int (nI (a)), .int (nI (i)), .int (nI (b)), .int (nI (j)), .int (nI (n)), xj, xj, xj, xj]) (st' := [.int (cI (-1)), .int (s 120 b)]) (M' := (I, J, Rx R, N, G)) rfl ?_
          refine XP_icD rfl (fun (b23 : ¬ s 120 b = cI (-1)) => ?_) (fun (b23 : s 120 b = cI (-1)) => absurd b23 (by first | exact g3 | exact fun z => z g3 | exact Int32.not_le.mpr g3 | exact Int32.not_lt.mpr (Int32.not_lt.mp g3) | omega))
          refine XP_n 3 (pc' := 29) (ls' := [.ref (99), .int (nI (a)), .int (nI (i)), .int (nI (b)), .int (nI (j)), .int (nI (n)), xj, xj, xj, xj]) (st' := [.int (nI (a)), .ref (120)]) (M' := (I, J, Rx R, N, G)) rfl ?_
          refine XP_ialdM hS rfl rfl (show a < 4 by omega) rfl (by omega) rfl ?_
          refine XP_n 3 (pc' := 33) (ls' := [.ref (99), .int (nI (a)), .int (nI (i)), .int (nI (b)), .int (nI (j)), .int (nI (n)), xj, xj, xj, xj]) (st' := [.int (nI (b)), .ref (120), .int (s 120 a)]) (M' := (I, J, Rx R, N, G)) rfl ?_
          refine XP_ialdM hS rfl rfl (show b < 4 by omega) rfl (by omega) rfl ?_
          refine XP_icD rfl (fun (b34 : s 120 a = s 120 b) => ?_) (fun (b34 : ¬ s 120 a = s 120 b) => absurd b34 (by first | exact g4 | exact fun z => z g4 | exact Int32.not_le.mpr g4 | exact Int32.not_lt.mpr (Int32.not_lt.mp g4) | omega))
          refine XP_n 1 (pc' := 38) (ls' := [.ref (99), .int (nI (a)), .int (nI (i)), .int (nI (b)), .int (nI (j)), .int (nI (n)), xj, xj, xj, xj]) (st' := [.int (nI (n))]) (M' := (I, J, Rx R, N, G)) rfl ?_
          refine XP_ifN (x := n)  rfl (by omega) (fun (b38 : n < 0) => absurd b38 (by omega)) (fun (b38 : 0 ≤ n) => ?_)
          refine XP_n 1 (pc' := 40) (ls' := [.ref (99), .int (nI (a)), .int (nI (i)), .int (nI (b)), .int (nI (j)), .int (nI (n)), xj, xj, xj, xj]) (st' := [.int (nI (i))]) (M' := (I, J, Rx R, N, G)) rfl ?_
          refine XP_ifN (x := i)  rfl (by omega) (fun (b40 : i < 0) => absurd b40 (by omega)) (fun (b40 : 0 ≤ i) => ?_)
          refine XP_n 1 (pc' := 42) (ls' := [.ref (99), .int (nI (a)), .int (nI (i)), .int (nI (b)), .int (nI (j)), .int (nI (n)), xj, xj, xj, xj]) (st' := [.int (nI (j))]) (M' := (I, J, Rx R, N, G)) rfl ?_
          refine XP_ifN (x := j)  rfl (by omega) (fun (b42 : j < 0) => absurd b42 (by omega)) (fun (b42 : 0 ≤ j) => ?_)
          refine XP_n 4 (pc' := 47) (ls' := [.ref (99), .int (nI (a)), .int (nI (i)), .int (nI (b)), .int (nI (j)), .int (nI (n)), xj, xj, xj, xj]) (st' := [.int (nI (a)), .ref (121), .int (nI (i))]) (M' := (I, J, Rx R, N, G)) rfl ?_
          refine XP_ialdM hS rfl rfl (show a < 4 by omega) rfl (by omega) rfl ?_
          rw [(hW.sz1 ha).1]
          refine XP_icN (x := i) (y := sz s a) rfl (by omega) (by omega) (fun (b48 : sz s a < i) => absurd b48 (by omega)) (fun (b48 : i ≤ sz s a) => ?_)
          refine XP_n 4 (pc' := 53) (ls' := [.ref (99), .int (nI (a)), .int (nI (i)), .int (nI (b)), .int (nI (j)), .int (nI (n)), xj, xj, xj, xj]) (st' := [.int (nI (b)), .ref (121), .int (nI (j))]) (M' := (I, J, Rx R, N, G)) rfl ?_
          refine XP_ialdM hS rfl rfl (show b < 4 by omega) rfl (by omega) rfl ?_
          rw [(hW.sz1 hb).1]
          refine XP_icN (x := j) (y := sz s b) rfl (by omega) (by omega) (fun (b54 : sz s b < j) => ?_) (fun (b54 : j ≤ sz s b) => absurd b54 (by omega))
          refine XP_n 1 (pc' := 72) (ls' := [.ref (99), .int (nI (a)), .int (nI (i)), .int (nI (b)), .int (nI (j)), .int (nI (n)), xj, xj, xj, xj]) (st' := [.int (cI (-12))]) (M' := (I, J, Rx R, N, G)) rfl ?_
          exact XP_ret rfl ⟨rfl, _, rfl, hS, FrC.rf⟩
      · skip
        refine ⟨cI (-12), s, hW, Up.rf hch, fun X d I J R N G hI => ?_, fun X d I J R N G hS => ?_⟩
        · have hL := hI.2.2.1
          unfold TP
          show XP X _ k_H_copy 0 [.ref (0), .int (nI (a)), .int (nI (i)), .int (nI (b)), .int (nI (j)), .int (nI (n)), xj, xj] [] _ _
          refine XP_n 2 (pc' := 2) (ls' := [.ref (0), .int (nI (a)), .int (nI (i)), .int (nI (b)), .int (nI (j)), .int (nI (n)), xj, xj]) (st' := [.int (nI (a)), .ref (0)]) (M' := (I, J, Rx R, N, G)) rfl ?_
          refine XP_pure rfl rfl (c_sheetAtT (show a < 4 by omega)) ?_
          refine XP_n 3 (pc' := 6) (ls' := [.ref (0), .int (nI (a)), .int (nI (i)), .int (nI (b)), .int (nI (j)), .int (nI (n)), .ref (87 + 2 * a), xj]) (st' := [.int (nI (b)), .ref (0)]) (M' := (I, J, Rx R, N, G)) rfl ?_
          refine XP_pure rfl rfl (c_sheetAtT (show b < 4 by omega)) ?_
          refine XP_n 6 (pc' := 15) (ls' := [.ref (0), .int (nI (a)), .int (nI (i)), .int (nI (b)), .int (nI (j)), .int (nI (n)), .ref (87 + 2 * a), .ref (87 + 2 * b)]) (st' := [.ref (87 + 2 * a)]) (M' := (I, J, Rx R, N, G)) rfl ?_
          refine XP_pure rfl (by show (isO (87 + 2 * a) 8 || false) = true; rw [sh_o ha]; rfl) (c_missF hI.1 ha g2) ?_
          refine XP_ifN (x := 0)  rfl (by omega) (fun (b16 : ¬ 0 = 0) => absurd b16 (by omega)) (fun (b16 : 0 = 0) => ?_)
          refine XP_n 1 (pc' := 18) (ls' := [.ref (0), .int (nI (a)), .int (nI (i)), .int (nI (b)), .int (nI (j)), .int (nI (n)), .ref (87 + 2 * a), .ref (87 + 2 * b)]) (st' := [.ref (87 + 2 * b)]) (M' := (I, J, Rx R, N, G)) rfl ?_
          refine XP_pure rfl (by show (isO (87 + 2 * b) 8 || false) = true; rw [sh_o hb]; rfl) (c_missF hI.1 hb g3) ?_
          refine XP_ifN (x := 0)  rfl (by omega) (fun (b19 : 0 = 0) => ?_) (fun (b19 : ¬ 0 = 0) => absurd b19 (by omega))
          refine XP_n 1 (pc' := 23) (ls' := [.ref (0), .int (nI (a)), .int (nI (i)), .int (nI (b)), .int (nI (j)), .int (nI (n)), .ref (87 + 2 * a), .ref (87 + 2 * b)]) (st' := [.ref (87 + 2 * a)]) (M' := (I, J, Rx R, N, G)) rfl ?_
          refine XP_getw rfl (by rw [sh_o (show a < 4 by omega)]; rfl) ?_
          show XP X _ k_H_copy 24 [.ref (0), .int (nI (a)), .int (nI (i)), .int (nI (b)), .int (nI (j)), .int (nI (n)), .ref (87 + 2 * a), .ref (87 + 2 * b)] [.int (I (87 + 2 * a) 0)] _ _
          rw [show I (87 + 2 * a) 0 = s 120 a from hI.1 _ _ _ _ (sh_m0 (show a < 4 by omega))]
          refine XP_n 1 (pc' := 25) (ls' := [.ref (0), .int (nI (a)), .int (nI (i)), .int (nI (b)), .int (nI (j)), .int (nI (n)), .ref (87 + 2 * a), .ref (87 + 2 * b)]) (st' := [.ref (87 + 2 * b), .int (s 120 a)]) (M' := (I, J, Rx R, N, G)) rfl ?_
          refine XP_getw rfl (by rw [sh_o (show b < 4 by omega)]; rfl) ?_
          show XP X _ k_H_copy 26 [.ref (0), .int (nI (a)), .int (nI (i)), .int (nI (b)), .int (nI (j)), .int (nI (n)), .ref (87 + 2 * a), .ref (87 + 2 * b)] [.int (I (87 + 2 * b) 0), .int (s 120 a)] _ _
          rw [show I (87 + 2 * b) 0 = s 120 b from hI.1 _ _ _ _ (sh_m0 (show b < 4 by omega))]
          refine XP_icD rfl (fun (b26 : s 120 a = s 120 b) => ?_) (fun (b26 : ¬ s 120 a = s 120 b) => absurd b26 (by first | exact g4 | exact fun z => z g4 | exact Int32.not_le.mpr g4 | exact Int32.not_lt.mpr (Int32.not_lt.mp g4) | omega))
          refine XP_n 3 (pc' := 32) (ls' := [.ref (0), .int (nI (a)), .int (nI (i)), .int (nI (b)), .int (nI (j)), .int (nI (n)), .ref (87 + 2 * a), .ref (87 + 2 * b)]) (st' := [.int (nI (n)), .int (nI (i)), .ref (87 + 2 * a)]) (M' := (I, J, Rx R, N, G)) rfl ?_
          refine XP_pure rfl (by show (isO (87 + 2 * a) 8 || false) = true; rw [sh_o ha]; rfl) (c_reachF hI.1 hW ha hi hn g7) ?_
          refine XP_ifN (x := 0)  rfl (by omega) (fun (b33 : 0 = 0) => ?_) (fun (b33 : ¬ 0 = 0) => absurd b33 (by omega))
          refine XP_n 1 (pc' := 40) (ls' := [.ref (0), .int (nI (a)), .int (nI (i)), .int (nI (b)), .int (nI (j)), .int (nI (n)), .ref (87 + 2 * a), .ref (87 + 2 * b)]) (st' := [.int (cI (-12))]) (M' := (I, J, Rx R, N, G)) rfl ?_
          exact XP_ret rfl ⟨rfl, _, rfl, hI.1.C, hI.2.2.1, hI.2.2.2.1, FrM.rf⟩
        · unfold TP
          show XP X _ k_M_copy 0 [.ref (99), .int (nI (a)), .int (nI (i)), .int (nI (b)), .int (nI (j)), .int (nI (n)), xj, xj, xj, xj] [] _ _
          refine XP_n 3 (pc' := 3) (ls' := [.ref (99), .int (nI (a)), .int (nI (i)), .int (nI (b)), .int (nI (j)), .int (nI (n)), xj, xj, xj, xj]) (st' := [.int (nI (3)), .int (nI (0)), .int (nI (a))]) (M' := (I, J, Rx R, N, G)) rfl ?_
          refine XP_pure rfl rfl (w_M X _ _ 0 3 _) ?_
          refine XP_s rfl ?_
          refine XP_beq (fun b4 => absurd g0 b4) (fun b4 => ?_)
          refine XP_n 3 (pc' := 8) (ls' := [.ref (99), .int (nI (a)), .int (nI (i)), .int (nI (b)), .int (nI (j)), .int (nI (n)), xj, xj, xj, xj]) (st' := [.int (nI (3)), .int (nI (0)), .int (nI (b))]) (M' := (I, J, Rx R, N, G)) rfl ?_
          refine XP_pure rfl rfl (w_M X _ _ 0 3 _) ?_
          refine XP_s rfl ?_
          refine XP_bne (fun b9 => ?_) (fun b9 => absurd g1 b9)
          refine XP_n 3 (pc' := 15) (ls' := [.ref (99), .int (nI (a)), .int (nI (i)), .int (nI (b)), .int (nI (j)), .int (nI (n)), xj, xj, xj, xj]) (st' := [.int (nI (a)), .ref (120)]) (M' := (I, J, Rx R, N, G)) rfl ?_
          refine XP_ialdM hS rfl rfl (show a < 4 by omega) rfl (by omega) rfl ?_
          refine XP_n 1 (pc' := 17) (ls' := [.ref (99), .int (nI (a)), .int (nI (i)), .int (nI (b)), .int (nI (j)), .int (nI (n)), xj, xj, xj, xj]) (st' := [.int (cI (-1)), .int (s 120 a)]) (M' := (I, J, Rx R, N, G)) rfl ?_
          refine XP_icD rfl (fun (b17 : s 120 a = cI (-1)) => absurd b17 (by first | exact g2 | exact fun z => z g2 | exact Int32.not_le.mpr g2 | exact Int32.not_lt.mpr (Int32.not_lt.mp g2) | omega)) (fun (b17 : ¬ s 120 a = cI (-1)) => ?_)
          refine XP_n 3 (pc' := 21) (ls' := [.ref (99), .int (nI (a)), .int (nI (i)), .int (nI (b)), .int (nI (j)), .int (nI (n)), xj, xj, xj, xj]) (st' := [.int (nI (b)), .ref (120)]) (M' := (I, J, Rx R, N, G)) rfl ?_
          refine XP_ialdM hS rfl rfl (show b < 4 by omega) rfl (by omega) rfl ?_
          refine XP_n 1 (pc' := 23) (ls' := [.ref (99), .int (nI (a)), .int (nI (i)), .int (nI (b)), .int (nI (j)), .int (nI (n)), xj, xj, xj, xj]) (st' := [.int (cI (-1)), .int (s 120 b)]) (M' := (I, J, Rx R, N, G)) rfl ?_
          refine XP_icD rfl (fun (b23 : ¬ s 120 b = cI (-1)) => ?_) (fun (b23 : s 120 b = cI (-1)) => absurd b23 (by first | exact g3 | exact fun z => z g3 | exact Int32.not_le.mpr g3 | exact Int32.not_lt.mpr (Int32.not_lt.mp g3) | omega))
          refine XP_n 3 (pc' := 29) (ls' := [.ref (99), .int (nI (a)), .int (nI (i)), .int (nI (b)), .int (nI (j)), .int (nI (n)), xj, xj, xj, xj]) (st' := [.int (nI (a)), .ref (120)]) (M' := (I, J, Rx R, N, G)) rfl ?_
          refine XP_ialdM hS rfl rfl (show a < 4 by omega) rfl (by omega) rfl ?_
          refine XP_n 3 (pc' := 33) (ls' := [.ref (99), .int (nI (a)), .int (nI (i)), .int (nI (b)), .int (nI (j)), .int (nI (n)), xj, xj, xj, xj]) (st' := [.int (nI (b)), .ref (120), .int (s 120 a)]) (M' := (I, J, Rx R, N, G)) rfl ?_
          refine XP_ialdM hS rfl rfl (show b < 4 by omega) rfl (by omega) rfl ?_
          refine XP_icD rfl (fun (b34 : s 120 a = s 120 b) => ?_) (fun (b34 : ¬ s 120 a = s 120 b) => absurd b34 (by first | exact g4 | exact fun z => z g4 | exact Int32.not_le.mpr g4 | exact Int32.not_lt.mpr (Int32.not_lt.mp g4) | omega))
          refine XP_n 1 (pc' := 38) (ls' := [.ref (99), .int (nI (a)), .int (nI (i)), .int (nI (b)), .int (nI (j)), .int (nI (n)), xj, xj, xj, xj]) (st' := [.int (nI (n))]) (M' := (I, J, Rx R, N, G)) rfl ?_
          refine XP_ifN (x := n)  rfl (by omega) (fun (b38 : n < 0) => absurd b38 (by omega)) (fun (b38 : 0 ≤ n) => ?_)
          refine XP_n 1 (pc' := 40) (ls' := [.ref (99), .int (nI (a)), .int (nI (i)), .int (nI (b)), .int (nI (j)), .int (nI (n)), xj, xj, xj, xj]) (st' := [.int (nI (i))]) (M' := (I, J, Rx R, N, G)) rfl ?_
          refine XP_ifN (x := i)  rfl (by omega) (fun (b40 : i < 0) => absurd b40 (by omega)) (fun (b40 : 0 ≤ i) => ?_)
          refine XP_n 1 (pc' := 42) (ls' := [.ref (99), .int (nI (a)), .int (nI (i)), .int (nI (b)), .int (nI (j)), .int (nI (n)), xj, xj, xj, xj]) (st' := [.int (nI (j))]) (M' := (I, J, Rx R, N, G)) rfl ?_
          refine XP_ifN (x := j)  rfl (by omega) (fun (b42 : j < 0) => absurd b42 (by omega)) (fun (b42 : 0 ≤ j) => ?_)
          refine XP_n 4 (pc' := 47) (ls' := [.ref (99), .int (nI (a)), .int (nI (i)), .int (nI (b)), .int (nI (j)), .int (nI (n)), xj, xj, xj, xj]) (st' := [.int (nI (a)), .ref (121), .int (nI (i))]) (M' := (I, J, Rx R, N, G)) rfl ?_
          refine XP_ialdM hS rfl rfl (show a < 4 by omega) rfl (by omega) rfl ?_
          rw [(hW.sz1 ha).1]
          refine XP_icN (x := i) (y := sz s a) rfl (by omega) (by omega) (fun (b48 : sz s a < i) => absurd b48 (by omega)) (fun (b48 : i ≤ sz s a) => ?_)
          refine XP_n 4 (pc' := 53) (ls' := [.ref (99), .int (nI (a)), .int (nI (i)), .int (nI (b)), .int (nI (j)), .int (nI (n)), xj, xj, xj, xj]) (st' := [.int (nI (b)), .ref (121), .int (nI (j))]) (M' := (I, J, Rx R, N, G)) rfl ?_
          refine XP_ialdM hS rfl rfl (show b < 4 by omega) rfl (by omega) rfl ?_
          rw [(hW.sz1 hb).1]
          refine XP_icN (x := j) (y := sz s b) rfl (by omega) (by omega) (fun (b54 : sz s b < j) => absurd b54 (by omega)) (fun (b54 : j ≤ sz s b) => ?_)
          refine XP_n 4 (pc' := 59) (ls' := [.ref (99), .int (nI (a)), .int (nI (i)), .int (nI (b)), .int (nI (j)), .int (nI (n)), xj, xj, xj, xj]) (st' := [.int (nI (a)), .ref (121), .int (nI (n))]) (M' := (I, J, Rx R, N, G)) rfl ?_
          refine XP_ialdM hS rfl rfl (show a < 4 by omega) rfl (by omega) rfl ?_
          rw [(hW.sz1 ha).1]
          refine XP_n 2 (pc' := 62) (ls' := [.ref (99), .int (nI (a)), .int (nI (i)), .int (nI (b)), .int (nI (j)), .int (nI (n)), xj, xj, xj, xj]) (st' := [.int ((nI (sz s a)) - (nI (i))), .int (nI (n))]) (M' := (I, J, Rx R, N, G)) rfl ?_
          rw [show (nI (sz s a)) - (nI (i)) = nI (sz s a - i) from nI_subE (rfl) (rfl) (by omega)]
          refine XP_icN (x := n) (y := sz s a - i) rfl (by omega) (by omega) (fun (b62 : sz s a - i < n) => ?_) (fun (b62 : n ≤ sz s a - i) => absurd b62 (by omega))
          refine XP_n 1 (pc' := 72) (ls' := [.ref (99), .int (nI (a)), .int (nI (i)), .int (nI (b)), .int (nI (j)), .int (nI (n)), xj, xj, xj, xj]) (st' := [.int (cI (-12))]) (M' := (I, J, Rx R, N, G)) rfl ?_
          exact XP_ret rfl ⟨rfl, _, rfl, hS, FrC.rf⟩
  by_cases g8 : ¬ j < 0
  rotate_left
  · skip
    refine ⟨cI (-12), s, hW, Up.rf hch, fun X d I J R N G hI => ?_, fun X d I J R N G hS => ?_⟩
    · have hL := hI.2.2.1
      unfold TP
      show XP X _ k_H_copy 0 [.ref (0), .int (nI (a)), .int (nI (i)), .int (nI (b)), .int (j), .int (nI (n)), xj, xj] [] _ _
      refine XP_n 2 (pc' := 2) (ls' := [.ref (0), .int (nI (a)), .int (nI (i)), .int (nI (b)), .int (j), .int (nI (n)), xj, xj]) (st' := [.int (nI (a)), .ref (0)]) (M' := (I, J, Rx R, N, G)) rfl ?_
      refine XP_pure rfl rfl (c_sheetAtT (show a < 4 by omega)) ?_
      refine XP_n 3 (pc' := 6) (ls' := [.ref (0), .int (nI (a)), .int (nI (i)), .int (nI (b)), .int (j), .int (nI (n)), .ref (87 + 2 * a), xj]) (st' := [.int (nI (b)), .ref (0)]) (M' := (I, J, Rx R, N, G)) rfl ?_
      refine XP_pure rfl rfl (c_sheetAtT (show b < 4 by omega)) ?_
      refine XP_n 6 (pc' := 15) (ls' := [.ref (0), .int (nI (a)), .int (nI (i)), .int (nI (b)), .int (j), .int (nI (n)), .ref (87 + 2 * a), .ref (87 + 2 * b)]) (st' := [.ref (87 + 2 * a)]) (M' := (I, J, Rx R, N, G)) rfl ?_
      refine XP_pure rfl (by show (isO (87 + 2 * a) 8 || false) = true; rw [sh_o ha]; rfl) (c_missF hI.1 ha g2) ?_
      refine XP_ifN (x := 0)  rfl (by omega) (fun (b16 : ¬ 0 = 0) => absurd b16 (by omega)) (fun (b16 : 0 = 0) => ?_)
      refine XP_n 1 (pc' := 18) (ls' := [.ref (0), .int (nI (a)), .int (nI (i)), .int (nI (b)), .int (j), .int (nI (n)), .ref (87 + 2 * a), .ref (87 + 2 * b)]) (st' := [.ref (87 + 2 * b)]) (M' := (I, J, Rx R, N, G)) rfl ?_
      refine XP_pure rfl (by show (isO (87 + 2 * b) 8 || false) = true; rw [sh_o hb]; rfl) (c_missF hI.1 hb g3) ?_
      refine XP_ifN (x := 0)  rfl (by omega) (fun (b19 : 0 = 0) => ?_) (fun (b19 : ¬ 0 = 0) => absurd b19 (by omega))
      refine XP_n 1 (pc' := 23) (ls' := [.ref (0), .int (nI (a)), .int (nI (i)), .int (nI (b)), .int (j), .int (nI (n)), .ref (87 + 2 * a), .ref (87 + 2 * b)]) (st' := [.ref (87 + 2 * a)]) (M' := (I, J, Rx R, N, G)) rfl ?_
      refine XP_getw rfl (by rw [sh_o (show a < 4 by omega)]; rfl) ?_
      show XP X _ k_H_copy 24 [.ref (0), .int (nI (a)), .int (nI (i)), .int (nI (b)), .int (j), .int (nI (n)), .ref (87 + 2 * a), .ref (87 + 2 * b)] [.int (I (87 + 2 * a) 0)] _ _
      rw [show I (87 + 2 * a) 0 = s 120 a from hI.1 _ _ _ _ (sh_m0 (show a < 4 by omega))]
      refine XP_n 1 (pc' := 25) (ls' := [.ref (0), .int (nI (a)), .int (nI (i)), .int (nI (b)), .int (j), .int (nI (n)), .ref (87 + 2 * a), .ref (87 + 2 * b)]) (st' := [.ref (87 + 2 * b), .int (s 120 a)]) (M' := (I, J, Rx R, N, G)) rfl ?_
      refine XP_getw rfl (by rw [sh_o (show b < 4 by omega)]; rfl) ?_
      show XP X _ k_H_copy 26 [.ref (0), .int (nI (a)), .int (nI (i)), .int (nI (b)), .int (j), .int (nI (n)), .ref (87 + 2 * a), .ref (87 + 2 * b)] [.int (I (87 + 2 * b) 0), .int (s 120 a)] _ _
      rw [show I (87 + 2 * b) 0 = s 120 b from hI.1 _ _ _ _ (sh_m0 (show b < 4 by omega))]
      refine XP_icD rfl (fun (b26 : s 120 a = s 120 b) => ?_) (fun (b26 : ¬ s 120 a = s 120 b) => absurd b26 (by first | exact g4 | exact fun z => z g4 | exact Int32.not_le.mpr g4 | exact Int32.not_lt.mpr (Int32.not_lt.mp g4) | omega))
      refine XP_n 3 (pc' := 32) (ls' := [.ref (0), .int (nI (a)), .int (nI (i)), .int (nI (b)), .int (j), .int (nI (n)), .ref (87 + 2 * a), .ref (87 + 2 * b)]) (st' := [.int (nI (n)), .int (nI (i)), .ref (87 + 2 * a)]) (M' := (I, J, Rx R, N, G)) rfl ?_
      refine XP_pure rfl (by show (isO (87 + 2 * a) 8 || false) = true; rw [sh_o ha]; rfl) (c_reachT hI.1 hW ha g7) ?_
      refine XP_ifN (x := 1)  rfl (by omega) (fun (b33 : 1 = 0) => absurd b33 (by omega)) (fun (b33 : ¬ 1 = 0) => ?_)
      refine XP_n 3 (pc' := 37) (ls' := [.ref (0), .int (nI (a)), .int (nI (i)), .int (nI (b)), .int (j), .int (nI (n)), .ref (87 + 2 * a), .ref (87 + 2 * b)]) (st' := [.int (nI (n)), .int (j), .ref (87 + 2 * b)]) (M' := (I, J, Rx R, N, G)) rfl ?_
      refine XP_pure rfl (by show (isO (87 + 2 * b) 8 || false) = true; rw [sh_o hb]; rfl) (c_reachI (Classical.not_not.mp g8) _) ?_
      refine XP_ifN (x := 0)  rfl (by omega) (fun (b38 : ¬ 0 = 0) => absurd b38 (by omega)) (fun (b38 : 0 = 0) => ?_)
      refine XP_n 1 (pc' := 40) (ls' := [.ref (0), .int (nI (a)), .int (nI (i)), .int (nI (b)), .int (j), .int (nI (n)), .ref (87 + 2 * a), .ref (87 + 2 * b)]) (st' := [.int (cI (-12))]) (M' := (I, J, Rx R, N, G)) rfl ?_
      exact XP_ret rfl ⟨rfl, _, rfl, hI.1.C, hI.2.2.1, hI.2.2.2.1, FrM.rf⟩
    · unfold TP
      show XP X _ k_M_copy 0 [.ref (99), .int (nI (a)), .int (nI (i)), .int (nI (b)), .int (j), .int (nI (n)), xj, xj, xj, xj] [] _ _
      refine XP_n 3 (pc' := 3) (ls' := [.ref (99), .int (nI (a)), .int (nI (i)), .int (nI (b)), .int (j), .int (nI (n)), xj, xj, xj, xj]) (st' := [.int (nI (3)), .int (nI (0)), .int (nI (a))]) (M' := (I, J, Rx R, N, G)) rfl ?_
      refine XP_pure rfl rfl (w_M X _ _ 0 3 _) ?_
      refine XP_s rfl ?_
      refine XP_beq (fun b4 => absurd g0 b4) (fun b4 => ?_)
      refine XP_n 3 (pc' := 8) (ls' := [.ref (99), .int (nI (a)), .int (nI (i)), .int (nI (b)), .int (j), .int (nI (n)), xj, xj, xj, xj]) (st' := [.int (nI (3)), .int (nI (0)), .int (nI (b))]) (M' := (I, J, Rx R, N, G)) rfl ?_
      refine XP_pure rfl rfl (w_M X _ _ 0 3 _) ?_
      refine XP_s rfl ?_
      refine XP_bne (fun b9 => ?_) (fun b9 => absurd g1 b9)
      refine XP_n 3 (pc' := 15) (ls' := [.ref (99), .int (nI (a)), .int (nI (i)), .int (nI (b)), .int (j), .int (nI (n)), xj, xj, xj, xj]) (st' := [.int (nI (a)), .ref (120)]) (M' := (I, J, Rx R, N, G)) rfl ?_
      refine XP_ialdM hS rfl rfl (show a < 4 by omega) rfl (by omega) rfl ?_
      refine XP_n 1 (pc' := 17) (ls' := [.ref (99), .int (nI (a)), .int (nI (i)), .int (nI (b)), .int (j), .int (nI (n)), xj, xj, xj, xj]) (st' := [.int (cI (-1)), .int (s 120 a)]) (M' := (I, J, Rx R, N, G)) rfl ?_
      refine XP_icD rfl (fun (b17 : s 120 a = cI (-1)) => absurd b17 (by first | exact g2 | exact fun z => z g2 | exact Int32.not_le.mpr g2 | exact Int32.not_lt.mpr (Int32.not_lt.mp g2) | omega)) (fun (b17 : ¬ s 120 a = cI (-1)) => ?_)
      refine XP_n 3 (pc' := 21) (ls' := [.ref (99), .int (nI (a)), .int (nI (i)), .int (nI (b)), .int (j), .int (nI (n)), xj, xj, xj, xj]) (st' := [.int (nI (b)), .ref (120)]) (M' := (I, J, Rx R, N, G)) rfl ?_
      refine XP_ialdM hS rfl rfl (show b < 4 by omega) rfl (by omega) rfl ?_
      refine XP_n 1 (pc' := 23) (ls' := [.ref (99), .int (nI (a)), .int (nI (i)), .int (nI (b)), .int (j), .int (nI (n)), xj, xj, xj, xj]) (st' := [.int (cI (-1)), .int (s 120 b)]) (M' := (I, J, Rx R, N, G)) rfl ?_
      refine XP_icD rfl (fun (b23 : ¬ s 120 b = cI (-1)) => ?_) (fun (b23 : s 120 b = cI (-1)) => absurd b23 (by first | exact g3 | exact fun z => z g3 | exact Int32.not_le.mpr g3 | exact Int32.not_lt.mpr (Int32.not_lt.mp g3) | omega))
      refine XP_n 3 (pc' := 29) (ls' := [.ref (99), .int (nI (a)), .int (nI (i)), .int (nI (b)), .int (j), .int (nI (n)), xj, xj, xj, xj]) (st' := [.int (nI (a)), .ref (120)]) (M' := (I, J, Rx R, N, G)) rfl ?_
      refine XP_ialdM hS rfl rfl (show a < 4 by omega) rfl (by omega) rfl ?_
      refine XP_n 3 (pc' := 33) (ls' := [.ref (99), .int (nI (a)), .int (nI (i)), .int (nI (b)), .int (j), .int (nI (n)), xj, xj, xj, xj]) (st' := [.int (nI (b)), .ref (120), .int (s 120 a)]) (M' := (I, J, Rx R, N, G)) rfl ?_
      refine XP_ialdM hS rfl rfl (show b < 4 by omega) rfl (by omega) rfl ?_
      refine XP_icD rfl (fun (b34 : s 120 a = s 120 b) => ?_) (fun (b34 : ¬ s 120 a = s 120 b) => absurd b34 (by first | exact g4 | exact fun z => z g4 | exact Int32.not_le.mpr g4 | exact Int32.not_lt.mpr (Int32.not_lt.mp g4) | omega))
      refine XP_n 1 (pc' := 38) (ls' := [.ref (99), .int (nI (a)), .int (nI (i)), .int (nI (b)), .int (j), .int (nI (n)), xj, xj, xj, xj]) (st' := [.int (nI (n))]) (M' := (I, J, Rx R, N, G)) rfl ?_
      refine XP_ifN (x := n)  rfl (by omega) (fun (b38 : n < 0) => absurd b38 (by omega)) (fun (b38 : 0 ≤ n) => ?_)
      refine XP_n 1 (pc' := 40) (ls' := [.ref (99), .int (nI (a)), .int (nI (i)), .int (nI (b)), .int (j), .int (nI (n)), xj, xj, xj, xj]) (st' := [.int (nI (i))]) (M' := (I, J, Rx R, N, G)) rfl ?_
      refine XP_ifN (x := i)  rfl (by omega) (fun (b40 : i < 0) => absurd b40 (by omega)) (fun (b40 : 0 ≤ i) => ?_)
      refine XP_n 1 (pc' := 42) (ls' := [.ref (99), .int (nI (a)), .int (nI (i)), .int (nI (b)), .int (j), .int (nI (n)), xj, xj, xj, xj]) (st' := [.int (j)]) (M' := (I, J, Rx R, N, G)) rfl ?_
      refine XP_ifD rfl (fun (b42 : j < 0) => ?_) (fun (b42 : 0 ≤ j) => absurd b42 (by first | exact (Classical.not_not.mp g8) | exact fun z => z (Classical.not_not.mp g8) | exact Int32.not_le.mpr (Classical.not_not.mp g8) | exact Int32.not_lt.mpr (Int32.not_lt.mp (Classical.not_not.mp g8)) | omega))
      have n42 := Int32.not_le.mpr b42
      refine XP_n 1 (pc' := 72) (ls' := [.ref (99), .int (nI (a)), .int (nI (i)), .int (nI (b)), .int (j), .int (nI (n)), xj, xj, xj, xj]) (st' := [.int (cI (-12))]) (M' := (I, J, Rx R, N, G)) rfl ?_
      exact XP_ret rfl ⟨rfl, _, rfl, hS, FrC.rf⟩
  obtain ⟨j, hj, rfl⟩ := nn_nat g8
  by_cases g9 : j + n ≤ sz s b
  rotate_left
  · skip
    rcases Nat.lt_or_ge (sz s b) j with g10 | g10
    · skip
      refine ⟨cI (-12), s, hW, Up.rf hch, fun X d I J R N G hI => ?_, fun X d I J R N G hS => ?_⟩
      · have hL := hI.2.2.1
        unfold TP
        show XP X _ k_H_copy 0 [.ref (0), .int (nI (a)), .int (nI (i)), .int (nI (b)), .int (nI (j)), .int (nI (n)), xj, xj] [] _ _
        refine XP_n 2 (pc' := 2) (ls' := [.ref (0), .int (nI (a)), .int (nI (i)), .int (nI (b)), .int (nI (j)), .int (nI (n)), xj, xj]) (st' := [.int (nI (a)), .ref (0)]) (M' := (I, J, Rx R, N, G)) rfl ?_
        refine XP_pure rfl rfl (c_sheetAtT (show a < 4 by omega)) ?_
        refine XP_n 3 (pc' := 6) (ls' := [.ref (0), .int (nI (a)), .int (nI (i)), .int (nI (b)), .int (nI (j)), .int (nI (n)), .ref (87 + 2 * a), xj]) (st' := [.int (nI (b)), .ref (0)]) (M' := (I, J, Rx R, N, G)) rfl ?_
        refine XP_pure rfl rfl (c_sheetAtT (show b < 4 by omega)) ?_
        refine XP_n 6 (pc' := 15) (ls' := [.ref (0), .int (nI (a)), .int (nI (i)), .int (nI (b)), .int (nI (j)), .int (nI (n)), .ref (87 + 2 * a), .ref (87 + 2 * b)]) (st' := [.ref (87 + 2 * a)]) (M' := (I, J, Rx R, N, G)) rfl ?_
        refine XP_pure rfl (by show (isO (87 + 2 * a) 8 || false) = true; rw [sh_o ha]; rfl) (c_missF hI.1 ha g2) ?_
        refine XP_ifN (x := 0)  rfl (by omega) (fun (b16 : ¬ 0 = 0) => absurd b16 (by omega)) (fun (b16 : 0 = 0) => ?_)
        refine XP_n 1 (pc' := 18) (ls' := [.ref (0), .int (nI (a)), .int (nI (i)), .int (nI (b)), .int (nI (j)), .int (nI (n)), .ref (87 + 2 * a), .ref (87 + 2 * b)]) (st' := [.ref (87 + 2 * b)]) (M' := (I, J, Rx R, N, G)) rfl ?_
        refine XP_pure rfl (by show (isO (87 + 2 * b) 8 || false) = true; rw [sh_o hb]; rfl) (c_missF hI.1 hb g3) ?_
        refine XP_ifN (x := 0)  rfl (by omega) (fun (b19 : 0 = 0) => ?_) (fun (b19 : ¬ 0 = 0) => absurd b19 (by omega))
        refine XP_n 1 (pc' := 23) (ls' := [.ref (0), .int (nI (a)), .int (nI (i)), .int (nI (b)), .int (nI (j)), .int (nI (n)), .ref (87 + 2 * a), .ref (87 + 2 * b)]) (st' := [.ref (87 + 2 * a)]) (M' := (I, J, Rx R, N, G)) rfl ?_
        refine XP_getw rfl (by rw [sh_o (show a < 4 by omega)]; rfl) ?_
        show XP X _ k_H_copy 24 [.ref (0), .int (nI (a)), .int (nI (i)), .int (nI (b)), .int (nI (j)), .int (nI (n)), .ref (87 + 2 * a), .ref (87 + 2 * b)] [.int (I (87 + 2 * a) 0)] _ _
        rw [show I (87 + 2 * a) 0 = s 120 a from hI.1 _ _ _ _ (sh_m0 (show a < 4 by omega))]
        refine XP_n 1 (pc' := 25) (ls' := [.ref (0), .int (nI (a)), .int (nI (i)), .int (nI (b)), .int (nI (j)), .int (nI (n)), .ref (87 + 2 * a), .ref (87 + 2 * b)]) (st' := [.ref (87 + 2 * b), .int (s 120 a)]) (M' := (I, J, Rx R, N, G)) rfl ?_
        refine XP_getw rfl (by rw [sh_o (show b < 4 by omega)]; rfl) ?_
        show XP X _ k_H_copy 26 [.ref (0), .int (nI (a)), .int (nI (i)), .int (nI (b)), .int (nI (j)), .int (nI (n)), .ref (87 + 2 * a), .ref (87 + 2 * b)] [.int (I (87 + 2 * b) 0), .int (s 120 a)] _ _
        rw [show I (87 + 2 * b) 0 = s 120 b from hI.1 _ _ _ _ (sh_m0 (show b < 4 by omega))]
        refine XP_icD rfl (fun (b26 : s 120 a = s 120 b) => ?_) (fun (b26 : ¬ s 120 a = s 120 b) => absurd b26 (by first | exact g4 | exact fun z => z g4 | exact Int32.not_le.mpr g4 | exact Int32.not_lt.mpr (Int32.not_lt.mp g4) | omega))
        refine XP_n 3 (pc' := 32) (ls' := [.ref (0), .int (nI (a)), .int (nI (i)), .int (nI (b)), .int (nI (j)), .int (nI (n)), .ref (87 + 2 * a), .ref (87 + 2 * b)]) (st' := [.int (nI (n)), .int (nI (i)), .ref (87 + 2 * a)]) (M' := (I, J, Rx R, N, G)) rfl ?_
        refine XP_pure rfl (by show (isO (87 + 2 * a) 8 || false) = true; rw [sh_o ha]; rfl) (c_reachT hI.1 hW ha g7) ?_
        refine XP_ifN (x := 1)  rfl (by omega) (fun (b33 : 1 = 0) => absurd b33 (by omega)) (fun (b33 : ¬ 1 = 0) => ?_)
        refine XP_n 3 (pc' := 37) (ls' := [.ref (0), .int (nI (a)), .int (nI (i)), .int (nI (b)), .int (nI (j)), .int (nI (n)), .ref (87 + 2 * a), .ref (87 + 2 * b)]) (st' := [.int (nI (n)), .int (nI (j)), .ref (87 + 2 * b)]) (M' := (I, J, Rx R, N, G)) rfl ?_
        refine XP_pure rfl (by show (isO (87 + 2 * b) 8 || false) = true; rw [sh_o hb]; rfl) (c_reachF hI.1 hW hb hj hn g9) ?_
        refine XP_ifN (x := 0)  rfl (by omega) (fun (b38 : ¬ 0 = 0) => absurd b38 (by omega)) (fun (b38 : 0 = 0) => ?_)
        refine XP_n 1 (pc' := 40) (ls' := [.ref (0), .int (nI (a)), .int (nI (i)), .int (nI (b)), .int (nI (j)), .int (nI (n)), .ref (87 + 2 * a), .ref (87 + 2 * b)]) (st' := [.int (cI (-12))]) (M' := (I, J, Rx R, N, G)) rfl ?_
        exact XP_ret rfl ⟨rfl, _, rfl, hI.1.C, hI.2.2.1, hI.2.2.2.1, FrM.rf⟩
      · unfold TP
        show XP X _ k_M_copy 0 [.ref (99), .int (nI (a)), .int (nI (i)), .int (nI (b)), .int (nI (j)), .int (nI (n)), xj, xj, xj, xj] [] _ _
        refine XP_n 3 (pc' := 3) (ls' := [.ref (99), .int (nI (a)), .int (nI (i)), .int (nI (b)), .int (nI (j)), .int (nI (n)), xj, xj, xj, xj]) (st' := [.int (nI (3)), .int (nI (0)), .int (nI (a))]) (M' := (I, J, Rx R, N, G)) rfl ?_
        refine XP_pure rfl rfl (w_M X _ _ 0 3 _) ?_
        refine XP_s rfl ?_
        refine XP_beq (fun b4 => absurd g0 b4) (fun b4 => ?_)
        refine XP_n 3 (pc' := 8) (ls' := [.ref (99), .int (nI (a)), .int (nI (i)), .int (nI (b)), .int (nI (j)), .int (nI (n)), xj, xj, xj, xj]) (st' := [.int (nI (3)), .int (nI (0)), .int (nI (b))]) (M' := (I, J, Rx R, N, G)) rfl ?_
        refine XP_pure rfl rfl (w_M X _ _ 0 3 _) ?_
        refine XP_s rfl ?_
        refine XP_bne (fun b9 => ?_) (fun b9 => absurd g1 b9)
        refine XP_n 3 (pc' := 15) (ls' := [.ref (99), .int (nI (a)), .int (nI (i)), .int (nI (b)), .int (nI (j)), .int (nI (n)), xj, xj, xj, xj]) (st' := [.int (nI (a)), .ref (120)]) (M' := (I, J, Rx R, N, G)) rfl ?_
        refine XP_ialdM hS rfl rfl (show a < 4 by omega) rfl (by omega) rfl ?_
        refine XP_n 1 (pc' := 17) (ls' := [.ref (99), .int (nI (a)), .int (nI (i)), .int (nI (b)), .int (nI (j)), .int (nI (n)), xj, xj, xj, xj]) (st' := [.int (cI (-1)), .int (s 120 a)]) (M' := (I, J, Rx R, N, G)) rfl ?_
        refine XP_icD rfl (fun (b17 : s 120 a = cI (-1)) => absurd b17 (by first | exact g2 | exact fun z => z g2 | exact Int32.not_le.mpr g2 | exact Int32.not_lt.mpr (Int32.not_lt.mp g2) | omega)) (fun (b17 : ¬ s 120 a = cI (-1)) => ?_)
        refine XP_n 3 (pc' := 21) (ls' := [.ref (99), .int (nI (a)), .int (nI (i)), .int (nI (b)), .int (nI (j)), .int (nI (n)), xj, xj, xj, xj]) (st' := [.int (nI (b)), .ref (120)]) (M' := (I, J, Rx R, N, G)) rfl ?_
        refine XP_ialdM hS rfl rfl (show b < 4 by omega) rfl (by omega) rfl ?_
        refine XP_n 1 (pc' := 23) (ls' := [.ref (99), .int (nI (a)), .int (nI (i)), .int (nI (b)), .int (nI (j)), .int (nI (n)), xj, xj, xj, xj]) (st' := [.int (cI (-1)), .int (s 120 b)]) (M' := (I, J, Rx R, N, G)) rfl ?_
        refine XP_icD rfl (fun (b23 : ¬ s 120 b = cI (-1)) => ?_) (fun (b23 : s 120 b = cI (-1)) => absurd b23 (by first | exact g3 | exact fun z => z g3 | exact Int32.not_le.mpr g3 | exact Int32.not_lt.mpr (Int32.not_lt.mp g3) | omega))
        refine XP_n 3 (pc' := 29) (ls' := [.ref (99), .int (nI (a)), .int (nI (i)), .int (nI (b)), .int (nI (j)), .int (nI (n)), xj, xj, xj, xj]) (st' := [.int (nI (a)), .ref (120)]) (M' := (I, J, Rx R, N, G)) rfl ?_
        refine XP_ialdM hS rfl rfl (show a < 4 by omega) rfl (by omega) rfl ?_
        refine XP_n 3 (pc' := 33) (ls' := [.ref (99), .int (nI (a)), .int (nI (i)), .int (nI (b)), .int (nI (j)), .int (nI (n)), xj, xj, xj, xj]) (st' := [.int (nI (b)), .ref (120), .int (s 120 a)]) (M' := (I, J, Rx R, N, G)) rfl ?_
        refine XP_ialdM hS rfl rfl (show b < 4 by omega) rfl (by omega) rfl ?_
        refine XP_icD rfl (fun (b34 : s 120 a = s 120 b) => ?_) (fun (b34 : ¬ s 120 a = s 120 b) => absurd b34 (by first | exact g4 | exact fun z => z g4 | exact Int32.not_le.mpr g4 | exact Int32.not_lt.mpr (Int32.not_lt.mp g4) | omega))
        refine XP_n 1 (pc' := 38) (ls' := [.ref (99), .int (nI (a)), .int (nI (i)), .int (nI (b)), .int (nI (j)), .int (nI (n)), xj, xj, xj, xj]) (st' := [.int (nI (n))]) (M' := (I, J, Rx R, N, G)) rfl ?_
        refine XP_ifN (x := n)  rfl (by omega) (fun (b38 : n < 0) => absurd b38 (by omega)) (fun (b38 : 0 ≤ n) => ?_)
        refine XP_n 1 (pc' := 40) (ls' := [.ref (99), .int (nI (a)), .int (nI (i)), .int (nI (b)), .int (nI (j)), .int (nI (n)), xj, xj, xj, xj]) (st' := [.int (nI (i))]) (M' := (I, J, Rx R, N, G)) rfl ?_
        refine XP_ifN (x := i)  rfl (by omega) (fun (b40 : i < 0) => absurd b40 (by omega)) (fun (b40 : 0 ≤ i) => ?_)
        refine XP_n 1 (pc' := 42) (ls' := [.ref (99), .int (nI (a)), .int (nI (i)), .int (nI (b)), .int (nI (j)), .int (nI (n)), xj, xj, xj, xj]) (st' := [.int (nI (j))]) (M' := (I, J, Rx R, N, G)) rfl ?_
        refine XP_ifN (x := j)  rfl (by omega) (fun (b42 : j < 0) => absurd b42 (by omega)) (fun (b42 : 0 ≤ j) => ?_)
        refine XP_n 4 (pc' := 47) (ls' := [.ref (99), .int (nI (a)), .int (nI (i)), .int (nI (b)), .int (nI (j)), .int (nI (n)), xj, xj, xj, xj]) (st' := [.int (nI (a)), .ref (121), .int (nI (i))]) (M' := (I, J, Rx R, N, G)) rfl ?_
        refine XP_ialdM hS rfl rfl (show a < 4 by omega) rfl (by omega) rfl ?_
        rw [(hW.sz1 ha).1]
        refine XP_icN (x := i) (y := sz s a) rfl (by omega) (by omega) (fun (b48 : sz s a < i) => absurd b48 (by omega)) (fun (b48 : i ≤ sz s a) => ?_)
        refine XP_n 4 (pc' := 53) (ls' := [.ref (99), .int (nI (a)), .int (nI (i)), .int (nI (b)), .int (nI (j)), .int (nI (n)), xj, xj, xj, xj]) (st' := [.int (nI (b)), .ref (121), .int (nI (j))]) (M' := (I, J, Rx R, N, G)) rfl ?_
        refine XP_ialdM hS rfl rfl (show b < 4 by omega) rfl (by omega) rfl ?_
        rw [(hW.sz1 hb).1]
        refine XP_icN (x := j) (y := sz s b) rfl (by omega) (by omega) (fun (b54 : sz s b < j) => ?_) (fun (b54 : j ≤ sz s b) => absurd b54 (by omega))
        refine XP_n 1 (pc' := 72) (ls' := [.ref (99), .int (nI (a)), .int (nI (i)), .int (nI (b)), .int (nI (j)), .int (nI (n)), xj, xj, xj, xj]) (st' := [.int (cI (-12))]) (M' := (I, J, Rx R, N, G)) rfl ?_
        exact XP_ret rfl ⟨rfl, _, rfl, hS, FrC.rf⟩
    · skip
      refine ⟨cI (-12), s, hW, Up.rf hch, fun X d I J R N G hI => ?_, fun X d I J R N G hS => ?_⟩
      · have hL := hI.2.2.1
        unfold TP
        show XP X _ k_H_copy 0 [.ref (0), .int (nI (a)), .int (nI (i)), .int (nI (b)), .int (nI (j)), .int (nI (n)), xj, xj] [] _ _
        refine XP_n 2 (pc' := 2) (ls' := [.ref (0), .int (nI (a)), .int (nI (i)), .int (nI (b)), .int (nI (j)), .int (nI (n)), xj, xj]) (st' := [.int (nI (a)), .ref (0)]) (M' := (I, J, Rx R, N, G)) rfl ?_
        refine XP_pure rfl rfl (c_sheetAtT (show a < 4 by omega)) ?_
        refine XP_n 3 (pc' := 6) (ls' := [.ref (0), .int (nI (a)), .int (nI (i)), .int (nI (b)), .int (nI (j)), .int (nI (n)), .ref (87 + 2 * a), xj]) (st' := [.int (nI (b)), .ref (0)]) (M' := (I, J, Rx R, N, G)) rfl ?_
        refine XP_pure rfl rfl (c_sheetAtT (show b < 4 by omega)) ?_
        refine XP_n 6 (pc' := 15) (ls' := [.ref (0), .int (nI (a)), .int (nI (i)), .int (nI (b)), .int (nI (j)), .int (nI (n)), .ref (87 + 2 * a), .ref (87 + 2 * b)]) (st' := [.ref (87 + 2 * a)]) (M' := (I, J, Rx R, N, G)) rfl ?_
        refine XP_pure rfl (by show (isO (87 + 2 * a) 8 || false) = true; rw [sh_o ha]; rfl) (c_missF hI.1 ha g2) ?_
        refine XP_ifN (x := 0)  rfl (by omega) (fun (b16 : ¬ 0 = 0) => absurd b16 (by omega)) (fun (b16 : 0 = 0) => ?_)
        refine XP_n 1 (pc' := 18) (ls' := [.ref (0), .int (nI (a)), .int (nI (i)), .int (nI (b)), .int (nI (j)), .int (nI (n)), .ref (87 + 2 * a), .ref (87 + 2 * b)]) (st' := [.ref (87 + 2 * b)]) (M' := (I, J, Rx R, N, G)) rfl ?_
        refine XP_pure rfl (by show (isO (87 + 2 * b) 8 || false) = true; rw [sh_o hb]; rfl) (c_missF hI.1 hb g3) ?_
        refine XP_ifN (x := 0)  rfl (by omega) (fun (b19 : 0 = 0) => ?_) (fun (b19 : ¬ 0 = 0) => absurd b19 (by omega))
        refine XP_n 1 (pc' := 23) (ls' := [.ref (0), .int (nI (a)), .int (nI (i)), .int (nI (b)), .int (nI (j)), .int (nI (n)), .ref (87 + 2 * a), .ref (87 + 2 * b)]) (st' := [.ref (87 + 2 * a)]) (M' := (I, J, Rx R, N, G)) rfl ?_
        refine XP_getw rfl (by rw [sh_o (show a < 4 by omega)]; rfl) ?_
        show XP X _ k_H_copy 24 [.ref (0), .int (nI (a)), .int (nI (i)), .int (nI (b)), .int (nI (j)), .int (nI (n)), .ref (87 + 2 * a), .ref (87 + 2 * b)] [.int (I (87 + 2 * a) 0)] _ _
        rw [show I (87 + 2 * a) 0 = s 120 a from hI.1 _ _ _ _ (sh_m0 (show a < 4 by omega))]
        refine XP_n 1 (pc' := 25) (ls' := [.ref (0), .int (nI (a)), .int (nI (i)), .int (nI (b)), .int (nI (j)), .int (nI (n)), .ref (87 + 2 * a), .ref (87 + 2 * b)]) (st' := [.ref (87 + 2 * b), .int (s 120 a)]) (M' := (I, J, Rx R, N, G)) rfl ?_
        refine XP_getw rfl (by rw [sh_o (show b < 4 by omega)]; rfl) ?_
        show XP X _ k_H_copy 26 [.ref (0), .int (nI (a)), .int (nI (i)), .int (nI (b)), .int (nI (j)), .int (nI (n)), .ref (87 + 2 * a), .ref (87 + 2 * b)] [.int (I (87 + 2 * b) 0), .int (s 120 a)] _ _
        rw [show I (87 + 2 * b) 0 = s 120 b from hI.1 _ _ _ _ (sh_m0 (show b < 4 by omega))]
        refine XP_icD rfl (fun (b26 : s 120 a = s 120 b) => ?_) (fun (b26 : ¬ s 120 a = s 120 b) => absurd b26 (by first | exact g4 | exact fun z => z g4 | exact Int32.not_le.mpr g4 | exact Int32.not_lt.mpr (Int32.not_lt.mp g4) | omega))
        refine XP_n 3 (pc' := 32) (ls' := [.ref (0), .int (nI (a)), .int (nI (i)), .int (nI (b)), .int (nI (j)), .int (nI (n)), .ref (87 + 2 * a), .ref (87 + 2 * b)]) (st' := [.int (nI (n)), .int (nI (i)), .ref (87 + 2 * a)]) (M' := (I, J, Rx R, N, G)) rfl ?_
        refine XP_pure rfl (by show (isO (87 + 2 * a) 8 || false) = true; rw [sh_o ha]; rfl) (c_reachT hI.1 hW ha g7) ?_
        refine XP_ifN (x := 1)  rfl (by omega) (fun (b33 : 1 = 0) => absurd b33 (by omega)) (fun (b33 : ¬ 1 = 0) => ?_)
        refine XP_n 3 (pc' := 37) (ls' := [.ref (0), .int (nI (a)), .int (nI (i)), .int (nI (b)), .int (nI (j)), .int (nI (n)), .ref (87 + 2 * a), .ref (87 + 2 * b)]) (st' := [.int (nI (n)), .int (nI (j)), .ref (87 + 2 * b)]) (M' := (I, J, Rx R, N, G)) rfl ?_
        refine XP_pure rfl (by show (isO (87 + 2 * b) 8 || false) = true; rw [sh_o hb]; rfl) (c_reachF hI.1 hW hb hj hn g9) ?_
        refine XP_ifN (x := 0)  rfl (by omega) (fun (b38 : ¬ 0 = 0) => absurd b38 (by omega)) (fun (b38 : 0 = 0) => ?_)
        refine XP_n 1 (pc' := 40) (ls' := [.ref (0), .int (nI (a)), .int (nI (i)), .int (nI (b)), .int (nI (j)), .int (nI (n)), .ref (87 + 2 * a), .ref (87 + 2 * b)]) (st' := [.int (cI (-12))]) (M' := (I, J, Rx R, N, G)) rfl ?_
        exact XP_ret rfl ⟨rfl, _, rfl, hI.1.C, hI.2.2.1, hI.2.2.2.1, FrM.rf⟩
      · unfold TP
        show XP X _ k_M_copy 0 [.ref (99), .int (nI (a)), .int (nI (i)), .int (nI (b)), .int (nI (j)), .int (nI (n)), xj, xj, xj, xj] [] _ _
        refine XP_n 3 (pc' := 3) (ls' := [.ref (99), .int (nI (a)), .int (nI (i)), .int (nI (b)), .int (nI (j)), .int (nI (n)), xj, xj, xj, xj]) (st' := [.int (nI (3)), .int (nI (0)), .int (nI (a))]) (M' := (I, J, Rx R, N, G)) rfl ?_
        refine XP_pure rfl rfl (w_M X _ _ 0 3 _) ?_
        refine XP_s rfl ?_
        refine XP_beq (fun b4 => absurd g0 b4) (fun b4 => ?_)
        refine XP_n 3 (pc' := 8) (ls' := [.ref (99), .int (nI (a)), .int (nI (i)), .int (nI (b)), .int (nI (j)), .int (nI (n)), xj, xj, xj, xj]) (st' := [.int (nI (3)), .int (nI (0)), .int (nI (b))]) (M' := (I, J, Rx R, N, G)) rfl ?_
        refine XP_pure rfl rfl (w_M X _ _ 0 3 _) ?_
        refine XP_s rfl ?_
        refine XP_bne (fun b9 => ?_) (fun b9 => absurd g1 b9)
        refine XP_n 3 (pc' := 15) (ls' := [.ref (99), .int (nI (a)), .int (nI (i)), .int (nI (b)), .int (nI (j)), .int (nI (n)), xj, xj, xj, xj]) (st' := [.int (nI (a)), .ref (120)]) (M' := (I, J, Rx R, N, G)) rfl ?_
        refine XP_ialdM hS rfl rfl (show a < 4 by omega) rfl (by omega) rfl ?_
        refine XP_n 1 (pc' := 17) (ls' := [.ref (99), .int (nI (a)), .int (nI (i)), .int (nI (b)), .int (nI (j)), .int (nI (n)), xj, xj, xj, xj]) (st' := [.int (cI (-1)), .int (s 120 a)]) (M' := (I, J, Rx R, N, G)) rfl ?_
        refine XP_icD rfl (fun (b17 : s 120 a = cI (-1)) => absurd b17 (by first | exact g2 | exact fun z => z g2 | exact Int32.not_le.mpr g2 | exact Int32.not_lt.mpr (Int32.not_lt.mp g2) | omega)) (fun (b17 : ¬ s 120 a = cI (-1)) => ?_)
        refine XP_n 3 (pc' := 21) (ls' := [.ref (99), .int (nI (a)), .int (nI (i)), .int (nI (b)), .int (nI (j)), .int (nI (n)), xj, xj, xj, xj]) (st' := [.int (nI (b)), .ref (120)]) (M' := (I, J, Rx R, N, G)) rfl ?_
        refine XP_ialdM hS rfl rfl (show b < 4 by omega) rfl (by omega) rfl ?_
        refine XP_n 1 (pc' := 23) (ls' := [.ref (99), .int (nI (a)), .int (nI (i)), .int (nI (b)), .int (nI (j)), .int (nI (n)), xj, xj, xj, xj]) (st' := [.int (cI (-1)), .int (s 120 b)]) (M' := (I, J, Rx R, N, G)) rfl ?_
        refine XP_icD rfl (fun (b23 : ¬ s 120 b = cI (-1)) => ?_) (fun (b23 : s 120 b = cI (-1)) => absurd b23 (by first | exact g3 | exact fun z => z g3 | exact Int32.not_le.mpr g3 | exact Int32.not_lt.mpr (Int32.not_lt.mp g3) | omega))
        refine XP_n 3 (pc' := 29) (ls' := [.ref (99), .int (nI (a)), .int (nI (i)), .int (nI (b)), .int (nI (j)), .int (nI (n)), xj, xj, xj, xj]) (st' := [.int (nI (a)), .ref (120)]) (M' := (I, J, Rx R, N, G)) rfl ?_
        refine XP_ialdM hS rfl rfl (show a < 4 by omega) rfl (by omega) rfl ?_
        refine XP_n 3 (pc' := 33) (ls' := [.ref (99), .int (nI (a)), .int (nI (i)), .int (nI (b)), .int (nI (j)), .int (nI (n)), xj, xj, xj, xj]) (st' := [.int (nI (b)), .ref (120), .int (s 120 a)]) (M' := (I, J, Rx R, N, G)) rfl ?_
        refine XP_ialdM hS rfl rfl (show b < 4 by omega) rfl (by omega) rfl ?_
        refine XP_icD rfl (fun (b34 : s 120 a = s 120 b) => ?_) (fun (b34 : ¬ s 120 a = s 120 b) => absurd b34 (by first | exact g4 | exact fun z => z g4 | exact Int32.not_le.mpr g4 | exact Int32.not_lt.mpr (Int32.not_lt.mp g4) | omega))
        refine XP_n 1 (pc' := 38) (ls' := [.ref (99), .int (nI (a)), .int (nI (i)), .int (nI (b)), .int (nI (j)), .int (nI (n)), xj, xj, xj, xj]) (st' := [.int (nI (n))]) (M' := (I, J, Rx R, N, G)) rfl ?_
        refine XP_ifN (x := n)  rfl (by omega) (fun (b38 : n < 0) => absurd b38 (by omega)) (fun (b38 : 0 ≤ n) => ?_)
        refine XP_n 1 (pc' := 40) (ls' := [.ref (99), .int (nI (a)), .int (nI (i)), .int (nI (b)), .int (nI (j)), .int (nI (n)), xj, xj, xj, xj]) (st' := [.int (nI (i))]) (M' := (I, J, Rx R, N, G)) rfl ?_
        refine XP_ifN (x := i)  rfl (by omega) (fun (b40 : i < 0) => absurd b40 (by omega)) (fun (b40 : 0 ≤ i) => ?_)
        refine XP_n 1 (pc' := 42) (ls' := [.ref (99), .int (nI (a)), .int (nI (i)), .int (nI (b)), .int (nI (j)), .int (nI (n)), xj, xj, xj, xj]) (st' := [.int (nI (j))]) (M' := (I, J, Rx R, N, G)) rfl ?_
        refine XP_ifN (x := j)  rfl (by omega) (fun (b42 : j < 0) => absurd b42 (by omega)) (fun (b42 : 0 ≤ j) => ?_)
        refine XP_n 4 (pc' := 47) (ls' := [.ref (99), .int (nI (a)), .int (nI (i)), .int (nI (b)), .int (nI (j)), .int (nI (n)), xj, xj, xj, xj]) (st' := [.int (nI (a)), .ref (121), .int (nI (i))]) (M' := (I, J, Rx R, N, G)) rfl ?_
        refine XP_ialdM hS rfl rfl (show a < 4 by omega) rfl (by omega) rfl ?_
        rw [(hW.sz1 ha).1]
        refine XP_icN (x := i) (y := sz s a) rfl (by omega) (by omega) (fun (b48 : sz s a < i) => absurd b48 (by omega)) (fun (b48 : i ≤ sz s a) => ?_)
        refine XP_n 4 (pc' := 53) (ls' := [.ref (99), .int (nI (a)), .int (nI (i)), .int (nI (b)), .int (nI (j)), .int (nI (n)), xj, xj, xj, xj]) (st' := [.int (nI (b)), .ref (121), .int (nI (j))]) (M' := (I, J, Rx R, N, G)) rfl ?_
        refine XP_ialdM hS rfl rfl (show b < 4 by omega) rfl (by omega) rfl ?_
        rw [(hW.sz1 hb).1]
        refine XP_icN (x := j) (y := sz s b) rfl (by omega) (by omega) (fun (b54 : sz s b < j) => absurd b54 (by omega)) (fun (b54 : j ≤ sz s b) => ?_)
        refine XP_n 4 (pc' := 59) (ls' := [.ref (99), .int (nI (a)), .int (nI (i)), .int (nI (b)), .int (nI (j)), .int (nI (n)), xj, xj, xj, xj]) (st' := [.int (nI (a)), .ref (121), .int (nI (n))]) (M' := (I, J, Rx R, N, G)) rfl ?_
        refine XP_ialdM hS rfl rfl (show a < 4 by omega) rfl (by omega) rfl ?_
        rw [(hW.sz1 ha).1]
        refine XP_n 2 (pc' := 62) (ls' := [.ref (99), .int (nI (a)), .int (nI (i)), .int (nI (b)), .int (nI (j)), .int (nI (n)), xj, xj, xj, xj]) (st' := [.int ((nI (sz s a)) - (nI (i))), .int (nI (n))]) (M' := (I, J, Rx R, N, G)) rfl ?_
        rw [show (nI (sz s a)) - (nI (i)) = nI (sz s a - i) from nI_subE (rfl) (rfl) (by omega)]
        refine XP_icN (x := n) (y := sz s a - i) rfl (by omega) (by omega) (fun (b62 : sz s a - i < n) => absurd b62 (by omega)) (fun (b62 : n ≤ sz s a - i) => ?_)
        refine XP_n 4 (pc' := 67) (ls' := [.ref (99), .int (nI (a)), .int (nI (i)), .int (nI (b)), .int (nI (j)), .int (nI (n)), xj, xj, xj, xj]) (st' := [.int (nI (b)), .ref (121), .int (nI (n))]) (M' := (I, J, Rx R, N, G)) rfl ?_
        refine XP_ialdM hS rfl rfl (show b < 4 by omega) rfl (by omega) rfl ?_
        rw [(hW.sz1 hb).1]
        refine XP_n 2 (pc' := 70) (ls' := [.ref (99), .int (nI (a)), .int (nI (i)), .int (nI (b)), .int (nI (j)), .int (nI (n)), xj, xj, xj, xj]) (st' := [.int ((nI (sz s b)) - (nI (j))), .int (nI (n))]) (M' := (I, J, Rx R, N, G)) rfl ?_
        rw [show (nI (sz s b)) - (nI (j)) = nI (sz s b - j) from nI_subE (rfl) (rfl) (by omega)]
        refine XP_icN (x := n) (y := sz s b - j) rfl (by omega) (by omega) (fun (b70 : n ≤ sz s b - j) => absurd b70 (by omega)) (fun (b70 : sz s b - j < n) => ?_)
        refine XP_n 1 (pc' := 72) (ls' := [.ref (99), .int (nI (a)), .int (nI (i)), .int (nI (b)), .int (nI (j)), .int (nI (n)), xj, xj, xj, xj]) (st' := [.int (cI (-12))]) (M' := (I, J, Rx R, N, G)) rfl ?_
        exact XP_ret rfl ⟨rfl, _, rfl, hS, FrC.rf⟩
  have ag : Agr s (blk s 122 (40 * b + j) n (fun x => s 122 (40 * a + i + x))) ∧ AgrL s (blk s 122 (40 * b + j) n (fun x => s 122 (40 * a + i + x))) := agr_sh (fun k hk => blk_ro (by omega))
  refine ⟨nI n, (blk s 122 (40 * b + j) n (fun x => s 122 (40 * a + i + x))), Wf_cell hW 0 _ _ _, Up.rf hch, fun X d I J R N G hI => ?_, fun X d I J R N G hS => ?_⟩
  · have hL := hI.2.2.1
    unfold TP
    show XP X _ k_H_copy 0 [.ref (0), .int (nI (a)), .int (nI (i)), .int (nI (b)), .int (nI (j)), .int (nI (n)), xj, xj] [] _ _
    refine XP_n 2 (pc' := 2) (ls' := [.ref (0), .int (nI (a)), .int (nI (i)), .int (nI (b)), .int (nI (j)), .int (nI (n)), xj, xj]) (st' := [.int (nI (a)), .ref (0)]) (M' := (I, J, Rx R, N, G)) rfl ?_
    refine XP_pure rfl rfl (c_sheetAtT (show a < 4 by omega)) ?_
    refine XP_n 3 (pc' := 6) (ls' := [.ref (0), .int (nI (a)), .int (nI (i)), .int (nI (b)), .int (nI (j)), .int (nI (n)), .ref (87 + 2 * a), xj]) (st' := [.int (nI (b)), .ref (0)]) (M' := (I, J, Rx R, N, G)) rfl ?_
    refine XP_pure rfl rfl (c_sheetAtT (show b < 4 by omega)) ?_
    refine XP_n 6 (pc' := 15) (ls' := [.ref (0), .int (nI (a)), .int (nI (i)), .int (nI (b)), .int (nI (j)), .int (nI (n)), .ref (87 + 2 * a), .ref (87 + 2 * b)]) (st' := [.ref (87 + 2 * a)]) (M' := (I, J, Rx R, N, G)) rfl ?_
    refine XP_pure rfl (by show (isO (87 + 2 * a) 8 || false) = true; rw [sh_o ha]; rfl) (c_missF hI.1 ha g2) ?_
    refine XP_ifN (x := 0)  rfl (by omega) (fun (b16 : ¬ 0 = 0) => absurd b16 (by omega)) (fun (b16 : 0 = 0) => ?_)
    refine XP_n 1 (pc' := 18) (ls' := [.ref (0), .int (nI (a)), .int (nI (i)), .int (nI (b)), .int (nI (j)), .int (nI (n)), .ref (87 + 2 * a), .ref (87 + 2 * b)]) (st' := [.ref (87 + 2 * b)]) (M' := (I, J, Rx R, N, G)) rfl ?_
    refine XP_pure rfl (by show (isO (87 + 2 * b) 8 || false) = true; rw [sh_o hb]; rfl) (c_missF hI.1 hb g3) ?_
    refine XP_ifN (x := 0)  rfl (by omega) (fun (b19 : 0 = 0) => ?_) (fun (b19 : ¬ 0 = 0) => absurd b19 (by omega))
    refine XP_n 1 (pc' := 23) (ls' := [.ref (0), .int (nI (a)), .int (nI (i)), .int (nI (b)), .int (nI (j)), .int (nI (n)), .ref (87 + 2 * a), .ref (87 + 2 * b)]) (st' := [.ref (87 + 2 * a)]) (M' := (I, J, Rx R, N, G)) rfl ?_
    refine XP_getw rfl (by rw [sh_o (show a < 4 by omega)]; rfl) ?_
    show XP X _ k_H_copy 24 [.ref (0), .int (nI (a)), .int (nI (i)), .int (nI (b)), .int (nI (j)), .int (nI (n)), .ref (87 + 2 * a), .ref (87 + 2 * b)] [.int (I (87 + 2 * a) 0)] _ _
    rw [show I (87 + 2 * a) 0 = s 120 a from hI.1 _ _ _ _ (sh_m0 (show a < 4 by omega))]
    refine XP_n 1 (pc' := 25) (ls' := [.ref (0), .int (nI (a)), .int (nI (i)), .int (nI (b)), .int (nI (j)), .int (nI (n)), .ref (87 + 2 * a), .ref (87 + 2 * b)]) (st' := [.ref (87 + 2 * b), .int (s 120 a)]) (M' := (I, J, Rx R, N, G)) rfl ?_
    refine XP_getw rfl (by rw [sh_o (show b < 4 by omega)]; rfl) ?_
    show XP X _ k_H_copy 26 [.ref (0), .int (nI (a)), .int (nI (i)), .int (nI (b)), .int (nI (j)), .int (nI (n)), .ref (87 + 2 * a), .ref (87 + 2 * b)] [.int (I (87 + 2 * b) 0), .int (s 120 a)] _ _
    rw [show I (87 + 2 * b) 0 = s 120 b from hI.1 _ _ _ _ (sh_m0 (show b < 4 by omega))]
    refine XP_icD rfl (fun (b26 : s 120 a = s 120 b) => ?_) (fun (b26 : ¬ s 120 a = s 120 b) => absurd b26 (by first | exact g4 | exact fun z => z g4 | exact Int32.not_le.mpr g4 | exact Int32.not_lt.mpr (Int32.not_lt.mp g4) | omega))
    refine XP_n 3 (pc' := 32) (ls' := [.ref (0), .int (nI (a)), .int (nI (i)), .int (nI (b)), .int (nI (j)), .int (nI (n)), .ref (87 + 2 * a), .ref (87 + 2 * b)]) (st' := [.int (nI (n)), .int (nI (i)), .ref (87 + 2 * a)]) (M' := (I, J, Rx R, N, G)) rfl ?_
    refine XP_pure rfl (by show (isO (87 + 2 * a) 8 || false) = true; rw [sh_o ha]; rfl) (c_reachT hI.1 hW ha g7) ?_
    refine XP_ifN (x := 1)  rfl (by omega) (fun (b33 : 1 = 0) => absurd b33 (by omega)) (fun (b33 : ¬ 1 = 0) => ?_)
    refine XP_n 3 (pc' := 37) (ls' := [.ref (0), .int (nI (a)), .int (nI (i)), .int (nI (b)), .int (nI (j)), .int (nI (n)), .ref (87 + 2 * a), .ref (87 + 2 * b)]) (st' := [.int (nI (n)), .int (nI (j)), .ref (87 + 2 * b)]) (M' := (I, J, Rx R, N, G)) rfl ?_
    refine XP_pure rfl (by show (isO (87 + 2 * b) 8 || false) = true; rw [sh_o hb]; rfl) (c_reachT hI.1 hW hb g9) ?_
    refine XP_ifN (x := 1)  rfl (by omega) (fun (b38 : ¬ 1 = 0) => ?_) (fun (b38 : 1 = 0) => absurd b38 (by omega))
    refine XP_n 1 (pc' := 42) (ls' := [.ref (0), .int (nI (a)), .int (nI (i)), .int (nI (b)), .int (nI (j)), .int (nI (n)), .ref (87 + 2 * a), .ref (87 + 2 * b)]) (st' := [.ref (87 + 2 * a)]) (M' := (I, J, Rx R, N, G)) rfl ?_
    refine XP_getr rfl (by rw [sh_o (show a < 4 by omega)]; rfl) (sh_r R (show a < 4 by omega))  ?_
    refine XP_n 2 (pc' := 45) (ls' := [.ref (0), .int (nI (a)), .int (nI (i)), .int (nI (b)), .int (nI (j)), .int (nI (n)), .ref (87 + 2 * a), .ref (87 + 2 * b)]) (st' := [.ref (87 + 2 * b), .int (nI (i)), .ref (88 + 2 * a)]) (M' := (I, J, Rx R, N, G)) rfl ?_
    refine XP_getr rfl (by rw [sh_o (show b < 4 by omega)]; rfl) (sh_r R (show b < 4 by omega))  ?_
    refine XP_n 2 (pc' := 48) (ls' := [.ref (0), .int (nI (a)), .int (nI (i)), .int (nI (b)), .int (nI (j)), .int (nI (n)), .ref (87 + 2 * a), .ref (87 + 2 * b)]) (st' := [.int (nI (n)), .int (nI (j)), .ref (88 + 2 * b), .int (nI (i)), .ref (88 + 2 * a)]) (M' := (I, J, Rx R, N, G)) rfl ?_
    refine XP_acopy rfl (sh_a hb) (sh_a ha) (sh_l N hb) (sh_l N ha) (by omega) (by omega) (by omega) (by omega) rfl ?_
    refine XP_n 1 (pc' := 50) (ls' := [.ref 0, .int (nI a), .int (nI i), .int (nI b), .int (nI j), .int (nI n), .ref (87 + 2 * a), .ref (87 + 2 * b)]) (st' := [.int (nI n)]) (M' := (_, J, Rx R, N, G)) rfl ?_
    refine XP_ret rfl ⟨rfl, _, rfl, StC_blk hI.1.C hb (fun k hk => ?_) (fun x y z => blk_off (fun q => z ⟨q.1, by have := q.2; omega, by have := q.2; omega⟩)) (fun y hy => ?_), agrl_Lk ag.2 hI.2.2.1, agr_Cch ag.1 (hI.2.2.2.1.of (fun k h1 h2 => ?_) (fun _ _ _ => rfl) hW.p.2), fun k hk => ?_⟩
    · funext y
      unfold rwR
      rw [if_neg hk]
    · show (if 88 + 2 * b = 88 + 2 * b then va_cpy (I (88 + 2 * a)) (I (88 + 2 * b)) i j n y else _) = _
      rw [if_pos rfl]
      unfold va_cpy
      by_cases g : j ≤ y ∧ y < j + n
      · rw [if_pos g, hI.1.C _ _ _ _ (mpC_sh ha (by omega))]
        have e : 40 * b + y = 40 * b + j + (y - j) := by omega
        rw [e, blk_on (by omega), show 40 * a + (i + (y - j)) = 40 * a + i + (y - j) by omega]
      · rw [if_neg g, hI.1.C _ _ _ _ (mpC_sh hb hy), blk_off (fun z => g (by have := z.2; omega))]
    · funext y
      unfold rwR
      rw [if_neg (by omega)]
    · have := isC_f hk
      funext y
      unfold rwR
      rw [if_neg (by omega)]
  · unfold TP
    show XP X _ k_M_copy 0 [.ref (99), .int (nI (a)), .int (nI (i)), .int (nI (b)), .int (nI (j)), .int (nI (n)), xj, xj, xj, xj] [] _ _
    refine XP_n 3 (pc' := 3) (ls' := [.ref (99), .int (nI (a)), .int (nI (i)), .int (nI (b)), .int (nI (j)), .int (nI (n)), xj, xj, xj, xj]) (st' := [.int (nI (3)), .int (nI (0)), .int (nI (a))]) (M' := (I, J, Rx R, N, G)) rfl ?_
    refine XP_pure rfl rfl (w_M X _ _ 0 3 _) ?_
    refine XP_s rfl ?_
    refine XP_beq (fun b4 => absurd g0 b4) (fun b4 => ?_)
    refine XP_n 3 (pc' := 8) (ls' := [.ref (99), .int (nI (a)), .int (nI (i)), .int (nI (b)), .int (nI (j)), .int (nI (n)), xj, xj, xj, xj]) (st' := [.int (nI (3)), .int (nI (0)), .int (nI (b))]) (M' := (I, J, Rx R, N, G)) rfl ?_
    refine XP_pure rfl rfl (w_M X _ _ 0 3 _) ?_
    refine XP_s rfl ?_
    refine XP_bne (fun b9 => ?_) (fun b9 => absurd g1 b9)
    refine XP_n 3 (pc' := 15) (ls' := [.ref (99), .int (nI (a)), .int (nI (i)), .int (nI (b)), .int (nI (j)), .int (nI (n)), xj, xj, xj, xj]) (st' := [.int (nI (a)), .ref (120)]) (M' := (I, J, Rx R, N, G)) rfl ?_
    refine XP_ialdM hS rfl rfl (show a < 4 by omega) rfl (by omega) rfl ?_
    refine XP_n 1 (pc' := 17) (ls' := [.ref (99), .int (nI (a)), .int (nI (i)), .int (nI (b)), .int (nI (j)), .int (nI (n)), xj, xj, xj, xj]) (st' := [.int (cI (-1)), .int (s 120 a)]) (M' := (I, J, Rx R, N, G)) rfl ?_
    refine XP_icD rfl (fun (b17 : s 120 a = cI (-1)) => absurd b17 (by first | exact g2 | exact fun z => z g2 | exact Int32.not_le.mpr g2 | exact Int32.not_lt.mpr (Int32.not_lt.mp g2) | omega)) (fun (b17 : ¬ s 120 a = cI (-1)) => ?_)
    refine XP_n 3 (pc' := 21) (ls' := [.ref (99), .int (nI (a)), .int (nI (i)), .int (nI (b)), .int (nI (j)), .int (nI (n)), xj, xj, xj, xj]) (st' := [.int (nI (b)), .ref (120)]) (M' := (I, J, Rx R, N, G)) rfl ?_
    refine XP_ialdM hS rfl rfl (show b < 4 by omega) rfl (by omega) rfl ?_
    refine XP_n 1 (pc' := 23) (ls' := [.ref (99), .int (nI (a)), .int (nI (i)), .int (nI (b)), .int (nI (j)), .int (nI (n)), xj, xj, xj, xj]) (st' := [.int (cI (-1)), .int (s 120 b)]) (M' := (I, J, Rx R, N, G)) rfl ?_
    refine XP_icD rfl (fun (b23 : ¬ s 120 b = cI (-1)) => ?_) (fun (b23 : s 120 b = cI (-1)) => absurd b23 (by first | exact g3 | exact fun z => z g3 | exact Int32.not_le.mpr g3 | exact Int32.not_lt.mpr (Int32.not_lt.mp g3) | omega))
    refine XP_n 3 (pc' := 29) (ls' := [.ref (99), .int (nI (a)), .int (nI (i)), .int (nI (b)), .int (nI (j)), .int (nI (n)), xj, xj, xj, xj]) (st' := [.int (nI (a)), .ref (120)]) (M' := (I, J, Rx R, N, G)) rfl ?_
    refine XP_ialdM hS rfl rfl (show a < 4 by omega) rfl (by omega) rfl ?_
    refine XP_n 3 (pc' := 33) (ls' := [.ref (99), .int (nI (a)), .int (nI (i)), .int (nI (b)), .int (nI (j)), .int (nI (n)), xj, xj, xj, xj]) (st' := [.int (nI (b)), .ref (120), .int (s 120 a)]) (M' := (I, J, Rx R, N, G)) rfl ?_
    refine XP_ialdM hS rfl rfl (show b < 4 by omega) rfl (by omega) rfl ?_
    refine XP_icD rfl (fun (b34 : s 120 a = s 120 b) => ?_) (fun (b34 : ¬ s 120 a = s 120 b) => absurd b34 (by first | exact g4 | exact fun z => z g4 | exact Int32.not_le.mpr g4 | exact Int32.not_lt.mpr (Int32.not_lt.mp g4) | omega))
    refine XP_n 1 (pc' := 38) (ls' := [.ref (99), .int (nI (a)), .int (nI (i)), .int (nI (b)), .int (nI (j)), .int (nI (n)), xj, xj, xj, xj]) (st' := [.int (nI (n))]) (M' := (I, J, Rx R, N, G)) rfl ?_
    refine XP_ifN (x := n)  rfl (by omega) (fun (b38 : n < 0) => absurd b38 (by omega)) (fun (b38 : 0 ≤ n) => ?_)
    refine XP_n 1 (pc' := 40) (ls' := [.ref (99), .int (nI (a)), .int (nI (i)), .int (nI (b)), .int (nI (j)), .int (nI (n)), xj, xj, xj, xj]) (st' := [.int (nI (i))]) (M' := (I, J, Rx R, N, G)) rfl ?_
    refine XP_ifN (x := i)  rfl (by omega) (fun (b40 : i < 0) => absurd b40 (by omega)) (fun (b40 : 0 ≤ i) => ?_)
    refine XP_n 1 (pc' := 42) (ls' := [.ref (99), .int (nI (a)), .int (nI (i)), .int (nI (b)), .int (nI (j)), .int (nI (n)), xj, xj, xj, xj]) (st' := [.int (nI (j))]) (M' := (I, J, Rx R, N, G)) rfl ?_
    refine XP_ifN (x := j)  rfl (by omega) (fun (b42 : j < 0) => absurd b42 (by omega)) (fun (b42 : 0 ≤ j) => ?_)
    refine XP_n 4 (pc' := 47) (ls' := [.ref (99), .int (nI (a)), .int (nI (i)), .int (nI (b)), .int (nI (j)), .int (nI (n)), xj, xj, xj, xj]) (st' := [.int (nI (a)), .ref (121), .int (nI (i))]) (M' := (I, J, Rx R, N, G)) rfl ?_
    refine XP_ialdM hS rfl rfl (show a < 4 by omega) rfl (by omega) rfl ?_
    rw [(hW.sz1 ha).1]
    refine XP_icN (x := i) (y := sz s a) rfl (by omega) (by omega) (fun (b48 : sz s a < i) => absurd b48 (by omega)) (fun (b48 : i ≤ sz s a) => ?_)
    refine XP_n 4 (pc' := 53) (ls' := [.ref (99), .int (nI (a)), .int (nI (i)), .int (nI (b)), .int (nI (j)), .int (nI (n)), xj, xj, xj, xj]) (st' := [.int (nI (b)), .ref (121), .int (nI (j))]) (M' := (I, J, Rx R, N, G)) rfl ?_
    refine XP_ialdM hS rfl rfl (show b < 4 by omega) rfl (by omega) rfl ?_
    rw [(hW.sz1 hb).1]
    refine XP_icN (x := j) (y := sz s b) rfl (by omega) (by omega) (fun (b54 : sz s b < j) => absurd b54 (by omega)) (fun (b54 : j ≤ sz s b) => ?_)
    refine XP_n 4 (pc' := 59) (ls' := [.ref (99), .int (nI (a)), .int (nI (i)), .int (nI (b)), .int (nI (j)), .int (nI (n)), xj, xj, xj, xj]) (st' := [.int (nI (a)), .ref (121), .int (nI (n))]) (M' := (I, J, Rx R, N, G)) rfl ?_
    refine XP_ialdM hS rfl rfl (show a < 4 by omega) rfl (by omega) rfl ?_
    rw [(hW.sz1 ha).1]
    refine XP_n 2 (pc' := 62) (ls' := [.ref (99), .int (nI (a)), .int (nI (i)), .int (nI (b)), .int (nI (j)), .int (nI (n)), xj, xj, xj, xj]) (st' := [.int ((nI (sz s a)) - (nI (i))), .int (nI (n))]) (M' := (I, J, Rx R, N, G)) rfl ?_
    rw [show (nI (sz s a)) - (nI (i)) = nI (sz s a - i) from nI_subE (rfl) (rfl) (by omega)]
    refine XP_icN (x := n) (y := sz s a - i) rfl (by omega) (by omega) (fun (b62 : sz s a - i < n) => absurd b62 (by omega)) (fun (b62 : n ≤ sz s a - i) => ?_)
    refine XP_n 4 (pc' := 67) (ls' := [.ref (99), .int (nI (a)), .int (nI (i)), .int (nI (b)), .int (nI (j)), .int (nI (n)), xj, xj, xj, xj]) (st' := [.int (nI (b)), .ref (121), .int (nI (n))]) (M' := (I, J, Rx R, N, G)) rfl ?_
    refine XP_ialdM hS rfl rfl (show b < 4 by omega) rfl (by omega) rfl ?_
    rw [(hW.sz1 hb).1]
    refine XP_n 2 (pc' := 70) (ls' := [.ref (99), .int (nI (a)), .int (nI (i)), .int (nI (b)), .int (nI (j)), .int (nI (n)), xj, xj, xj, xj]) (st' := [.int ((nI (sz s b)) - (nI (j))), .int (nI (n))]) (M' := (I, J, Rx R, N, G)) rfl ?_
    rw [show (nI (sz s b)) - (nI (j)) = nI (sz s b - j) from nI_subE (rfl) (rfl) (by omega)]
    refine XP_icN (x := n) (y := sz s b - j) rfl (by omega) (by omega) (fun (b70 : n ≤ sz s b - j) => ?_) (fun (b70 : sz s b - j < n) => absurd b70 (by omega))
    refine XP_n 6 (pc' := 79) (ls' := [.ref (99), .int (nI (a)), .int (nI (i)), .int (nI (b)), .int (nI (j)), .int (nI (n)), .int (((nI (40)) * (nI (a))) + (nI (i))), xj, xj, xj]) (st' := []) (M' := (I, J, Rx R, N, G)) rfl ?_
    rw [show ((nI (40)) * (nI (a))) + (nI (i)) = nI ((40) * (a) + i) from nI_addE (nI_mulE (rfl) (rfl)) (rfl)]
    refine XP_n 6 (pc' := 85) (ls' := [.ref (99), .int (nI (a)), .int (nI (i)), .int (nI (b)), .int (nI (j)), .int (nI (n)), .int (nI ((40) * (a) + i)), .int (((nI (40)) * (nI (b))) + (nI (j))), xj, xj]) (st' := []) (M' := (I, J, Rx R, N, G)) rfl ?_
    rw [show ((nI (40)) * (nI (b))) + (nI (j)) = nI ((40) * (b) + j) from nI_addE (nI_mulE (rfl) (rfl)) (rfl)]
    refine XP_n 2 (pc' := 87) (ls' := [.ref (99), .int (nI (a)), .int (nI (i)), .int (nI (b)), .int (nI (j)), .int (nI (n)), .int (nI ((40) * (a) + i)), .int (nI ((40) * (b) + j)), .int (nI (0)), xj]) (st' := []) (M' := (I, J, Rx R, N, G)) rfl ?_
    refine l_M_cp (by omega) (by omega) (fun I1 h1 h2 => ⟨rfl, _, rfl, StM_blk hS h1 (fun x hx => blk_ro hx) (fun y => (h2 y).trans ?_), fun k hk => ?_⟩) n 0 _ _ (by omega) (fun _ _ => rfl) (fun y => ?_)
    · unfold cpyS
      by_cases e2 : (40) * (a) + i < (40) * (b) + j
      · rw [if_pos e2, if_neg (by omega)]
      · rw [if_neg e2, if_neg (by omega)]
    · have e : I 122 = s 122 := funext (fun y => hS 122 y 122 y rfl)
      rw [e]
      unfold cpyS blk
      by_cases e2 : (40) * (a) + i < (40) * (b) + j
      · rw [if_pos e2]
        by_cases g : 40 * b + j ≤ y ∧ y < 40 * b + j + n
        · rw [if_pos (by omega), if_pos ⟨rfl, g⟩]
        · rw [if_neg (by omega), if_neg (fun z => g z.2)]
      · rw [if_neg e2]
        by_cases g : 40 * b + j ≤ y ∧ y < 40 * b + j + n
        · rw [if_pos (by omega), if_pos ⟨rfl, g⟩]
        · rw [if_neg (by omega), if_neg (fun z => g z.2)]
    · have := isC_t hk
      exact h1 k (by omega)
