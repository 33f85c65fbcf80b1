/-! setters: town, set -/
theorem StM_i {s I : Nat → Nat → Int32} {k j a b : Nat} {x : Int32} (h : StM s I) (hk : mpM k j = some (a, b)) (e : s a b = x) : StM s (rw2 I k j x) := by
  have h1 := StM_w (x := x) h hk
  rw [← e, rw2_self] at h1
  rw [← e]
  exact h1
theorem StC_i {s I : Nat → Nat → Int32} {k j a b : Nat} {x : Int32} (h : StC s I) (hk : mpC k j = some (a, b)) (e : s a b = x) : StC s (rw2 I k j x) := by
  have h1 := StC_w (x := x) h hk
  rw [← e, rw2_self] at h1
  rw [← e]
  exact h1
theorem ch_n {s : Nat → Nat → Int32} (h : iN 0 1000000 (s 1 15)) : s 1 15 = nI (wN (s 1 15)) ∧ wN (s 1 15) ≤ 1000000 := ⟨(h.nat (by omega)).1, (h.nat (by omega)).2.2⟩
section
variable {X : hX} {d : Nat} {s I : Nat → Nat → Int32} {J : Nat → Nat → Int64} {R : Nat → Nat → Option Nat} {N : Nat → Nat} {G : hG}
theorem c_addF (h3 : 3 ≤ cT s) (k0 : I 80 3 = nI (cT s)) (h v : Int32) (hb : cT s ≤ 3 := by omega) : TP X d n_Bay_addTown [.ref 80, .int h, .int v] (I, J, Rx R, N, G) (Ret (.int (cI (-4))) (I, J, Rx R, N, G)) := by
  unfold TP
  show XP X _ k_Bay_addTown 0 [.ref (80), .int (h), .int (v), xj] [] _ _
  refine XP_n 2 (pc' := 2) (ls' := [.ref (80), .int (h), .int (v), xj]) (st' := [.int (I 80 3)]) (M' := (I, J, Rx R, N, G)) rfl ?_
  rw [k0]
  refine XP_n 2 (pc' := 4) (ls' := [.ref (80), .int (h), .int (v), .int (nI (cT s))]) (st' := [.int (nI (cT s))]) (M' := (I, J, Rx R, N, G)) rfl ?_
  refine XP_ifN (x := cT s)  rfl (by omega) (fun (b4 : cT s < 0) => absurd b4 (by omega)) (fun (b4 : 0 ≤ cT s) => ?_)
  refine XP_n 2 (pc' := 7) (ls' := [.ref (80), .int (h), .int (v), .int (nI (cT s))]) (st' := [.int (nI (3)), .int (nI (cT s))]) (M' := (I, J, Rx R, N, G)) rfl ?_
  refine XP_icN (x := cT s) (y := 3) rfl (by omega) (by omega) (fun (b7 : cT s < 3) => absurd b7 (by omega)) (fun (b7 : 3 ≤ cT s) => ?_)
  refine XP_n 1 (pc' := 9) (ls' := [.ref (80), .int (h), .int (v), .int (nI (cT s))]) (st' := [.int (cI (-4))]) (M' := (I, J, Rx R, N, G)) rfl ?_
  exact XP_ret rfl ⟨rfl, rfl⟩
theorem c_addT (h3 : cT s < 3) (k0 : I 80 3 = nI (cT s)) (h v : Int32) : TP X d n_Bay_addTown [.ref 80, .int h, .int v] (I, J, Rx R, N, G) (fun w M' => w = some (.int (nI (cT s))) ∧ M' = ((rw2 (rw2 (rw2 I 81 (cT s) h) 82 (cT s) v) 80 3 (nI (cT s + 1))), J, Rx R, N, G)) := by
  unfold TP
  show XP X _ k_Bay_addTown 0 [.ref (80), .int (h), .int (v), xj] [] _ _
  refine XP_n 2 (pc' := 2) (ls' := [.ref (80), .int (h), .int (v), xj]) (st' := [.int (I 80 3)]) (M' := (I, J, Rx R, N, G)) rfl ?_
  rw [k0]
  refine XP_n 2 (pc' := 4) (ls' := [.ref (80), .int (h), .int (v), .int (nI (cT s))]) (st' := [.int (nI (cT s))]) (M' := (I, J, Rx R, N, G)) rfl ?_
  refine XP_ifN (x := cT s)  rfl (by omega) (fun (b4 : cT s < 0) => absurd b4 (by omega)) (fun (b4 : 0 ≤ cT s) => ?_)
  refine XP_n 2 (pc' := 7) (ls' := [.ref (80), .int (h), .int (v), .int (nI (cT s))]) (st' := [.int (nI (3)), .int (nI (cT s))]) (M' := (I, J, Rx R, N, G)) rfl ?_
  refine XP_icN (x := cT s) (y := 3) rfl (by omega) (by omega) (fun (b7 : cT s < 3) => ?_) (fun (b7 : 3 ≤ cT s) => absurd b7 (by omega))
  refine XP_n 4 (pc' := 14) (ls' := [.ref (80), .int (h), .int (v), .int (nI (cT s))]) (st' := [.int (h), .int (nI (cT s)), .ref (81)]) (M' := (I, J, Rx R, N, G)) rfl ?_
  refine XP_iast rfl rfl (show cT s < 3 by omega) rfl (by omega) ?_
  refine XP_n 4 (pc' := 19) (ls' := [.ref (80), .int (h), .int (v), .int (nI (cT s))]) (st' := [.int (v), .int (nI (cT s)), .ref (82)]) (M' := ((rw2 I 81 (cT s) (h)), J, Rx R, N, G)) rfl ?_
  refine XP_iast rfl rfl (show cT s < 3 by omega) rfl (by omega) ?_
  refine XP_n 3 (pc' := 23) (ls' := [.ref (80), .int (h), .int (v), .int (nI (cT s))]) (st' := [.int (I 80 3), .ref (80)]) (M' := ((rw2 (rw2 I 81 (cT s) (h)) 82 (cT s) (v)), J, Rx R, N, G)) rfl ?_
  rw [k0]
  refine XP_n 2 (pc' := 25) (ls' := [.ref (80), .int (h), .int (v), .int (nI (cT s))]) (st' := [.int ((nI (cT s)) + (nI (1))), .ref (80)]) (M' := ((rw2 (rw2 I 81 (cT s) (h)) 82 (cT s) (v)), J, Rx R, N, G)) rfl ?_
  rw [show (nI (cT s)) + (nI (1)) = nI (cT s + 1) from nI_addE (rfl) (rfl)]
  refine XP_n 2 (pc' := 27) (ls' := [.ref (80), .int (h), .int (v), .int (nI (cT s))]) (st' := [.int (nI (cT s))]) (M' := ((rw2 (rw2 (rw2 I 81 (cT s) (h)) 82 (cT s) (v)) 80 3 (nI (cT s + 1))), J, Rx R, N, G)) rfl ?_
  exact XP_ret rfl ⟨rfl, rfl⟩
theorem c_most0 : TP X d n_H_mostOf [.int (nI 0)] (I, J, Rx R, N, G) (Ret (.int (nI 16)) (I, J, Rx R, N, G)) := by
  unfold TP
  show XP X _ k_H_mostOf 0 [.int (nI (0))] [] _ _
  refine XP_n 1 (pc' := 1) (ls' := [.int (nI (0))]) (st' := [.int (nI (0))]) (M' := (I, J, Rx R, N, G)) rfl ?_
  refine XP_tab 0 0 2 2 rfl (by omega) rfl rfl (by omega) (by omega) rfl ?_
  refine XP_n 1 (pc' := 3) (ls' := [.int (nI (0))]) (st' := [.int (nI (16))]) (M' := (I, J, Rx R, N, G)) rfl ?_
  exact XP_ret rfl ⟨rfl, rfl⟩
theorem c_cnt0 (hS : St s I) (hW : Wf s) (hL : Lk s R N) : TP X d n_H_count [.ref 0, .int (nI 0)] (I, J, Rx R, N, G) (Ret (.int (nI (cY s))) (I, J, Rx R, N, G)) := by
  unfold TP
  show XP X _ k_H_count 0 [.ref (0), .int (nI (0))] [] _ _
  refine XP_n 1 (pc' := 1) (ls' := [.ref (0), .int (nI (0))]) (st' := [.int (nI (0))]) (M' := (I, J, Rx R, N, G)) rfl ?_
  refine XP_tab 0 0 11 2 rfl (by omega) rfl rfl (by omega) (by omega) rfl ?_
  refine XP_n 2 (pc' := 4) (ls' := [.ref (0), .int (nI (0))]) (st' := [.ref (1)]) (M' := (I, J, Rx R, N, G)) rfl ?_
  refine XP_geti hS rfl rfl rfl ?_
  rw [hW.y.1]
  exact XP_ret rfl ⟨rfl, rfl⟩
theorem m_cnt0 (hS : StM s I) (hW : Wf s) : TP X d n_M_count [.ref 99, .int (nI 0)] (I, J, Rx R, N, G) (Ret (.int (nI (cY s))) (I, J, Rx R, N, G)) := by
  unfold TP
  show XP X _ k_M_count 0 [.ref (99), .int (nI (0))] [] _ _
  refine XP_n 1 (pc' := 1) (ls' := [.ref (99), .int (nI (0))]) (st' := [.int (nI (0))]) (M' := (I, J, Rx R, N, G)) rfl ?_
  refine XP_tab 0 0 11 2 rfl (by omega) rfl rfl (by omega) (by omega) rfl ?_
  refine XP_n 1 (pc' := 3) (ls' := [.ref (99), .int (nI (0))]) (st' := [.ref (99)]) (M' := (I, J, Rx R, N, G)) rfl ?_
  refine XP_getiM hS rfl rfl rfl ?_
  rw [hW.y.1]
  exact XP_ret rfl ⟨rfl, rfl⟩
theorem c_put0 {c : Nat} (k0 : I 1 15 = nI c) (v : Int32) : TP X d n_Coast_put [.ref 1, .int (nI 0), .int v] (I, J, Rx R, N, G) (fun w M' => w = none ∧ M' = (rw2 (rw2 I 1 0 v) 1 15 (nI (c + 1)), J, Rx R, N, G)) := by
  unfold TP
  show XP X _ k_Coast_put 0 [.ref (1), .int (nI (0)), .int (v)] [] _ _
  refine XP_n 1 (pc' := 1) (ls' := [.ref (1), .int (nI (0)), .int (v)]) (st' := [.int (nI (0))]) (M' := (I, J, Rx R, N, G)) rfl ?_
  refine XP_tab 0 0 2 2 rfl (by omega) rfl rfl (by omega) (by omega) rfl ?_
  refine XP_n 7 (pc' := 20) (ls' := [.ref (1), .int (nI (0)), .int (v)]) (st' := [.int (I 1 15), .ref (1)]) (M' := ((rw2 I 1 0 (v)), J, Rx R, N, G)) rfl ?_
  rw [k0]
  refine XP_n 2 (pc' := 22) (ls' := [.ref (1), .int (nI (0)), .int (v)]) (st' := [.int ((nI (c)) + (nI (1))), .ref (1)]) (M' := ((rw2 I 1 0 (v)), J, Rx R, N, G)) rfl ?_
  rw [show (nI (c)) + (nI (1)) = nI (c + 1) from nI_addE (rfl) (rfl)]
  refine XP_n 1 (pc' := 23) (ls' := [.ref (1), .int (nI (0)), .int (v)]) (st' := []) (M' := ((rw2 (rw2 I 1 0 (v)) 1 15 (nI (c + 1))), J, Rx R, N, G)) rfl ?_
  exact XP_ret rfl ⟨rfl, rfl⟩
theorem c_most1 : TP X d n_H_mostOf [.int (nI 1)] (I, J, Rx R, N, G) (Ret (.int (nI 60)) (I, J, Rx R, N, G)) := by
  unfold TP
  show XP X _ k_H_mostOf 0 [.int (nI (1))] [] _ _
  refine XP_n 1 (pc' := 1) (ls' := [.int (nI (1))]) (st' := [.int (nI (1))]) (M' := (I, J, Rx R, N, G)) rfl ?_
  refine XP_tab 1 0 2 4 rfl (by omega) rfl rfl (by omega) (by omega) rfl ?_
  refine XP_n 1 (pc' := 5) (ls' := [.int (nI (1))]) (st' := [.int (nI (60))]) (M' := (I, J, Rx R, N, G)) rfl ?_
  exact XP_ret rfl ⟨rfl, rfl⟩
theorem c_cnt1 (hS : St s I) (hW : Wf s) (hL : Lk s R N) : TP X d n_H_count [.ref 0, .int (nI 1)] (I, J, Rx R, N, G) (Ret (.int (nI (cW s))) (I, J, Rx R, N, G)) := by
  unfold TP
  show XP X _ k_H_count 0 [.ref (0), .int (nI (1))] [] _ _
  refine XP_n 1 (pc' := 1) (ls' := [.ref (0), .int (nI (1))]) (st' := [.int (nI (1))]) (M' := (I, J, Rx R, N, G)) rfl ?_
  refine XP_tab 1 0 11 6 rfl (by omega) rfl rfl (by omega) (by omega) rfl ?_
  refine XP_n 2 (pc' := 8) (ls' := [.ref (0), .int (nI (1))]) (st' := [.ref (1)]) (M' := (I, J, Rx R, N, G)) rfl ?_
  refine XP_geti hS rfl rfl rfl ?_
  rw [hW.w.1]
  exact XP_ret rfl ⟨rfl, rfl⟩
theorem m_cnt1 (hS : StM s I) (hW : Wf s) : TP X d n_M_count [.ref 99, .int (nI 1)] (I, J, Rx R, N, G) (Ret (.int (nI (cW s))) (I, J, Rx R, N, G)) := by
  unfold TP
  show XP X _ k_M_count 0 [.ref (99), .int (nI (1))] [] _ _
  refine XP_n 1 (pc' := 1) (ls' := [.ref (99), .int (nI (1))]) (st' := [.int (nI (1))]) (M' := (I, J, Rx R, N, G)) rfl ?_
  refine XP_tab 1 0 11 5 rfl (by omega) rfl rfl (by omega) (by omega) rfl ?_
  refine XP_n 1 (pc' := 6) (ls' := [.ref (99), .int (nI (1))]) (st' := [.ref (99)]) (M' := (I, J, Rx R, N, G)) rfl ?_
  refine XP_getiM hS rfl rfl rfl ?_
  rw [hW.w.1]
  exact XP_ret rfl ⟨rfl, rfl⟩
theorem c_put1 {c : Nat} (k0 : I 1 15 = nI c) (v : Int32) : TP X d n_Coast_put [.ref 1, .int (nI 1), .int v] (I, J, Rx R, N, G) (fun w M' => w = none ∧ M' = (rw2 (rw2 I 1 1 v) 1 15 (nI (c + 1)), J, Rx R, N, G)) := by
  unfold TP
  show XP X _ k_Coast_put 0 [.ref (1), .int (nI (1)), .int (v)] [] _ _
  refine XP_n 1 (pc' := 1) (ls' := [.ref (1), .int (nI (1)), .int (v)]) (st' := [.int (nI (1))]) (M' := (I, J, Rx R, N, G)) rfl ?_
  refine XP_tab 1 0 2 6 rfl (by omega) rfl rfl (by omega) (by omega) rfl ?_
  refine XP_n 7 (pc' := 20) (ls' := [.ref (1), .int (nI (1)), .int (v)]) (st' := [.int (I 1 15), .ref (1)]) (M' := ((rw2 I 1 1 (v)), J, Rx R, N, G)) rfl ?_
  rw [k0]
  refine XP_n 2 (pc' := 22) (ls' := [.ref (1), .int (nI (1)), .int (v)]) (st' := [.int ((nI (c)) + (nI (1))), .ref (1)]) (M' := ((rw2 I 1 1 (v)), J, Rx R, N, G)) rfl ?_
  rw [show (nI (c)) + (nI (1)) = nI (c + 1) from nI_addE (rfl) (rfl)]
  refine XP_n 1 (pc' := 23) (ls' := [.ref (1), .int (nI (1)), .int (v)]) (st' := []) (M' := ((rw2 (rw2 I 1 1 (v)) 1 15 (nI (c + 1))), J, Rx R, N, G)) rfl ?_
  exact XP_ret rfl ⟨rfl, rfl⟩
theorem c_most2 : TP X d n_H_mostOf [.int (nI 2)] (I, J, Rx R, N, G) (Ret (.int (nI 999)) (I, J, Rx R, N, G)) := by
  unfold TP
  show XP X _ k_H_mostOf 0 [.int (nI (2))] [] _ _
  refine XP_n 1 (pc' := 1) (ls' := [.int (nI (2))]) (st' := [.int (nI (2))]) (M' := (I, J, Rx R, N, G)) rfl ?_
  refine XP_tab 2 0 2 6 rfl (by omega) rfl rfl (by omega) (by omega) rfl ?_
  refine XP_n 1 (pc' := 7) (ls' := [.int (nI (2))]) (st' := [.int (nI (999))]) (M' := (I, J, Rx R, N, G)) rfl ?_
  exact XP_ret rfl ⟨rfl, rfl⟩
theorem c_cnt2 (hS : St s I) (hW : Wf s) (hL : Lk s R N) : TP X d n_H_count [.ref 0, .int (nI 2)] (I, J, Rx R, N, G) (Ret (.int (nI (cB s))) (I, J, Rx R, N, G)) := by
  unfold TP
  show XP X _ k_H_count 0 [.ref (0), .int (nI (2))] [] _ _
  refine XP_n 1 (pc' := 1) (ls' := [.ref (0), .int (nI (2))]) (st' := [.int (nI (2))]) (M' := (I, J, Rx R, N, G)) rfl ?_
  refine XP_tab 2 0 11 10 rfl (by omega) rfl rfl (by omega) (by omega) rfl ?_
  refine XP_n 2 (pc' := 12) (ls' := [.ref (0), .int (nI (2))]) (st' := [.ref (1)]) (M' := (I, J, Rx R, N, G)) rfl ?_
  refine XP_geti hS rfl rfl rfl ?_
  rw [hW.b.1]
  exact XP_ret rfl ⟨rfl, rfl⟩
theorem m_cnt2 (hS : StM s I) (hW : Wf s) : TP X d n_M_count [.ref 99, .int (nI 2)] (I, J, Rx R, N, G) (Ret (.int (nI (cB s))) (I, J, Rx R, N, G)) := by
  unfold TP
  show XP X _ k_M_count 0 [.ref (99), .int (nI (2))] [] _ _
  refine XP_n 1 (pc' := 1) (ls' := [.ref (99), .int (nI (2))]) (st' := [.int (nI (2))]) (M' := (I, J, Rx R, N, G)) rfl ?_
  refine XP_tab 2 0 11 8 rfl (by omega) rfl rfl (by omega) (by omega) rfl ?_
  refine XP_n 1 (pc' := 9) (ls' := [.ref (99), .int (nI (2))]) (st' := [.ref (99)]) (M' := (I, J, Rx R, N, G)) rfl ?_
  refine XP_getiM hS rfl rfl rfl ?_
  rw [hW.b.1]
  exact XP_ret rfl ⟨rfl, rfl⟩
theorem c_put2 {c : Nat} (k0 : I 1 15 = nI c) (v : Int32) : TP X d n_Coast_put [.ref 1, .int (nI 2), .int v] (I, J, Rx R, N, G) (fun w M' => w = none ∧ M' = (rw2 (rw2 I 1 2 v) 1 15 (nI (c + 1)), J, Rx R, N, G)) := by
  unfold TP
  show XP X _ k_Coast_put 0 [.ref (1), .int (nI (2)), .int (v)] [] _ _
  refine XP_n 1 (pc' := 1) (ls' := [.ref (1), .int (nI (2)), .int (v)]) (st' := [.int (nI (2))]) (M' := (I, J, Rx R, N, G)) rfl ?_
  refine XP_tab 2 0 2 10 rfl (by omega) rfl rfl (by omega) (by omega) rfl ?_
  refine XP_n 7 (pc' := 20) (ls' := [.ref (1), .int (nI (2)), .int (v)]) (st' := [.int (I 1 15), .ref (1)]) (M' := ((rw2 I 1 2 (v)), J, Rx R, N, G)) rfl ?_
  rw [k0]
  refine XP_n 2 (pc' := 22) (ls' := [.ref (1), .int (nI (2)), .int (v)]) (st' := [.int ((nI (c)) + (nI (1))), .ref (1)]) (M' := ((rw2 I 1 2 (v)), J, Rx R, N, G)) rfl ?_
  rw [show (nI (c)) + (nI (1)) = nI (c + 1) from nI_addE (rfl) (rfl)]
  refine XP_n 1 (pc' := 23) (ls' := [.ref (1), .int (nI (2)), .int (v)]) (st' := []) (M' := ((rw2 (rw2 I 1 2 (v)) 1 15 (nI (c + 1))), J, Rx R, N, G)) rfl ?_
  exact XP_ret rfl ⟨rfl, rfl⟩
theorem c_most3 : TP X d n_H_mostOf [.int (nI 3)] (I, J, Rx R, N, G) (Ret (.int (nI 1)) (I, J, Rx R, N, G)) := by
  unfold TP
  show XP X _ k_H_mostOf 0 [.int (nI (3))] [] _ _
  refine XP_n 1 (pc' := 1) (ls' := [.int (nI (3))]) (st' := [.int (nI (3))]) (M' := (I, J, Rx R, N, G)) rfl ?_
  refine XP_tabD 3 0 2 8 rfl (by omega) rfl rfl (by omega) rfl ?_
  refine XP_n 1 (pc' := 9) (ls' := [.int (nI (3))]) (st' := [.int (nI (1))]) (M' := (I, J, Rx R, N, G)) rfl ?_
  exact XP_ret rfl ⟨rfl, rfl⟩
theorem c_cnt3 (hS : St s I) (hW : Wf s) (hL : Lk s R N) : TP X d n_H_count [.ref 0, .int (nI 3)] (I, J, Rx R, N, G) (Ret (.int (nI (cBr s))) (I, J, Rx R, N, G)) := by
  unfold TP
  show XP X _ k_H_count 0 [.ref (0), .int (nI (3))] [] _ _
  refine XP_n 1 (pc' := 1) (ls' := [.ref (0), .int (nI (3))]) (st' := [.int (nI (3))]) (M' := (I, J, Rx R, N, G)) rfl ?_
  refine XP_tab 3 0 11 14 rfl (by omega) rfl rfl (by omega) (by omega) rfl ?_
  refine XP_n 2 (pc' := 16) (ls' := [.ref (0), .int (nI (3))]) (st' := [.ref (1)]) (M' := (I, J, Rx R, N, G)) rfl ?_
  refine XP_geti hS rfl rfl rfl ?_
  rw [hL.2.2.2.2.2.2]
  rw [hW.br.1]
  exact XP_ret rfl ⟨rfl, rfl⟩
theorem m_cnt3 (hS : StM s I) (hW : Wf s) : TP X d n_M_count [.ref 99, .int (nI 3)] (I, J, Rx R, N, G) (Ret (.int (nI (cBr s))) (I, J, Rx R, N, G)) := by
  unfold TP
  show XP X _ k_M_count 0 [.ref (99), .int (nI (3))] [] _ _
  refine XP_n 1 (pc' := 1) (ls' := [.ref (99), .int (nI (3))]) (st' := [.int (nI (3))]) (M' := (I, J, Rx R, N, G)) rfl ?_
  refine XP_tab 3 0 11 11 rfl (by omega) rfl rfl (by omega) (by omega) rfl ?_
  refine XP_n 1 (pc' := 12) (ls' := [.ref (99), .int (nI (3))]) (st' := [.ref (99)]) (M' := (I, J, Rx R, N, G)) rfl ?_
  refine XP_getiM hS rfl rfl rfl ?_
  rw [hW.br.1]
  exact XP_ret rfl ⟨rfl, rfl⟩
theorem c_put3 {c : Nat} (k0 : I 1 15 = nI c) (v : Int32) : TP X d n_Coast_put [.ref 1, .int (nI 3), .int v] (I, J, Rx R, N, G) (fun w M' => w = none ∧ M' = (rw2 (rw2 I 1 3 v) 1 15 (nI (c + 1)), J, Rx R, N, G)) := by
  unfold TP
  show XP X _ k_Coast_put 0 [.ref (1), .int (nI (3)), .int (v)] [] _ _
  refine XP_n 1 (pc' := 1) (ls' := [.ref (1), .int (nI (3)), .int (v)]) (st' := [.int (nI (3))]) (M' := (I, J, Rx R, N, G)) rfl ?_
  refine XP_tabD 3 0 2 14 rfl (by omega) rfl rfl (by omega) rfl ?_
  refine XP_n 6 (pc' := 20) (ls' := [.ref (1), .int (nI (3)), .int (v)]) (st' := [.int (I 1 15), .ref (1)]) (M' := ((rw2 I 1 3 (v)), J, Rx R, N, G)) rfl ?_
  rw [k0]
  refine XP_n 2 (pc' := 22) (ls' := [.ref (1), .int (nI (3)), .int (v)]) (st' := [.int ((nI (c)) + (nI (1))), .ref (1)]) (M' := ((rw2 I 1 3 (v)), J, Rx R, N, G)) rfl ?_
  rw [show (nI (c)) + (nI (1)) = nI (c + 1) from nI_addE (rfl) (rfl)]
  refine XP_n 1 (pc' := 23) (ls' := [.ref (1), .int (nI (3)), .int (v)]) (st' := []) (M' := ((rw2 (rw2 I 1 3 (v)) 1 15 (nI (c + 1))), J, Rx R, N, G)) rfl ?_
  exact XP_ret rfl ⟨rfl, rfl⟩
end
theorem st_99_3 (k j : Nat) : mpC k j ≠ some (99, 3) := fun h => by
  have e := ic_ok h
  have e2 : ic 99 3 = (0, 0) := by decide +kernel
  rw [e2] at e
  injection e with e3 e4
  subst e3 e4
  cases h
theorem Wf_to {s : Nat → Nat → Int32} {h v : Int32} (hW : Wf s) (h8 : cT s < 3) (hh : iN 0 60 h) (hv : iN 0 999 v) : Wf (rw2 (rw2 (rw2 s 114 (cT s) (h)) 115 (cT s) (v)) 99 22 (nI (cT s + 1))) :=
  ⟨⟨hW.1.1, hW.1.2.1, ⟨⟨cT s + 1, Nat.zero_le _, h8, rfl⟩, hW.1.2.2.1.2⟩, hW.1.2.2.2⟩, hW.2.1, hW.2.2.1, hW.2.2.2.1, hW.2.2.2.2.1, fun t ht => by
    have e : cT (rw2 (rw2 (rw2 s 114 (cT s) (h)) 115 (cT s) (v)) 99 22 (nI (cT s + 1))) = cT s + 1 := by
      show wN (nI (cT s + 1)) = _
      exact wN_nI (by omega)
    rw [e] at ht
    show iN 0 60 (rw2 s 114 (cT s) h 114 t) ∧ iN 0 999 (rw2 (rw2 s 114 (cT s) h) 115 (cT s) v 115 t)
    by_cases e2 : t = cT s
    · subst e2
      rw [rw2_on, rw2_on]
      exact ⟨hh, hv⟩
    · rw [rw2_off (fun z => e2 z.2), rw2_off (fun z => e2 z.2)]
      exact hW.2.2.2.2.2.1 t (by omega), hW.2.2.2.2.2.2⟩
theorem s_town {s : Nat → Nat → Int32} (hW : Wf s) (hch : iN 0 1000000 (s 1 15)) (h : Int32) (v : Int32) : SetOk 20 n_H_town n_M_town [.int h, .int v] s := by
  have ht3 := hW.t.2
  by_cases g0 : iv 0 60 h
  rotate_left
  · skip
    refine ⟨cI (-2), s, hW, Up.rf hch, fun X d I J R N G hI => ?_, fun X d I J R N G hS => ?_⟩
    · have hL := hI.2.2.1
      have k0 : I 80 3 = nI (cT s) := (hI.1 80 3 99 22 rfl).trans hW.t.1
      unfold TP
      show XP X _ k_H_town 0 [.ref (0), .int (h), .int (v)] [] _ _
      refine XP_n 1 (pc' := 1) (ls' := [.ref (0), .int (h), .int (v)]) (st' := [.int (h)]) (M' := (I, J, Rx R, N, G)) rfl ?_
      refine XP_pure rfl rfl (t_H_isHeight X _ _ _) ?_
      refine XP_s rfl ?_
      refine XP_beq (fun b2 => ?_) (fun b2 => absurd b2 g0)
      refine XP_n 1 (pc' := 13) (ls' := [.ref (0), .int (h), .int (v)]) (st' := [.int (cI (-2))]) (M' := (I, J, Rx R, N, G)) rfl ?_
      exact XP_ret rfl ⟨rfl, _, rfl, hI.1.C, hI.2.2.1, hI.2.2.2.1, FrM.rf⟩
    · have k9 : I 99 22 = nI (cT s) := (hS 99 22 99 22 rfl).trans hW.t.1
      unfold TP
      show XP X _ k_M_town 0 [.ref (99), .int (h), .int (v)] [] _ _
      refine XP_n 3 (pc' := 3) (ls' := [.ref (99), .int (h), .int (v)]) (st' := [.int (nI (60)), .int (nI (0)), .int (h)]) (M' := (I, J, Rx R, N, G)) rfl ?_
      refine XP_pure rfl rfl (w_M X _ _ 0 60 _) ?_
      refine XP_s rfl ?_
      refine XP_beq (fun b4 => ?_) (fun b4 => absurd b4 g0)
      refine XP_n 1 (pc' := 11) (ls' := [.ref (99), .int (h), .int (v)]) (st' := [.int (cI (-2))]) (M' := (I, J, Rx R, N, G)) rfl ?_
      exact XP_ret rfl ⟨rfl, _, rfl, hS, FrC.rf⟩
  by_cases g1 : iv 0 999 v
  rotate_left
  · skip
    refine ⟨cI (-2), s, hW, Up.rf hch, fun X d I J R N G hI => ?_, fun X d I J R N G hS => ?_⟩
    · have hL := hI.2.2.1
      have k0 : I 80 3 = nI (cT s) := (hI.1 80 3 99 22 rfl).trans hW.t.1
      unfold TP
      show XP X _ k_H_town 0 [.ref (0), .int (h), .int (v)] [] _ _
      refine XP_n 1 (pc' := 1) (ls' := [.ref (0), .int (h), .int (v)]) (st' := [.int (h)]) (M' := (I, J, Rx R, N, G)) rfl ?_
      refine XP_pure rfl rfl (t_H_isHeight X _ _ _) ?_
      refine XP_s rfl ?_
      refine XP_beq (fun b2 => absurd g0 b2) (fun b2 => ?_)
      refine XP_n 1 (pc' := 4) (ls' := [.ref (0), .int (h), .int (v)]) (st' := [.int (v)]) (M' := (I, J, Rx R, N, G)) rfl ?_
      refine XP_pure rfl rfl (t_H_isWorth X _ _ _) ?_
      refine XP_s rfl ?_
      refine XP_beq (fun b5 => ?_) (fun b5 => absurd b5 g1)
      refine XP_n 1 (pc' := 13) (ls' := [.ref (0), .int (h), .int (v)]) (st' := [.int (cI (-2))]) (M' := (I, J, Rx R, N, G)) rfl ?_
      exact XP_ret rfl ⟨rfl, _, rfl, hI.1.C, hI.2.2.1, hI.2.2.2.1, FrM.rf⟩
    · have k9 : I 99 22 = nI (cT s) := (hS 99 22 99 22 rfl).trans hW.t.1
      unfold TP
      show XP X _ k_M_town 0 [.ref (99), .int (h), .int (v)] [] _ _
      refine XP_n 3 (pc' := 3) (ls' := [.ref (99), .int (h), .int (v)]) (st' := [.int (nI (60)), .int (nI (0)), .int (h)]) (M' := (I, J, Rx R, N, G)) rfl ?_
      refine XP_pure rfl rfl (w_M X _ _ 0 60 _) ?_
      refine XP_s rfl ?_
      refine XP_beq (fun b4 => absurd g0 b4) (fun b4 => ?_)
      refine XP_n 3 (pc' := 8) (ls' := [.ref (99), .int (h), .int (v)]) (st' := [.int (nI (999)), .int (nI (0)), .int (v)]) (M' := (I, J, Rx R, N, G)) rfl ?_
      refine XP_pure rfl rfl (w_M X _ _ 0 999 _) ?_
      refine XP_s rfl ?_
      refine XP_bne (fun b9 => absurd b9 g1) (fun b9 => ?_)
      refine XP_n 1 (pc' := 11) (ls' := [.ref (99), .int (h), .int (v)]) (st' := [.int (cI (-2))]) (M' := (I, J, Rx R, N, G)) rfl ?_
      exact XP_ret rfl ⟨rfl, _, rfl, hS, FrC.rf⟩
  have hh : iN 0 60 h := by
    obtain ⟨n, a, b, c, -⟩ := iv_nat g0 (by omega) (by omega)
    exact ⟨n, a, b, c⟩
  have hv : iN 0 999 v := by
    obtain ⟨n, a, b, c, -⟩ := iv_nat g1 (by omega) (by omega)
    exact ⟨n, a, b, c⟩
  by_cases g2 : cT s < 3
  rotate_left
  · skip
    refine ⟨cI (-4), s, hW, Up.rf hch, fun X d I J R N G hI => ?_, fun X d I J R N G hS => ?_⟩
    · have hL := hI.2.2.1
      have k0 : I 80 3 = nI (cT s) := (hI.1 80 3 99 22 rfl).trans hW.t.1
      unfold TP
      show XP X _ k_H_town 0 [.ref (0), .int (h), .int (v)] [] _ _
      refine XP_n 1 (pc' := 1) (ls' := [.ref (0), .int (h), .int (v)]) (st' := [.int (h)]) (M' := (I, J, Rx R, N, G)) rfl ?_
      refine XP_pure rfl rfl (t_H_isHeight X _ _ _) ?_
      refine XP_s rfl ?_
      refine XP_beq (fun b2 => absurd g0 b2) (fun b2 => ?_)
      refine XP_n 1 (pc' := 4) (ls' := [.ref (0), .int (h), .int (v)]) (st' := [.int (v)]) (M' := (I, J, Rx R, N, G)) rfl ?_
      refine XP_pure rfl rfl (t_H_isWorth X _ _ _) ?_
      refine XP_s rfl ?_
      refine XP_beq (fun b5 => absurd g1 b5) (fun b5 => ?_)
      refine XP_n 4 (pc' := 10) (ls' := [.ref (0), .int (h), .int (v)]) (st' := [.int (v), .int (h), .ref (80)]) (M' := (I, J, Rx R, N, G)) rfl ?_
      refine XP_pure rfl rfl (c_addF (by omega) k0 _ _) ?_
      refine XP_n 1 (pc' := 13) (ls' := [.ref (0), .int (h), .int (v)]) (st' := [.int (cI (-4))]) (M' := (I, J, Rx R, N, G)) rfl ?_
      exact XP_ret rfl ⟨rfl, _, rfl, hI.1.C, hI.2.2.1, hI.2.2.2.1, FrM.rf⟩
    · have k9 : I 99 22 = nI (cT s) := (hS 99 22 99 22 rfl).trans hW.t.1
      unfold TP
      show XP X _ k_M_town 0 [.ref (99), .int (h), .int (v)] [] _ _
      refine XP_n 3 (pc' := 3) (ls' := [.ref (99), .int (h), .int (v)]) (st' := [.int (nI (60)), .int (nI (0)), .int (h)]) (M' := (I, J, Rx R, N, G)) rfl ?_
      refine XP_pure rfl rfl (w_M X _ _ 0 60 _) ?_
      refine XP_s rfl ?_
      refine XP_beq (fun b4 => absurd g0 b4) (fun b4 => ?_)
      refine XP_n 3 (pc' := 8) (ls' := [.ref (99), .int (h), .int (v)]) (st' := [.int (nI (999)), .int (nI (0)), .int (v)]) (M' := (I, J, Rx R, N, G)) rfl ?_
      refine XP_pure rfl rfl (w_M X _ _ 0 999 _) ?_
      refine XP_s rfl ?_
      refine XP_bne (fun b9 => ?_) (fun b9 => absurd g1 b9)
      refine XP_n 2 (pc' := 14) (ls' := [.ref (99), .int (h), .int (v)]) (st' := [.int (I 99 22)]) (M' := (I, J, Rx R, N, G)) rfl ?_
      rw [k9]
      refine XP_n 1 (pc' := 15) (ls' := [.ref (99), .int (h), .int (v)]) (st' := [.int (nI (3)), .int (nI (cT s))]) (M' := (I, J, Rx R, N, G)) rfl ?_
      refine XP_icN (x := cT s) (y := 3) rfl (by omega) (by omega) (fun (b15 : ¬ cT s = 3) => absurd b15 (by omega)) (fun (b15 : cT s = 3) => ?_)
      refine XP_n 1 (pc' := 17) (ls' := [.ref (99), .int (h), .int (v)]) (st' := [.int (cI (-4))]) (M' := (I, J, Rx R, N, G)) rfl ?_
      exact XP_ret rfl ⟨rfl, _, rfl, hS, FrC.rf⟩
  refine ⟨nI (cT s), (rw2 (rw2 (rw2 s 114 (cT s) (h)) 115 (cT s) (v)) 99 22 (nI (cT s + 1))), Wf_to hW (by omega) hh hv, Up.rf hch, fun X d I J R N G hI => ?_, fun X d I J R N G hS => ?_⟩
  · have hL := hI.2.2.1
    have k0 : I 80 3 = nI (cT s) := (hI.1 80 3 99 22 rfl).trans hW.t.1
    unfold TP
    show XP X _ k_H_town 0 [.ref (0), .int (h), .int (v)] [] _ _
    refine XP_n 1 (pc' := 1) (ls' := [.ref (0), .int (h), .int (v)]) (st' := [.int (h)]) (M' := (I, J, Rx R, N, G)) rfl ?_
    refine XP_pure rfl rfl (t_H_isHeight X _ _ _) ?_
    refine XP_s rfl ?_
    refine XP_beq (fun b2 => absurd g0 b2) (fun b2 => ?_)
    refine XP_n 1 (pc' := 4) (ls' := [.ref (0), .int (h), .int (v)]) (st' := [.int (v)]) (M' := (I, J, Rx R, N, G)) rfl ?_
    refine XP_pure rfl rfl (t_H_isWorth X _ _ _) ?_
    refine XP_s rfl ?_
    refine XP_beq (fun b5 => absurd g1 b5) (fun b5 => ?_)
    refine XP_n 4 (pc' := 10) (ls' := [.ref (0), .int (h), .int (v)]) (st' := [.int (v), .int (h), .ref (80)]) (M' := (I, J, Rx R, N, G)) rfl ?_
    refine XP_call rfl rfl (c_addT g2 k0 _ _) ?_
    rintro v1 M1 ⟨rfl, rfl⟩
    refine XP_n 1 (pc' := 13) (ls' := [.ref (0), .int (h), .int (v)]) (st' := [.int (nI (cT s))]) (M' := ((rw2 (rw2 (rw2 I 81 (cT s) (h)) 82 (cT s) (v)) 80 3 (nI (cT s + 1))), J, Rx R, N, G)) rfl ?_
    exact XP_ret rfl ⟨rfl, _, rfl, (StC_w (StC_w (StC_w hI.1.C rfl) rfl) rfl), agrl_Lk (s := s) ⟨fun k hk => by rw [rw2_ro (by omega), rw2_ro (by omega), rw2_ro (by omega)], rfl, rfl, rfl, fun e => e, rfl, rfl, rfl⟩ hI.2.2.1, agr_Cch (s := s) ⟨fun k h1 h2 => by rw [rw2_ro (by omega), rw2_ro (by omega), rw2_ro (by omega)], rfl, rfl, fun j hj => by rw [rw2_off (by omega), rw2_ro (by omega), rw2_ro (by omega)], rfl, rfl⟩ (Cch.w (Cch.w (Cch.w hI.2.2.2.1 hW.p.2 (by omega)) hW.p.2 (by omega)) hW.p.2 (by omega)), (FrM.w (FrM.w (FrM.w FrM.rf rfl) rfl) rfl)⟩
  · have k9 : I 99 22 = nI (cT s) := (hS 99 22 99 22 rfl).trans hW.t.1
    unfold TP
    show XP X _ k_M_town 0 [.ref (99), .int (h), .int (v)] [] _ _
    refine XP_n 3 (pc' := 3) (ls' := [.ref (99), .int (h), .int (v)]) (st' := [.int (nI (60)), .int (nI (0)), .int (h)]) (M' := (I, J, Rx R, N, G)) rfl ?_
    refine XP_pure rfl rfl (w_M X _ _ 0 60 _) ?_
    refine XP_s rfl ?_
    refine XP_beq (fun b4 => absurd g0 b4) (fun b4 => ?_)
    refine XP_n 3 (pc' := 8) (ls' := [.ref (99), .int (h), .int (v)]) (st' := [.int (nI (999)), .int (nI (0)), .int (v)]) (M' := (I, J, Rx R, N, G)) rfl ?_
    refine XP_pure rfl rfl (w_M X _ _ 0 999 _) ?_
    refine XP_s rfl ?_
    refine XP_bne (fun b9 => ?_) (fun b9 => absurd g1 b9)
    refine XP_n 2 (pc' := 14) (ls' := [.ref (99), .int (h), .int (v)]) (st' := [.int (I 99 22)]) (M' := (I, J, Rx R, N, G)) rfl ?_
    rw [k9]
    refine XP_n 1 (pc' := 15) (ls' := [.ref (99), .int (h), .int (v)]) (st' := [.int (nI (3)), .int (nI (cT s))]) (M' := (I, J, Rx R, N, G)) rfl ?_
    refine XP_icN (x := cT s) (y := 3) rfl (by omega) (by omega) (fun (b15 : ¬ cT s = 3) => ?_) (fun (b15 : cT s = 3) => absurd b15 (by omega))
    refine XP_n 4 (pc' := 22) (ls' := [.ref (99), .int (h), .int (v)]) (st' := [.int (I 99 22), .ref (114)]) (M' := (I, J, Rx R, N, G)) rfl ?_
    rw [k9]
    refine XP_n 1 (pc' := 23) (ls' := [.ref (99), .int (h), .int (v)]) (st' := [.int (h), .int (nI (cT s)), .ref (114)]) (M' := (I, J, Rx R, N, G)) rfl ?_
    refine XP_iast rfl rfl (show cT s < 3 by omega) rfl (by omega) ?_
    refine XP_n 4 (pc' := 28) (ls' := [.ref (99), .int (h), .int (v)]) (st' := [.int (I 99 22), .ref (115)]) (M' := ((rw2 I 114 (cT s) (h)), J, Rx R, N, G)) rfl ?_
    rw [k9]
    refine XP_n 1 (pc' := 29) (ls' := [.ref (99), .int (h), .int (v)]) (st' := [.int (v), .int (nI (cT s)), .ref (115)]) (M' := ((rw2 I 114 (cT s) (h)), J, Rx R, N, G)) rfl ?_
    refine XP_iast rfl rfl (show cT s < 3 by omega) rfl (by omega) ?_
    refine XP_n 3 (pc' := 33) (ls' := [.ref (99), .int (h), .int (v)]) (st' := [.int (I 99 22), .ref (99)]) (M' := ((rw2 (rw2 I 114 (cT s) (h)) 115 (cT s) (v)), J, Rx R, N, G)) rfl ?_
    rw [k9]
    refine XP_n 2 (pc' := 35) (ls' := [.ref (99), .int (h), .int (v)]) (st' := [.int ((nI (cT s)) + (nI (1))), .ref (99)]) (M' := ((rw2 (rw2 I 114 (cT s) (h)) 115 (cT s) (v)), J, Rx R, N, G)) rfl ?_
    rw [show (nI (cT s)) + (nI (1)) = nI (cT s + 1) from nI_addE (rfl) (rfl)]
    refine XP_n 5 (pc' := 40) (ls' := [.ref (99), .int (h), .int (v)]) (st' := [.int ((nI (cT s + 1)) - (nI (1)))]) (M' := ((rw2 (rw2 (rw2 I 114 (cT s) (h)) 115 (cT s) (v)) 99 22 (nI (cT s + 1))), J, Rx R, N, G)) rfl ?_
    rw [show (nI (cT s + 1)) - (nI (1)) = nI (cT s + 1 - 1) from nI_subE (rfl) (rfl) (by omega)]
    exact XP_ret rfl ⟨rfl, _, rfl, (StM_w (StM_w (StM_w hS rfl) rfl) rfl), (FrC.w (FrC.w (FrC.w FrC.rf rfl) rfl) rfl)⟩
theorem s_set {s : Nat → Nat → Int32} (hW : Wf s) (hch : iN 0 1000000 (s 1 15)) (what : Int32) (v : Int32) : SetOk 20 n_H_set n_M_set [.int what, .int v] s := by
  obtain ⟨hc1, hc2⟩ := ch_n hch
  by_cases g0 : iv 0 3 what
  rotate_left
  · skip
    refine ⟨cI (-1), s, hW, Up.rf hch, fun X d I J R N G hI => ?_, fun X d I J R N G hS => ?_⟩
    · have hL := hI.2.2.1
      unfold TP
      show XP X _ k_H_set 0 [.ref (0), .int (what), .int (v), xj] [] _ _
      refine XP_n 3 (pc' := 3) (ls' := [.ref (0), .int (what), .int (v), xj]) (st' := [.int (nI (3)), .int (nI (0)), .int (what)]) (M' := (I, J, Rx R, N, G)) rfl ?_
      refine XP_pure rfl rfl (w_H X _ _ 0 3 _) ?_
      refine XP_s rfl ?_
      refine XP_bne (fun b4 => absurd b4 g0) (fun b4 => ?_)
      refine XP_n 1 (pc' := 6) (ls' := [.ref (0), .int (what), .int (v), xj]) (st' := [.int (cI (-1))]) (M' := (I, J, Rx R, N, G)) rfl ?_
      exact XP_ret rfl ⟨rfl, _, rfl, hI.1.C, hI.2.2.1, hI.2.2.2.1, FrM.rf⟩
    · unfold TP
      show XP X _ k_M_set 0 [.ref (99), .int (what), .int (v), xj] [] _ _
      refine XP_n 3 (pc' := 3) (ls' := [.ref (99), .int (what), .int (v), xj]) (st' := [.int (nI (3)), .int (nI (0)), .int (what)]) (M' := (I, J, Rx R, N, G)) rfl ?_
      refine XP_pure rfl rfl (w_M X _ _ 0 3 _) ?_
      refine XP_s rfl ?_
      refine XP_bne (fun b4 => absurd b4 g0) (fun b4 => ?_)
      refine XP_n 1 (pc' := 6) (ls' := [.ref (99), .int (what), .int (v), xj]) (st' := [.int (cI (-1))]) (M' := (I, J, Rx R, N, G)) rfl ?_
      exact XP_ret rfl ⟨rfl, _, rfl, hS, FrC.rf⟩
  obtain ⟨n, h0, h3, rfl, -⟩ := iv_nat g0 (by omega) (by omega)
  have hx : n = 0 ∨ n = 1 ∨ n = 2 ∨ n = 3 := by omega
  clear h0 h3
  rcases hx with rfl | rfl | rfl | rfl
  · skip
    by_cases g1 : iv 1 16 v
    rotate_left
    · skip
      refine ⟨cI (-2), s, hW, Up.rf hch, fun X d I J R N G hI => ?_, fun X d I J R N G hS => ?_⟩
      · have hL := hI.2.2.1
        have k15 : I 1 15 = nI (wN (s 1 15)) := (hI.1 1 15 1 15 rfl).trans hc1
        unfold TP
        show XP X _ k_H_set 0 [.ref (0), .int (nI (0)), .int (v), xj] [] _ _
        refine XP_n 3 (pc' := 3) (ls' := [.ref (0), .int (nI (0)), .int (v), xj]) (st' := [.int (nI (3)), .int (nI (0)), .int (nI (0))]) (M' := (I, J, Rx R, N, G)) rfl ?_
        refine XP_pure rfl rfl (w_H X _ _ 0 3 _) ?_
        refine XP_s rfl ?_
        refine XP_bne (fun b4 => ?_) (fun b4 => absurd g0 b4)
        refine XP_n 2 (pc' := 9) (ls' := [.ref (0), .int (nI (0)), .int (v), xj]) (st' := [.int (nI (0)), .int (v)]) (M' := (I, J, Rx R, N, G)) rfl ?_
        refine XP_ifN (x := 0)  rfl (by omega) (fun (b9 : ¬ 0 = 0) => absurd b9 (by omega)) (fun (b9 : 0 = 0) => ?_)
        refine XP_n 3 (pc' := 14) (ls' := [.ref (0), .int (nI (0)), .int (v), xj]) (st' := [.int (nI (0)), .int (nI (1)), .int (v)]) (M' := (I, J, Rx R, N, G)) rfl ?_
        refine XP_pure rfl rfl c_most0 ?_
        refine XP_pure rfl rfl (w_H X _ _ 1 16 _) ?_
        refine XP_s rfl ?_
        refine XP_bne (fun b16 => absurd b16 g1) (fun b16 => ?_)
        refine XP_n 1 (pc' := 18) (ls' := [.ref (0), .int (nI (0)), .int (v), xj]) (st' := [.int (cI (-2))]) (M' := (I, J, Rx R, N, G)) rfl ?_
        exact XP_ret rfl ⟨rfl, _, rfl, hI.1.C, hI.2.2.1, hI.2.2.2.1, FrM.rf⟩
      · unfold TP
        show XP X _ k_M_set 0 [.ref (99), .int (nI (0)), .int (v), xj] [] _ _
        refine XP_n 3 (pc' := 3) (ls' := [.ref (99), .int (nI (0)), .int (v), xj]) (st' := [.int (nI (3)), .int (nI (0)), .int (nI (0))]) (M' := (I, J, Rx R, N, G)) rfl ?_
        refine XP_pure rfl rfl (w_M X _ _ 0 3 _) ?_
        refine XP_s rfl ?_
        refine XP_bne (fun b4 => ?_) (fun b4 => absurd g0 b4)
        refine XP_n 1 (pc' := 8) (ls' := [.ref (99), .int (nI (0)), .int (v), xj]) (st' := [.int (nI (0))]) (M' := (I, J, Rx R, N, G)) rfl ?_
        refine XP_ifN (x := 0)  rfl (by omega) (fun (b8 : ¬ 0 = 0) => absurd b8 (by omega)) (fun (b8 : 0 = 0) => ?_)
        refine XP_n 3 (pc' := 12) (ls' := [.ref (99), .int (nI (0)), .int (v), xj]) (st' := [.int (nI (16)), .int (nI (1)), .int (v)]) (M' := (I, J, Rx R, N, G)) rfl ?_
        refine XP_pure rfl rfl (w_M X _ _ 1 16 _) ?_
        refine XP_s rfl ?_
        refine XP_beq (fun b13 => ?_) (fun b13 => absurd b13 g1)
        refine XP_n 1 (pc' := 31) (ls' := [.ref (99), .int (nI (0)), .int (v), xj]) (st' := [.int (cI (-2))]) (M' := (I, J, Rx R, N, G)) rfl ?_
        exact XP_ret rfl ⟨rfl, _, rfl, hS, FrC.rf⟩
    have hv : iN 1 16 v := by
      obtain ⟨n, a, b, c, -⟩ := iv_nat g1 (by omega) (by omega)
      exact ⟨n, a, b, c⟩
    refine ⟨nI (cY s), (rw2 (rw2 s 99 0 (v)) 1 15 (nI (wN (s 1 15) + 1))), ⟨⟨⟨hv, hW.1.1.2⟩, hW.1.2⟩, hW.2⟩, ⟨_, rfl, Nat.le_succ _, by omega, rfl, rfl⟩, fun X d I J R N G hI => ?_, fun X d I J R N G hS => ?_⟩
    · have hL := hI.2.2.1
      have k15 : I 1 15 = nI (wN (s 1 15)) := (hI.1 1 15 1 15 rfl).trans hc1
      unfold TP
      show XP X _ k_H_set 0 [.ref (0), .int (nI (0)), .int (v), xj] [] _ _
      refine XP_n 3 (pc' := 3) (ls' := [.ref (0), .int (nI (0)), .int (v), xj]) (st' := [.int (nI (3)), .int (nI (0)), .int (nI (0))]) (M' := (I, J, Rx R, N, G)) rfl ?_
      refine XP_pure rfl rfl (w_H X _ _ 0 3 _) ?_
      refine XP_s rfl ?_
      refine XP_bne (fun b4 => ?_) (fun b4 => absurd g0 b4)
      refine XP_n 2 (pc' := 9) (ls' := [.ref (0), .int (nI (0)), .int (v), xj]) (st' := [.int (nI (0)), .int (v)]) (M' := (I, J, Rx R, N, G)) rfl ?_
      refine XP_ifN (x := 0)  rfl (by omega) (fun (b9 : ¬ 0 = 0) => absurd b9 (by omega)) (fun (b9 : 0 = 0) => ?_)
      refine XP_n 3 (pc' := 14) (ls' := [.ref (0), .int (nI (0)), .int (v), xj]) (st' := [.int (nI (0)), .int (nI (1)), .int (v)]) (M' := (I, J, Rx R, N, G)) rfl ?_
      refine XP_pure rfl rfl c_most0 ?_
      refine XP_pure rfl rfl (w_H X _ _ 1 16 _) ?_
      refine XP_s rfl ?_
      refine XP_bne (fun b16 => ?_) (fun b16 => absurd g1 b16)
      refine XP_n 2 (pc' := 21) (ls' := [.ref (0), .int (nI (0)), .int (v), xj]) (st' := [.int (nI (0)), .ref (0)]) (M' := (I, J, Rx R, N, G)) rfl ?_
      refine XP_pure rfl rfl (c_cnt0 hI.1 hW hL) ?_
      refine XP_n 5 (pc' := 27) (ls' := [.ref (0), .int (nI (0)), .int (v), .int (nI (cY s))]) (st' := [.int (v), .int (nI (0)), .ref (1)]) (M' := (I, J, Rx R, N, G)) rfl ?_
      refine XP_call rfl rfl (c_put0 k15 _) ?_
      rintro v1 M1 ⟨rfl, rfl⟩
      refine XP_n 1 (pc' := 29) (ls' := [.ref (0), .int (nI (0)), .int (v), .int (nI (cY s))]) (st' := [.int (nI (cY s))]) (M' := ((rw2 (rw2 I 1 0 (v)) 1 15 (nI (wN (s 1 15) + 1))), J, Rx R, N, G)) rfl ?_
      exact XP_ret rfl ⟨rfl, _, rfl, (StC_w (StC_w hI.1.C rfl) rfl), agrl_Lk (s := s) ⟨fun k hk => by rw [rw2_ro (by omega), rw2_ro (by omega)], rfl, rfl, rfl, fun e => e, rfl, rfl, rfl⟩ hI.2.2.1, (Cch.new (Cch.w (Cch.w hI.2.2.2.1 hW.p.2 (by omega)) hW.p.2 (by omega)) hW.p.2 rfl (Nat.lt_succ_self _) (by omega)), (FrM.w (FrM.w FrM.rf rfl) rfl)⟩
    · have q0 : I 99 0 = nI (cY s) := (hS 99 0 99 0 rfl).trans hW.y.1
      have q1 : I 99 1 = nI (cW s) := (hS 99 1 99 1 rfl).trans hW.w.1
      have q2 : I 99 2 = nI (cB s) := (hS 99 2 99 2 rfl).trans hW.b.1
      have q3 : I 99 3 = nI (cBr s) := (hS 99 3 99 3 rfl).trans hW.br.1
      unfold TP
      show XP X _ k_M_set 0 [.ref (99), .int (nI (0)), .int (v), xj] [] _ _
      refine XP_n 3 (pc' := 3) (ls' := [.ref (99), .int (nI (0)), .int (v), xj]) (st' := [.int (nI (3)), .int (nI (0)), .int (nI (0))]) (M' := (I, J, Rx R, N, G)) rfl ?_
      refine XP_pure rfl rfl (w_M X _ _ 0 3 _) ?_
      refine XP_s rfl ?_
      refine XP_bne (fun b4 => ?_) (fun b4 => absurd g0 b4)
      refine XP_n 1 (pc' := 8) (ls' := [.ref (99), .int (nI (0)), .int (v), xj]) (st' := [.int (nI (0))]) (M' := (I, J, Rx R, N, G)) rfl ?_
      refine XP_ifN (x := 0)  rfl (by omega) (fun (b8 : ¬ 0 = 0) => absurd b8 (by omega)) (fun (b8 : 0 = 0) => ?_)
      refine XP_n 3 (pc' := 12) (ls' := [.ref (99), .int (nI (0)), .int (v), xj]) (st' := [.int (nI (16)), .int (nI (1)), .int (v)]) (M' := (I, J, Rx R, N, G)) rfl ?_
      refine XP_pure rfl rfl (w_M X _ _ 1 16 _) ?_
      refine XP_s rfl ?_
      refine XP_beq (fun b13 => absurd g1 b13) (fun b13 => ?_)
      refine XP_n 3 (pc' := 34) (ls' := [.ref (99), .int (nI (0)), .int (v), xj]) (st' := [.int (nI (0)), .ref (99)]) (M' := (I, J, Rx R, N, G)) rfl ?_
      refine XP_pure rfl rfl (m_cnt0 hS hW) ?_
      refine XP_n 3 (pc' := 38) (ls' := [.ref (99), .int (nI (0)), .int (v), .int (nI (cY s))]) (st' := [.int (nI (0)), .ref (99)]) (M' := (I, J, Rx R, N, G)) rfl ?_
      refine XP_ifN (x := 0)  rfl (by omega) (fun (b38 : ¬ 0 = 0) => absurd b38 (by omega)) (fun (b38 : 0 = 0) => ?_)
      refine XP_n 6 (pc' := 47) (ls' := [.ref (99), .int (nI (0)), .int (v), .int (nI (cY s))]) (st' := [.int (nI (1)), .int (nI (0)), .ref (99)]) (M' := ((rw2 I 99 0 (v)), J, Rx R, N, G)) rfl ?_
      refine XP_icN (x := 0) (y := 1) rfl (by omega) (by omega) (fun (b47 : ¬ 0 = 1) => ?_) (fun (b47 : 0 = 1) => absurd b47 (by omega))
      refine XP_n 2 (pc' := 52) (ls' := [.ref (99), .int (nI (0)), .int (v), .int (nI (cY s))]) (st' := [.int (I 99 1), .ref (99)]) (M' := ((rw2 I 99 0 (v)), J, Rx R, N, G)) rfl ?_
      rw [q1]
      refine XP_n 4 (pc' := 56) (ls' := [.ref (99), .int (nI (0)), .int (v), .int (nI (cY s))]) (st' := [.int (nI (2)), .int (nI (0)), .ref (99)]) (M' := ((rw2 (rw2 I 99 0 (v)) 99 1 (nI (cW s))), J, Rx R, N, G)) rfl ?_
      refine XP_icN (x := 0) (y := 2) rfl (by omega) (by omega) (fun (b56 : ¬ 0 = 2) => ?_) (fun (b56 : 0 = 2) => absurd b56 (by omega))
      refine XP_n 2 (pc' := 61) (ls' := [.ref (99), .int (nI (0)), .int (v), .int (nI (cY s))]) (st' := [.int (I 99 2), .ref (99)]) (M' := ((rw2 (rw2 I 99 0 (v)) 99 1 (nI (cW s))), J, Rx R, N, G)) rfl ?_
      rw [q2]
      refine XP_n 4 (pc' := 65) (ls' := [.ref (99), .int (nI (0)), .int (v), .int (nI (cY s))]) (st' := [.int (nI (3)), .int (nI (0)), .ref (99)]) (M' := ((rw2 (rw2 (rw2 I 99 0 (v)) 99 1 (nI (cW s))) 99 2 (nI (cB s))), J, Rx R, N, G)) rfl ?_
      refine XP_icN (x := 0) (y := 3) rfl (by omega) (by omega) (fun (b65 : ¬ 0 = 3) => ?_) (fun (b65 : 0 = 3) => absurd b65 (by omega))
      refine XP_n 2 (pc' := 70) (ls' := [.ref (99), .int (nI (0)), .int (v), .int (nI (cY s))]) (st' := [.int (I 99 3), .ref (99)]) (M' := ((rw2 (rw2 (rw2 I 99 0 (v)) 99 1 (nI (cW s))) 99 2 (nI (cB s))), J, Rx R, N, G)) rfl ?_
      rw [q3]
      refine XP_n 2 (pc' := 72) (ls' := [.ref (99), .int (nI (0)), .int (v), .int (nI (cY s))]) (st' := [.int (nI (cY s))]) (M' := ((rw2 (rw2 (rw2 (rw2 I 99 0 (v)) 99 1 (nI (cW s))) 99 2 (nI (cB s))) 99 3 (nI (cBr s))), J, Rx R, N, G)) rfl ?_
      exact XP_ret rfl ⟨rfl, _, rfl, (StM_sC (StM_i (StM_i (StM_i (StM_w hS rfl) rfl hW.w.1) rfl hW.b.1) rfl hW.br.1) rfl), (FrC.w (FrC.w (FrC.w (FrC.w FrC.rf rfl) rfl) rfl) rfl)⟩
  · skip
    by_cases g1 : iv 0 60 v
    rotate_left
    · skip
      refine ⟨cI (-2), s, hW, Up.rf hch, fun X d I J R N G hI => ?_, fun X d I J R N G hS => ?_⟩
      · have hL := hI.2.2.1
        have k15 : I 1 15 = nI (wN (s 1 15)) := (hI.1 1 15 1 15 rfl).trans hc1
        unfold TP
        show XP X _ k_H_set 0 [.ref (0), .int (nI (1)), .int (v), xj] [] _ _
        refine XP_n 3 (pc' := 3) (ls' := [.ref (0), .int (nI (1)), .int (v), xj]) (st' := [.int (nI (3)), .int (nI (0)), .int (nI (1))]) (M' := (I, J, Rx R, N, G)) rfl ?_
        refine XP_pure rfl rfl (w_H X _ _ 0 3 _) ?_
        refine XP_s rfl ?_
        refine XP_bne (fun b4 => ?_) (fun b4 => absurd g0 b4)
        refine XP_n 2 (pc' := 9) (ls' := [.ref (0), .int (nI (1)), .int (v), xj]) (st' := [.int (nI (1)), .int (v)]) (M' := (I, J, Rx R, N, G)) rfl ?_
        refine XP_ifN (x := 1)  rfl (by omega) (fun (b9 : ¬ 1 = 0) => ?_) (fun (b9 : 1 = 0) => absurd b9 (by omega))
        refine XP_n 2 (pc' := 14) (ls' := [.ref (0), .int (nI (1)), .int (v), xj]) (st' := [.int (nI (1)), .int (nI (0)), .int (v)]) (M' := (I, J, Rx R, N, G)) rfl ?_
        refine XP_pure rfl rfl c_most1 ?_
        refine XP_pure rfl rfl (w_H X _ _ 0 60 _) ?_
        refine XP_s rfl ?_
        refine XP_bne (fun b16 => absurd b16 g1) (fun b16 => ?_)
        refine XP_n 1 (pc' := 18) (ls' := [.ref (0), .int (nI (1)), .int (v), xj]) (st' := [.int (cI (-2))]) (M' := (I, J, Rx R, N, G)) rfl ?_
        exact XP_ret rfl ⟨rfl, _, rfl, hI.1.C, hI.2.2.1, hI.2.2.2.1, FrM.rf⟩
      · unfold TP
        show XP X _ k_M_set 0 [.ref (99), .int (nI (1)), .int (v), xj] [] _ _
        refine XP_n 3 (pc' := 3) (ls' := [.ref (99), .int (nI (1)), .int (v), xj]) (st' := [.int (nI (3)), .int (nI (0)), .int (nI (1))]) (M' := (I, J, Rx R, N, G)) rfl ?_
        refine XP_pure rfl rfl (w_M X _ _ 0 3 _) ?_
        refine XP_s rfl ?_
        refine XP_bne (fun b4 => ?_) (fun b4 => absurd g0 b4)
        refine XP_n 1 (pc' := 8) (ls' := [.ref (99), .int (nI (1)), .int (v), xj]) (st' := [.int (nI (1))]) (M' := (I, J, Rx R, N, G)) rfl ?_
        refine XP_ifN (x := 1)  rfl (by omega) (fun (b8 : ¬ 1 = 0) => ?_) (fun (b8 : 1 = 0) => absurd b8 (by omega))
        refine XP_n 4 (pc' := 19) (ls' := [.ref (99), .int (nI (1)), .int (v), xj]) (st' := [.int (nI (1)), .int (nI (1)), .int (nI (0)), .int (v)]) (M' := (I, J, Rx R, N, G)) rfl ?_
        refine XP_icN (x := 1) (y := 1) rfl (by omega) (by omega) (fun (b19 : ¬ 1 = 1) => absurd b19 (by omega)) (fun (b19 : 1 = 1) => ?_)
        refine XP_n 2 (pc' := 28) (ls' := [.ref (99), .int (nI (1)), .int (v), xj]) (st' := [.int (nI (60)), .int (nI (0)), .int (v)]) (M' := (I, J, Rx R, N, G)) rfl ?_
        refine XP_pure rfl rfl (w_M X _ _ 0 60 _) ?_
        refine XP_s rfl ?_
        refine XP_bne (fun b29 => absurd b29 g1) (fun b29 => ?_)
        refine XP_n 1 (pc' := 31) (ls' := [.ref (99), .int (nI (1)), .int (v), xj]) (st' := [.int (cI (-2))]) (M' := (I, J, Rx R, N, G)) rfl ?_
        exact XP_ret rfl ⟨rfl, _, rfl, hS, FrC.rf⟩
    have hv : iN 0 60 v := by
      obtain ⟨n, a, b, c, -⟩ := iv_nat g1 (by omega) (by omega)
      exact ⟨n, a, b, c⟩
    refine ⟨nI (cW s), (rw2 (rw2 s 99 1 (v)) 1 15 (nI (wN (s 1 15) + 1))), ⟨⟨⟨hW.1.1.1, hv, hW.1.1.2.2⟩, hW.1.2⟩, hW.2⟩, ⟨_, rfl, Nat.le_succ _, by omega, rfl, rfl⟩, fun X d I J R N G hI => ?_, fun X d I J R N G hS => ?_⟩
    · have hL := hI.2.2.1
      have k15 : I 1 15 = nI (wN (s 1 15)) := (hI.1 1 15 1 15 rfl).trans hc1
      unfold TP
      show XP X _ k_H_set 0 [.ref (0), .int (nI (1)), .int (v), xj] [] _ _
      refine XP_n 3 (pc' := 3) (ls' := [.ref (0), .int (nI (1)), .int (v), xj]) (st' := [.int (nI (3)), .int (nI (0)), .int (nI (1))]) (M' := (I, J, Rx R, N, G)) rfl ?_
      refine XP_pure rfl rfl (w_H X _ _ 0 3 _) ?_
      refine XP_s rfl ?_
      refine XP_bne (fun b4 => ?_) (fun b4 => absurd g0 b4)
      refine XP_n 2 (pc' := 9) (ls' := [.ref (0), .int (nI (1)), .int (v), xj]) (st' := [.int (nI (1)), .int (v)]) (M' := (I, J, Rx R, N, G)) rfl ?_
      refine XP_ifN (x := 1)  rfl (by omega) (fun (b9 : ¬ 1 = 0) => ?_) (fun (b9 : 1 = 0) => absurd b9 (by omega))
      refine XP_n 2 (pc' := 14) (ls' := [.ref (0), .int (nI (1)), .int (v), xj]) (st' := [.int (nI (1)), .int (nI (0)), .int (v)]) (M' := (I, J, Rx R, N, G)) rfl ?_
      refine XP_pure rfl rfl c_most1 ?_
      refine XP_pure rfl rfl (w_H X _ _ 0 60 _) ?_
      refine XP_s rfl ?_
      refine XP_bne (fun b16 => ?_) (fun b16 => absurd g1 b16)
      refine XP_n 2 (pc' := 21) (ls' := [.ref (0), .int (nI (1)), .int (v), xj]) (st' := [.int (nI (1)), .ref (0)]) (M' := (I, J, Rx R, N, G)) rfl ?_
      refine XP_pure rfl rfl (c_cnt1 hI.1 hW hL) ?_
      refine XP_n 5 (pc' := 27) (ls' := [.ref (0), .int (nI (1)), .int (v), .int (nI (cW s))]) (st' := [.int (v), .int (nI (1)), .ref (1)]) (M' := (I, J, Rx R, N, G)) rfl ?_
      refine XP_call rfl rfl (c_put1 k15 _) ?_
      rintro v1 M1 ⟨rfl, rfl⟩
      refine XP_n 1 (pc' := 29) (ls' := [.ref (0), .int (nI (1)), .int (v), .int (nI (cW s))]) (st' := [.int (nI (cW s))]) (M' := ((rw2 (rw2 I 1 1 (v)) 1 15 (nI (wN (s 1 15) + 1))), J, Rx R, N, G)) rfl ?_
      exact XP_ret rfl ⟨rfl, _, rfl, (StC_w (StC_w hI.1.C rfl) rfl), agrl_Lk (s := s) ⟨fun k hk => by rw [rw2_ro (by omega), rw2_ro (by omega)], rfl, rfl, rfl, fun e => e, rfl, rfl, rfl⟩ hI.2.2.1, (Cch.new (Cch.w (Cch.w hI.2.2.2.1 hW.p.2 (by omega)) hW.p.2 (by omega)) hW.p.2 rfl (Nat.lt_succ_self _) (by omega)), (FrM.w (FrM.w FrM.rf rfl) rfl)⟩
    · have q0 : I 99 0 = nI (cY s) := (hS 99 0 99 0 rfl).trans hW.y.1
      have q1 : I 99 1 = nI (cW s) := (hS 99 1 99 1 rfl).trans hW.w.1
      have q2 : I 99 2 = nI (cB s) := (hS 99 2 99 2 rfl).trans hW.b.1
      have q3 : I 99 3 = nI (cBr s) := (hS 99 3 99 3 rfl).trans hW.br.1
      unfold TP
      show XP X _ k_M_set 0 [.ref (99), .int (nI (1)), .int (v), xj] [] _ _
      refine XP_n 3 (pc' := 3) (ls' := [.ref (99), .int (nI (1)), .int (v), xj]) (st' := [.int (nI (3)), .int (nI (0)), .int (nI (1))]) (M' := (I, J, Rx R, N, G)) rfl ?_
      refine XP_pure rfl rfl (w_M X _ _ 0 3 _) ?_
      refine XP_s rfl ?_
      refine XP_bne (fun b4 => ?_) (fun b4 => absurd g0 b4)
      refine XP_n 1 (pc' := 8) (ls' := [.ref (99), .int (nI (1)), .int (v), xj]) (st' := [.int (nI (1))]) (M' := (I, J, Rx R, N, G)) rfl ?_
      refine XP_ifN (x := 1)  rfl (by omega) (fun (b8 : ¬ 1 = 0) => ?_) (fun (b8 : 1 = 0) => absurd b8 (by omega))
      refine XP_n 4 (pc' := 19) (ls' := [.ref (99), .int (nI (1)), .int (v), xj]) (st' := [.int (nI (1)), .int (nI (1)), .int (nI (0)), .int (v)]) (M' := (I, J, Rx R, N, G)) rfl ?_
      refine XP_icN (x := 1) (y := 1) rfl (by omega) (by omega) (fun (b19 : ¬ 1 = 1) => absurd b19 (by omega)) (fun (b19 : 1 = 1) => ?_)
      refine XP_n 2 (pc' := 28) (ls' := [.ref (99), .int (nI (1)), .int (v), xj]) (st' := [.int (nI (60)), .int (nI (0)), .int (v)]) (M' := (I, J, Rx R, N, G)) rfl ?_
      refine XP_pure rfl rfl (w_M X _ _ 0 60 _) ?_
      refine XP_s rfl ?_
      refine XP_bne (fun b29 => ?_) (fun b29 => absurd g1 b29)
      refine XP_n 2 (pc' := 34) (ls' := [.ref (99), .int (nI (1)), .int (v), xj]) (st' := [.int (nI (1)), .ref (99)]) (M' := (I, J, Rx R, N, G)) rfl ?_
      refine XP_pure rfl rfl (m_cnt1 hS hW) ?_
      refine XP_n 3 (pc' := 38) (ls' := [.ref (99), .int (nI (1)), .int (v), .int (nI (cW s))]) (st' := [.int (nI (1)), .ref (99)]) (M' := (I, J, Rx R, N, G)) rfl ?_
      refine XP_ifN (x := 1)  rfl (by omega) (fun (b38 : ¬ 1 = 0) => ?_) (fun (b38 : 1 = 0) => absurd b38 (by omega))
      refine XP_n 2 (pc' := 43) (ls' := [.ref (99), .int (nI (1)), .int (v), .int (nI (cW s))]) (st' := [.int (I 99 0), .ref (99)]) (M' := (I, J, Rx R, N, G)) rfl ?_
      rw [q0]
      refine XP_n 4 (pc' := 47) (ls' := [.ref (99), .int (nI (1)), .int (v), .int (nI (cW s))]) (st' := [.int (nI (1)), .int (nI (1)), .ref (99)]) (M' := ((rw2 I 99 0 (nI (cY s))), J, Rx R, N, G)) rfl ?_
      refine XP_icN (x := 1) (y := 1) rfl (by omega) (by omega) (fun (b47 : ¬ 1 = 1) => absurd b47 (by omega)) (fun (b47 : 1 = 1) => ?_)
      refine XP_n 6 (pc' := 56) (ls' := [.ref (99), .int (nI (1)), .int (v), .int (nI (cW s))]) (st' := [.int (nI (2)), .int (nI (1)), .ref (99)]) (M' := ((rw2 (rw2 I 99 0 (nI (cY s))) 99 1 (v)), J, Rx R, N, G)) rfl ?_
      refine XP_icN (x := 1) (y := 2) rfl (by omega) (by omega) (fun (b56 : ¬ 1 = 2) => ?_) (fun (b56 : 1 = 2) => absurd b56 (by omega))
      refine XP_n 2 (pc' := 61) (ls' := [.ref (99), .int (nI (1)), .int (v), .int (nI (cW s))]) (st' := [.int (I 99 2), .ref (99)]) (M' := ((rw2 (rw2 I 99 0 (nI (cY s))) 99 1 (v)), J, Rx R, N, G)) rfl ?_
      rw [q2]
      refine XP_n 4 (pc' := 65) (ls' := [.ref (99), .int (nI (1)), .int (v), .int (nI (cW s))]) (st' := [.int (nI (3)), .int (nI (1)), .ref (99)]) (M' := ((rw2 (rw2 (rw2 I 99 0 (nI (cY s))) 99 1 (v)) 99 2 (nI (cB s))), J, Rx R, N, G)) rfl ?_
      refine XP_icN (x := 1) (y := 3) rfl (by omega) (by omega) (fun (b65 : ¬ 1 = 3) => ?_) (fun (b65 : 1 = 3) => absurd b65 (by omega))
      refine XP_n 2 (pc' := 70) (ls' := [.ref (99), .int (nI (1)), .int (v), .int (nI (cW s))]) (st' := [.int (I 99 3), .ref (99)]) (M' := ((rw2 (rw2 (rw2 I 99 0 (nI (cY s))) 99 1 (v)) 99 2 (nI (cB s))), J, Rx R, N, G)) rfl ?_
      rw [q3]
      refine XP_n 2 (pc' := 72) (ls' := [.ref (99), .int (nI (1)), .int (v), .int (nI (cW s))]) (st' := [.int (nI (cW s))]) (M' := ((rw2 (rw2 (rw2 (rw2 I 99 0 (nI (cY s))) 99 1 (v)) 99 2 (nI (cB s))) 99 3 (nI (cBr s))), J, Rx R, N, G)) rfl ?_
      exact XP_ret rfl ⟨rfl, _, rfl, (StM_sC (StM_i (StM_i (StM_w (StM_i hS rfl hW.y.1) rfl) rfl hW.b.1) rfl hW.br.1) rfl), (FrC.w (FrC.w (FrC.w (FrC.w FrC.rf rfl) rfl) rfl) rfl)⟩
  · skip
    by_cases g1 : iv 0 999 v
    rotate_left
    · skip
      refine ⟨cI (-2), s, hW, Up.rf hch, fun X d I J R N G hI => ?_, fun X d I J R N G hS => ?_⟩
      · have hL := hI.2.2.1
        have k15 : I 1 15 = nI (wN (s 1 15)) := (hI.1 1 15 1 15 rfl).trans hc1
        unfold TP
        show XP X _ k_H_set 0 [.ref (0), .int (nI (2)), .int (v), xj] [] _ _
        refine XP_n 3 (pc' := 3) (ls' := [.ref (0), .int (nI (2)), .int (v), xj]) (st' := [.int (nI (3)), .int (nI (0)), .int (nI (2))]) (M' := (I, J, Rx R, N, G)) rfl ?_
        refine XP_pure rfl rfl (w_H X _ _ 0 3 _) ?_
        refine XP_s rfl ?_
        refine XP_bne (fun b4 => ?_) (fun b4 => absurd g0 b4)
        refine XP_n 2 (pc' := 9) (ls' := [.ref (0), .int (nI (2)), .int (v), xj]) (st' := [.int (nI (2)), .int (v)]) (M' := (I, J, Rx R, N, G)) rfl ?_
        refine XP_ifN (x := 2)  rfl (by omega) (fun (b9 : ¬ 2 = 0) => ?_) (fun (b9 : 2 = 0) => absurd b9 (by omega))
        refine XP_n 2 (pc' := 14) (ls' := [.ref (0), .int (nI (2)), .int (v), xj]) (st' := [.int (nI (2)), .int (nI (0)), .int (v)]) (M' := (I, J, Rx R, N, G)) rfl ?_
        refine XP_pure rfl rfl c_most2 ?_
        refine XP_pure rfl rfl (w_H X _ _ 0 999 _) ?_
        refine XP_s rfl ?_
        refine XP_bne (fun b16 => absurd b16 g1) (fun b16 => ?_)
        refine XP_n 1 (pc' := 18) (ls' := [.ref (0), .int (nI (2)), .int (v), xj]) (st' := [.int (cI (-2))]) (M' := (I, J, Rx R, N, G)) rfl ?_
        exact XP_ret rfl ⟨rfl, _, rfl, hI.1.C, hI.2.2.1, hI.2.2.2.1, FrM.rf⟩
      · unfold TP
        show XP X _ k_M_set 0 [.ref (99), .int (nI (2)), .int (v), xj] [] _ _
        refine XP_n 3 (pc' := 3) (ls' := [.ref (99), .int (nI (2)), .int (v), xj]) (st' := [.int (nI (3)), .int (nI (0)), .int (nI (2))]) (M' := (I, J, Rx R, N, G)) rfl ?_
        refine XP_pure rfl rfl (w_M X _ _ 0 3 _) ?_
        refine XP_s rfl ?_
        refine XP_bne (fun b4 => ?_) (fun b4 => absurd g0 b4)
        refine XP_n 1 (pc' := 8) (ls' := [.ref (99), .int (nI (2)), .int (v), xj]) (st' := [.int (nI (2))]) (M' := (I, J, Rx R, N, G)) rfl ?_
        refine XP_ifN (x := 2)  rfl (by omega) (fun (b8 : ¬ 2 = 0) => ?_) (fun (b8 : 2 = 0) => absurd b8 (by omega))
        refine XP_n 4 (pc' := 19) (ls' := [.ref (99), .int (nI (2)), .int (v), xj]) (st' := [.int (nI (1)), .int (nI (2)), .int (nI (0)), .int (v)]) (M' := (I, J, Rx R, N, G)) rfl ?_
        refine XP_icN (x := 2) (y := 1) rfl (by omega) (by omega) (fun (b19 : ¬ 2 = 1) => ?_) (fun (b19 : 2 = 1) => absurd b19 (by omega))
        refine XP_n 2 (pc' := 24) (ls' := [.ref (99), .int (nI (2)), .int (v), xj]) (st' := [.int (nI (2)), .int (nI (2)), .int (nI (0)), .int (v)]) (M' := (I, J, Rx R, N, G)) rfl ?_
        refine XP_icN (x := 2) (y := 2) rfl (by omega) (by omega) (fun (b24 : ¬ 2 = 2) => absurd b24 (by omega)) (fun (b24 : 2 = 2) => ?_)
        refine XP_n 2 (pc' := 28) (ls' := [.ref (99), .int (nI (2)), .int (v), xj]) (st' := [.int (nI (999)), .int (nI (0)), .int (v)]) (M' := (I, J, Rx R, N, G)) rfl ?_
        refine XP_pure rfl rfl (w_M X _ _ 0 999 _) ?_
        refine XP_s rfl ?_
        refine XP_bne (fun b29 => absurd b29 g1) (fun b29 => ?_)
        refine XP_n 1 (pc' := 31) (ls' := [.ref (99), .int (nI (2)), .int (v), xj]) (st' := [.int (cI (-2))]) (M' := (I, J, Rx R, N, G)) rfl ?_
        exact XP_ret rfl ⟨rfl, _, rfl, hS, FrC.rf⟩
    have hv : iN 0 999 v := by
      obtain ⟨n, a, b, c, -⟩ := iv_nat g1 (by omega) (by omega)
      exact ⟨n, a, b, c⟩
    refine ⟨nI (cB s), (rw2 (rw2 s 99 2 (v)) 1 15 (nI (wN (s 1 15) + 1))), ⟨⟨⟨hW.1.1.1, hW.1.1.2.1, hv, hW.1.1.2.2.2⟩, hW.1.2⟩, hW.2⟩, ⟨_, rfl, Nat.le_succ _, by omega, rfl, rfl⟩, fun X d I J R N G hI => ?_, fun X d I J R N G hS => ?_⟩
    · have hL := hI.2.2.1
      have k15 : I 1 15 = nI (wN (s 1 15)) := (hI.1 1 15 1 15 rfl).trans hc1
      unfold TP
      show XP X _ k_H_set 0 [.ref (0), .int (nI (2)), .int (v), xj] [] _ _
      refine XP_n 3 (pc' := 3) (ls' := [.ref (0), .int (nI (2)), .int (v), xj]) (st' := [.int (nI (3)), .int (nI (0)), .int (nI (2))]) (M' := (I, J, Rx R, N, G)) rfl ?_
      refine XP_pure rfl rfl (w_H X _ _ 0 3 _) ?_
      refine XP_s rfl ?_
      refine XP_bne (fun b4 => ?_) (fun b4 => absurd g0 b4)
      refine XP_n 2 (pc' := 9) (ls' := [.ref (0), .int (nI (2)), .int (v), xj]) (st' := [.int (nI (2)), .int (v)]) (M' := (I, J, Rx R, N, G)) rfl ?_
      refine XP_ifN (x := 2)  rfl (by omega) (fun (b9 : ¬ 2 = 0) => ?_) (fun (b9 : 2 = 0) => absurd b9 (by omega))
      refine XP_n 2 (pc' := 14) (ls' := [.ref (0), .int (nI (2)), .int (v), xj]) (st' := [.int (nI (2)), .int (nI (0)), .int (v)]) (M' := (I, J, Rx R, N, G)) rfl ?_
      refine XP_pure rfl rfl c_most2 ?_
      refine XP_pure rfl rfl (w_H X _ _ 0 999 _) ?_
      refine XP_s rfl ?_
      refine XP_bne (fun b16 => ?_) (fun b16 => absurd g1 b16)
      refine XP_n 2 (pc' := 21) (ls' := [.ref (0), .int (nI (2)), .int (v), xj]) (st' := [.int (nI (2)), .ref (0)]) (M' := (I, J, Rx R, N, G)) rfl ?_
      refine XP_pure rfl rfl (c_cnt2 hI.1 hW hL) ?_
      refine XP_n 5 (pc' := 27) (ls' := [.ref (0), .int (nI (2)), .int (v), .int (nI (cB s))]) (st' := [.int (v), .int (nI (2)), .ref (1)]) (M' := (I, J, Rx R, N, G)) rfl ?_
      refine XP_call rfl rfl (c_put2 k15 _) ?_
      rintro v1 M1 ⟨rfl, rfl⟩
      refine XP_n 1 (pc' := 29) (ls' := [.ref (0), .int (nI (2)), .int (v), .int (nI (cB s))]) (st' := [.int (nI (cB s))]) (M' := ((rw2 (rw2 I 1 2 (v)) 1 15 (nI (wN (s 1 15) + 1))), J, Rx R, N, G)) rfl ?_
      exact XP_ret rfl ⟨rfl, _, rfl, (StC_w (StC_w hI.1.C rfl) rfl), agrl_Lk (s := s) ⟨fun k hk => by rw [rw2_ro (by omega), rw2_ro (by omega)], rfl, rfl, rfl, fun e => e, rfl, rfl, rfl⟩ hI.2.2.1, (Cch.new (Cch.w (Cch.w hI.2.2.2.1 hW.p.2 (by omega)) hW.p.2 (by omega)) hW.p.2 rfl (Nat.lt_succ_self _) (by omega)), (FrM.w (FrM.w FrM.rf rfl) rfl)⟩
    · have q0 : I 99 0 = nI (cY s) := (hS 99 0 99 0 rfl).trans hW.y.1
      have q1 : I 99 1 = nI (cW s) := (hS 99 1 99 1 rfl).trans hW.w.1
      have q2 : I 99 2 = nI (cB s) := (hS 99 2 99 2 rfl).trans hW.b.1
      have q3 : I 99 3 = nI (cBr s) := (hS 99 3 99 3 rfl).trans hW.br.1
      unfold TP
      show XP X _ k_M_set 0 [.ref (99), .int (nI (2)), .int (v), xj] [] _ _
      refine XP_n 3 (pc' := 3) (ls' := [.ref (99), .int (nI (2)), .int (v), xj]) (st' := [.int (nI (3)), .int (nI (0)), .int (nI (2))]) (M' := (I, J, Rx R, N, G)) rfl ?_
      refine XP_pure rfl rfl (w_M X _ _ 0 3 _) ?_
      refine XP_s rfl ?_
      refine XP_bne (fun b4 => ?_) (fun b4 => absurd g0 b4)
      refine XP_n 1 (pc' := 8) (ls' := [.ref (99), .int (nI (2)), .int (v), xj]) (st' := [.int (nI (2))]) (M' := (I, J, Rx R, N, G)) rfl ?_
      refine XP_ifN (x := 2)  rfl (by omega) (fun (b8 : ¬ 2 = 0) => ?_) (fun (b8 : 2 = 0) => absurd b8 (by omega))
      refine XP_n 4 (pc' := 19) (ls' := [.ref (99), .int (nI (2)), .int (v), xj]) (st' := [.int (nI (1)), .int (nI (2)), .int (nI (0)), .int (v)]) (M' := (I, J, Rx R, N, G)) rfl ?_
      refine XP_icN (x := 2) (y := 1) rfl (by omega) (by omega) (fun (b19 : ¬ 2 = 1) => ?_) (fun (b19 : 2 = 1) => absurd b19 (by omega))
      refine XP_n 2 (pc' := 24) (ls' := [.ref (99), .int (nI (2)), .int (v), xj]) (st' := [.int (nI (2)), .int (nI (2)), .int (nI (0)), .int (v)]) (M' := (I, J, Rx R, N, G)) rfl ?_
      refine XP_icN (x := 2) (y := 2) rfl (by omega) (by omega) (fun (b24 : ¬ 2 = 2) => absurd b24 (by omega)) (fun (b24 : 2 = 2) => ?_)
      refine XP_n 2 (pc' := 28) (ls' := [.ref (99), .int (nI (2)), .int (v), xj]) (st' := [.int (nI (999)), .int (nI (0)), .int (v)]) (M' := (I, J, Rx R, N, G)) rfl ?_
      refine XP_pure rfl rfl (w_M X _ _ 0 999 _) ?_
      refine XP_s rfl ?_
      refine XP_bne (fun b29 => ?_) (fun b29 => absurd g1 b29)
      refine XP_n 2 (pc' := 34) (ls' := [.ref (99), .int (nI (2)), .int (v), xj]) (st' := [.int (nI (2)), .ref (99)]) (M' := (I, J, Rx R, N, G)) rfl ?_
      refine XP_pure rfl rfl (m_cnt2 hS hW) ?_
      refine XP_n 3 (pc' := 38) (ls' := [.ref (99), .int (nI (2)), .int (v), .int (nI (cB s))]) (st' := [.int (nI (2)), .ref (99)]) (M' := (I, J, Rx R, N, G)) rfl ?_
      refine XP_ifN (x := 2)  rfl (by omega) (fun (b38 : ¬ 2 = 0) => ?_) (fun (b38 : 2 = 0) => absurd b38 (by omega))
      refine XP_n 2 (pc' := 43) (ls' := [.ref (99), .int (nI (2)), .int (v), .int (nI (cB s))]) (st' := [.int (I 99 0), .ref (99)]) (M' := (I, J, Rx R, N, G)) rfl ?_
      rw [q0]
      refine XP_n 4 (pc' := 47) (ls' := [.ref (99), .int (nI (2)), .int (v), .int (nI (cB s))]) (st' := [.int (nI (1)), .int (nI (2)), .ref (99)]) (M' := ((rw2 I 99 0 (nI (cY s))), J, Rx R, N, G)) rfl ?_
      refine XP_icN (x := 2) (y := 1) rfl (by omega) (by omega) (fun (b47 : ¬ 2 = 1) => ?_) (fun (b47 : 2 = 1) => absurd b47 (by omega))
      refine XP_n 2 (pc' := 52) (ls' := [.ref (99), .int (nI (2)), .int (v), .int (nI (cB s))]) (st' := [.int (I 99 1), .ref (99)]) (M' := ((rw2 I 99 0 (nI (cY s))), J, Rx R, N, G)) rfl ?_
      rw [q1]
      refine XP_n 4 (pc' := 56) (ls' := [.ref (99), .int (nI (2)), .int (v), .int (nI (cB s))]) (st' := [.int (nI (2)), .int (nI (2)), .ref (99)]) (M' := ((rw2 (rw2 I 99 0 (nI (cY s))) 99 1 (nI (cW s))), J, Rx R, N, G)) rfl ?_
      refine XP_icN (x := 2) (y := 2) rfl (by omega) (by omega) (fun (b56 : ¬ 2 = 2) => absurd b56 (by omega)) (fun (b56 : 2 = 2) => ?_)
      refine XP_n 6 (pc' := 65) (ls' := [.ref (99), .int (nI (2)), .int (v), .int (nI (cB s))]) (st' := [.int (nI (3)), .int (nI (2)), .ref (99)]) (M' := ((rw2 (rw2 (rw2 I 99 0 (nI (cY s))) 99 1 (nI (cW s))) 99 2 (v)), J, Rx R, N, G)) rfl ?_
      refine XP_icN (x := 2) (y := 3) rfl (by omega) (by omega) (fun (b65 : ¬ 2 = 3) => ?_) (fun (b65 : 2 = 3) => absurd b65 (by omega))
      refine XP_n 2 (pc' := 70) (ls' := [.ref (99), .int (nI (2)), .int (v), .int (nI (cB s))]) (st' := [.int (I 99 3), .ref (99)]) (M' := ((rw2 (rw2 (rw2 I 99 0 (nI (cY s))) 99 1 (nI (cW s))) 99 2 (v)), J, Rx R, N, G)) rfl ?_
      rw [q3]
      refine XP_n 2 (pc' := 72) (ls' := [.ref (99), .int (nI (2)), .int (v), .int (nI (cB s))]) (st' := [.int (nI (cB s))]) (M' := ((rw2 (rw2 (rw2 (rw2 I 99 0 (nI (cY s))) 99 1 (nI (cW s))) 99 2 (v)) 99 3 (nI (cBr s))), J, Rx R, N, G)) rfl ?_
      exact XP_ret rfl ⟨rfl, _, rfl, (StM_sC (StM_i (StM_w (StM_i (StM_i hS rfl hW.y.1) rfl hW.w.1) rfl) rfl hW.br.1) rfl), (FrC.w (FrC.w (FrC.w (FrC.w FrC.rf rfl) rfl) rfl) rfl)⟩
  · skip
    by_cases g1 : iv 0 1 v
    rotate_left
    · skip
      refine ⟨cI (-2), s, hW, Up.rf hch, fun X d I J R N G hI => ?_, fun X d I J R N G hS => ?_⟩
      · have hL := hI.2.2.1
        have k15 : I 1 15 = nI (wN (s 1 15)) := (hI.1 1 15 1 15 rfl).trans hc1
        unfold TP
        show XP X _ k_H_set 0 [.ref (0), .int (nI (3)), .int (v), xj] [] _ _
        refine XP_n 3 (pc' := 3) (ls' := [.ref (0), .int (nI (3)), .int (v), xj]) (st' := [.int (nI (3)), .int (nI (0)), .int (nI (3))]) (M' := (I, J, Rx R, N, G)) rfl ?_
        refine XP_pure rfl rfl (w_H X _ _ 0 3 _) ?_
        refine XP_s rfl ?_
        refine XP_bne (fun b4 => ?_) (fun b4 => absurd g0 b4)
        refine XP_n 2 (pc' := 9) (ls' := [.ref (0), .int (nI (3)), .int (v), xj]) (st' := [.int (nI (3)), .int (v)]) (M' := (I, J, Rx R, N, G)) rfl ?_
        refine XP_ifN (x := 3)  rfl (by omega) (fun (b9 : ¬ 3 = 0) => ?_) (fun (b9 : 3 = 0) => absurd b9 (by omega))
        refine XP_n 2 (pc' := 14) (ls' := [.ref (0), .int (nI (3)), .int (v), xj]) (st' := [.int (nI (3)), .int (nI (0)), .int (v)]) (M' := (I, J, Rx R, N, G)) rfl ?_
        refine XP_pure rfl rfl c_most3 ?_
        refine XP_pure rfl rfl (w_H X _ _ 0 1 _) ?_
        refine XP_s rfl ?_
        refine XP_bne (fun b16 => absurd b16 g1) (fun b16 => ?_)
        refine XP_n 1 (pc' := 18) (ls' := [.ref (0), .int (nI (3)), .int (v), xj]) (st' := [.int (cI (-2))]) (M' := (I, J, Rx R, N, G)) rfl ?_
        exact XP_ret rfl ⟨rfl, _, rfl, hI.1.C, hI.2.2.1, hI.2.2.2.1, FrM.rf⟩
      · unfold TP
        show XP X _ k_M_set 0 [.ref (99), .int (nI (3)), .int (v), xj] [] _ _
        refine XP_n 3 (pc' := 3) (ls' := [.ref (99), .int (nI (3)), .int (v), xj]) (st' := [.int (nI (3)), .int (nI (0)), .int (nI (3))]) (M' := (I, J, Rx R, N, G)) rfl ?_
        refine XP_pure rfl rfl (w_M X _ _ 0 3 _) ?_
        refine XP_s rfl ?_
        refine XP_bne (fun b4 => ?_) (fun b4 => absurd g0 b4)
        refine XP_n 1 (pc' := 8) (ls' := [.ref (99), .int (nI (3)), .int (v), xj]) (st' := [.int (nI (3))]) (M' := (I, J, Rx R, N, G)) rfl ?_
        refine XP_ifN (x := 3)  rfl (by omega) (fun (b8 : ¬ 3 = 0) => ?_) (fun (b8 : 3 = 0) => absurd b8 (by omega))
        refine XP_n 4 (pc' := 19) (ls' := [.ref (99), .int (nI (3)), .int (v), xj]) (st' := [.int (nI (1)), .int (nI (3)), .int (nI (0)), .int (v)]) (M' := (I, J, Rx R, N, G)) rfl ?_
        refine XP_icN (x := 3) (y := 1) rfl (by omega) (by omega) (fun (b19 : ¬ 3 = 1) => ?_) (fun (b19 : 3 = 1) => absurd b19 (by omega))
        refine XP_n 2 (pc' := 24) (ls' := [.ref (99), .int (nI (3)), .int (v), xj]) (st' := [.int (nI (2)), .int (nI (3)), .int (nI (0)), .int (v)]) (M' := (I, J, Rx R, N, G)) rfl ?_
        refine XP_icN (x := 3) (y := 2) rfl (by omega) (by omega) (fun (b24 : ¬ 3 = 2) => ?_) (fun (b24 : 3 = 2) => absurd b24 (by omega))
        refine XP_n 1 (pc' := 28) (ls' := [.ref (99), .int (nI (3)), .int (v), xj]) (st' := [.int (nI (1)), .int (nI (0)), .int (v)]) (M' := (I, J, Rx R, N, G)) rfl ?_
        refine XP_pure rfl rfl (w_M X _ _ 0 1 _) ?_
        refine XP_s rfl ?_
        refine XP_bne (fun b29 => absurd b29 g1) (fun b29 => ?_)
        refine XP_n 1 (pc' := 31) (ls' := [.ref (99), .int (nI (3)), .int (v), xj]) (st' := [.int (cI (-2))]) (M' := (I, J, Rx R, N, G)) rfl ?_
        exact XP_ret rfl ⟨rfl, _, rfl, hS, FrC.rf⟩
    have hv : iN 0 1 v := by
      obtain ⟨n, a, b, c, -⟩ := iv_nat g1 (by omega) (by omega)
      exact ⟨n, a, b, c⟩
    refine ⟨nI (cBr s), (rw2 (rw2 (rw2 s 1 3 (v)) 1 15 (nI (wN (s 1 15) + 1))) 99 3 (v)), ⟨⟨⟨hW.1.1.1, hW.1.1.2.1, hW.1.1.2.2.1, hv⟩, hW.1.2⟩, hW.2⟩, ⟨_, rfl, Nat.le_succ _, by omega, rfl, rfl⟩, fun X d I J R N G hI => ?_, fun X d I J R N G hS => ?_⟩
    · have hL := hI.2.2.1
      have k15 : I 1 15 = nI (wN (s 1 15)) := (hI.1 1 15 1 15 rfl).trans hc1
      unfold TP
      show XP X _ k_H_set 0 [.ref (0), .int (nI (3)), .int (v), xj] [] _ _
      refine XP_n 3 (pc' := 3) (ls' := [.ref (0), .int (nI (3)), .int (v), xj]) (st' := [.int (nI (3)), .int (nI (0)), .int (nI (3))]) (M' := (I, J, Rx R, N, G)) rfl ?_
      refine XP_pure rfl rfl (w_H X _ _ 0 3 _) ?_
      refine XP_s rfl ?_
      refine XP_bne (fun b4 => ?_) (fun b4 => absurd g0 b4)
      refine XP_n 2 (pc' := 9) (ls' := [.ref (0), .int (nI (3)), .int (v), xj]) (st' := [.int (nI (3)), .int (v)]) (M' := (I, J, Rx R, N, G)) rfl ?_
      refine XP_ifN (x := 3)  rfl (by omega) (fun (b9 : ¬ 3 = 0) => ?_) (fun (b9 : 3 = 0) => absurd b9 (by omega))
      refine XP_n 2 (pc' := 14) (ls' := [.ref (0), .int (nI (3)), .int (v), xj]) (st' := [.int (nI (3)), .int (nI (0)), .int (v)]) (M' := (I, J, Rx R, N, G)) rfl ?_
      refine XP_pure rfl rfl c_most3 ?_
      refine XP_pure rfl rfl (w_H X _ _ 0 1 _) ?_
      refine XP_s rfl ?_
      refine XP_bne (fun b16 => ?_) (fun b16 => absurd g1 b16)
      refine XP_n 2 (pc' := 21) (ls' := [.ref (0), .int (nI (3)), .int (v), xj]) (st' := [.int (nI (3)), .ref (0)]) (M' := (I, J, Rx R, N, G)) rfl ?_
      refine XP_pure rfl rfl (c_cnt3 hI.1 hW hL) ?_
      refine XP_n 5 (pc' := 27) (ls' := [.ref (0), .int (nI (3)), .int (v), .int (nI (cBr s))]) (st' := [.int (v), .int (nI (3)), .ref (1)]) (M' := (I, J, Rx R, N, G)) rfl ?_
      refine XP_call rfl rfl (c_put3 k15 _) ?_
      rintro v1 M1 ⟨rfl, rfl⟩
      refine XP_n 1 (pc' := 29) (ls' := [.ref (0), .int (nI (3)), .int (v), .int (nI (cBr s))]) (st' := [.int (nI (cBr s))]) (M' := ((rw2 (rw2 I 1 3 (v)) 1 15 (nI (wN (s 1 15) + 1))), J, Rx R, N, G)) rfl ?_
      exact XP_ret rfl ⟨rfl, _, rfl, (StC_sM (StC_w (StC_w hI.1.C rfl) rfl) st_99_3), agrl_Lk (s := s) ⟨fun k hk => by rw [rw2_ro (by omega), rw2_ro (by omega), rw2_ro (by omega)], rfl, rfl, rfl, fun _ => rfl, rfl, rfl, rfl⟩ hI.2.2.1, (Cch.new (Cch.w (Cch.w hI.2.2.2.1 hW.p.2 (by omega)) hW.p.2 (by omega)) hW.p.2 rfl (Nat.lt_succ_self _) (by omega)), (FrM.w (FrM.w FrM.rf rfl) rfl)⟩
    · have q0 : I 99 0 = nI (cY s) := (hS 99 0 99 0 rfl).trans hW.y.1
      have q1 : I 99 1 = nI (cW s) := (hS 99 1 99 1 rfl).trans hW.w.1
      have q2 : I 99 2 = nI (cB s) := (hS 99 2 99 2 rfl).trans hW.b.1
      have q3 : I 99 3 = nI (cBr s) := (hS 99 3 99 3 rfl).trans hW.br.1
      unfold TP
      show XP X _ k_M_set 0 [.ref (99), .int (nI (3)), .int (v), xj] [] _ _
      refine XP_n 3 (pc' := 3) (ls' := [.ref (99), .int (nI (3)), .int (v), xj]) (st' := [.int (nI (3)), .int (nI (0)), .int (nI (3))]) (M' := (I, J, Rx R, N, G)) rfl ?_
      refine XP_pure rfl rfl (w_M X _ _ 0 3 _) ?_
      refine XP_s rfl ?_
      refine XP_bne (fun b4 => ?_) (fun b4 => absurd g0 b4)
      refine XP_n 1 (pc' := 8) (ls' := [.ref (99), .int (nI (3)), .int (v), xj]) (st' := [.int (nI (3))]) (M' := (I, J, Rx R, N, G)) rfl ?_
      refine XP_ifN (x := 3)  rfl (by omega) (fun (b8 : ¬ 3 = 0) => ?_) (fun (b8 : 3 = 0) => absurd b8 (by omega))
      refine XP_n 4 (pc' := 19) (ls' := [.ref (99), .int (nI (3)), .int (v), xj]) (st' := [.int (nI (1)), .int (nI (3)), .int (nI (0)), .int (v)]) (M' := (I, J, Rx R, N, G)) rfl ?_
      refine XP_icN (x := 3) (y := 1) rfl (by omega) (by omega) (fun (b19 : ¬ 3 = 1) => ?_) (fun (b19 : 3 = 1) => absurd b19 (by omega))
      refine XP_n 2 (pc' := 24) (ls' := [.ref (99), .int (nI (3)), .int (v), xj]) (st' := [.int (nI (2)), .int (nI (3)), .int (nI (0)), .int (v)]) (M' := (I, J, Rx R, N, G)) rfl ?_
      refine XP_icN (x := 3) (y := 2) rfl (by omega) (by omega) (fun (b24 : ¬ 3 = 2) => ?_) (fun (b24 : 3 = 2) => absurd b24 (by omega))
      refine XP_n 1 (pc' := 28) (ls' := [.ref (99), .int (nI (3)), .int (v), xj]) (st' := [.int (nI (1)), .int (nI (0)), .int (v)]) (M' := (I, J, Rx R, N, G)) rfl ?_
      refine XP_pure rfl rfl (w_M X _ _ 0 1 _) ?_
      refine XP_s rfl ?_
      refine XP_bne (fun b29 => ?_) (fun b29 => absurd g1 b29)
      refine XP_n 2 (pc' := 34) (ls' := [.ref (99), .int (nI (3)), .int (v), xj]) (st' := [.int (nI (3)), .ref (99)]) (M' := (I, J, Rx R, N, G)) rfl ?_
      refine XP_pure rfl rfl (m_cnt3 hS hW) ?_
      refine XP_n 3 (pc' := 38) (ls' := [.ref (99), .int (nI (3)), .int (v), .int (nI (cBr s))]) (st' := [.int (nI (3)), .ref (99)]) (M' := (I, J, Rx R, N, G)) rfl ?_
      refine XP_ifN (x := 3)  rfl (by omega) (fun (b38 : ¬ 3 = 0) => ?_) (fun (b38 : 3 = 0) => absurd b38 (by omega))
      refine XP_n 2 (pc' := 43) (ls' := [.ref (99), .int (nI (3)), .int (v), .int (nI (cBr s))]) (st' := [.int (I 99 0), .ref (99)]) (M' := (I, J, Rx R, N, G)) rfl ?_
      rw [q0]
      refine XP_n 4 (pc' := 47) (ls' := [.ref (99), .int (nI (3)), .int (v), .int (nI (cBr s))]) (st' := [.int (nI (1)), .int (nI (3)), .ref (99)]) (M' := ((rw2 I 99 0 (nI (cY s))), J, Rx R, N, G)) rfl ?_
      refine XP_icN (x := 3) (y := 1) rfl (by omega) (by omega) (fun (b47 : ¬ 3 = 1) => ?_) (fun (b47 : 3 = 1) => absurd b47 (by omega))
      refine XP_n 2 (pc' := 52) (ls' := [.ref (99), .int (nI (3)), .int (v), .int (nI (cBr s))]) (st' := [.int (I 99 1), .ref (99)]) (M' := ((rw2 I 99 0 (nI (cY s))), J, Rx R, N, G)) rfl ?_
      rw [q1]
      refine XP_n 4 (pc' := 56) (ls' := [.ref (99), .int (nI (3)), .int (v), .int (nI (cBr s))]) (st' := [.int (nI (2)), .int (nI (3)), .ref (99)]) (M' := ((rw2 (rw2 I 99 0 (nI (cY s))) 99 1 (nI (cW s))), J, Rx R, N, G)) rfl ?_
      refine XP_icN (x := 3) (y := 2) rfl (by omega) (by omega) (fun (b56 : ¬ 3 = 2) => ?_) (fun (b56 : 3 = 2) => absurd b56 (by omega))
      refine XP_n 2 (pc' := 61) (ls' := [.ref (99), .int (nI (3)), .int (v), .int (nI (cBr s))]) (st' := [.int (I 99 2), .ref (99)]) (M' := ((rw2 (rw2 I 99 0 (nI (cY s))) 99 1 (nI (cW s))), J, Rx R, N, G)) rfl ?_
      rw [q2]
      refine XP_n 4 (pc' := 65) (ls' := [.ref (99), .int (nI (3)), .int (v), .int (nI (cBr s))]) (st' := [.int (nI (3)), .int (nI (3)), .ref (99)]) (M' := ((rw2 (rw2 (rw2 I 99 0 (nI (cY s))) 99 1 (nI (cW s))) 99 2 (nI (cB s))), J, Rx R, N, G)) rfl ?_
      refine XP_icN (x := 3) (y := 3) rfl (by omega) (by omega) (fun (b65 : ¬ 3 = 3) => absurd b65 (by omega)) (fun (b65 : 3 = 3) => ?_)
      refine XP_n 4 (pc' := 72) (ls' := [.ref (99), .int (nI (3)), .int (v), .int (nI (cBr s))]) (st' := [.int (nI (cBr s))]) (M' := ((rw2 (rw2 (rw2 (rw2 I 99 0 (nI (cY s))) 99 1 (nI (cW s))) 99 2 (nI (cB s))) 99 3 (v)), J, Rx R, N, G)) rfl ?_
      exact XP_ret rfl ⟨rfl, _, rfl, (StM_w (StM_i (StM_i (StM_i (StM_sC (StM_sC hS rfl) rfl) rfl hW.y.1) rfl hW.w.1) rfl hW.b.1) rfl), (FrC.w (FrC.w (FrC.w (FrC.w FrC.rf rfl) rfl) rfl) rfl)⟩
