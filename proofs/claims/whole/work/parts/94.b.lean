/-! setters: path, weigh, storm -/
section
variable {X : hX} {d : Nat} {s I : Nat → Nat → Int32} {J : Nat → Nat → Int64} {R : Nat → Nat → Option Nat} {N : Nat → Nat} {G : hG}
theorem m_isPathM (hS : StM s I) (hW : Wf s) (v : Int32) : TP X (d + 1) n_M_isPath [.ref 99, .int v] (I, J, Rx R, N, G) (Ret (.int (b2i (inN v (cP s)))) (I, J, Rx R, N, G)) := by
  have hp4 := hW.p.2
  unfold TP
  show XP X _ k_M_isPath 0 [.ref (99), .int (v)] [] _ _
  refine XP_n 3 (pc' := 3) (ls' := [.ref (99), .int (v)]) (st' := [.ref (99), .int (nI (0)), .int (v)]) (M' := (I, J, Rx R, N, G)) rfl ?_
  refine XP_getiM hS rfl rfl rfl ?_
  rw [hW.p.1]
  refine XP_n 2 (pc' := 6) (ls' := [.ref (99), .int (v)]) (st' := [.int ((nI (cP s)) - (nI (1))), .int (nI (0)), .int (v)]) (M' := (I, J, Rx R, N, G)) rfl ?_
  refine XP_pure rfl rfl (t_M_in X _ _ (nI 0) (nI (cP s) - nI 1) _) ?_
  rw [show b2i (nI 0 ≤ v ∧ v ≤ nI (cP s) - nI 1) = b2i (inN (v) (cP s)) from b2i_congr (in_n (by omega))]
  exact ret_b rfl ⟨rfl, rfl⟩
theorem nn_nat {v : Int32} (h : ¬ v < 0) : ∃ n, n < 2147483648 ∧ v = nI n := by
  refine ⟨v.toInt.toNat, ?_, ?_⟩
  · have := Int32.toInt_lt v
    omega
  · have h2 : 0 ≤ v.toInt := by
      rw [Int32.lt_iff_toInt_lt] at h
      have : (0 : Int32).toInt = 0 := rfl
      omega
    apply Int32.toInt_inj.mp
    have := Int32.toInt_lt v
    rw [nI_toInt (by omega)]
    omega
theorem c_putW (hS : St s I) (hW : Wf s) {p : Nat} (hp : p < cP s) {c : Nat} (k0 : I 1 15 = nI c) (w : Int32) : TP X (d + 1) n_Coast_putWeight [.ref 1, .int (nI p), .int w] (I, J, Rx R, N, G) (fun v M' => v = some (.int (nI (rWt s p))) ∧ M' = (rw2 (rw2 I 2 p w) 1 15 (nI (c + 1)), J, Rx R, N, G)) := by
  have hp4 := hW.p.2
  unfold TP
  show XP X _ k_Coast_putWeight 0 [.ref (1), .int (nI (p)), .int (w), xj] [] _ _
  refine XP_n 2 (pc' := 2) (ls' := [.ref (1), .int (nI (p)), .int (w), xj]) (st' := [.int (nI (p)), .ref (1)]) (M' := (I, J, Rx R, N, G)) rfl ?_
  refine XP_pure rfl rfl (c_hasPath hS hW _) ?_
  refine XP_s rfl ?_
  refine XP_bne (fun b3 => ?_) (fun b3 => absurd (nI_inN hp (by omega)) b3)
  refine XP_n 3 (pc' := 9) (ls' := [.ref (1), .int (nI (p)), .int (w), xj]) (st' := [.int (nI (p)), .ref (2)]) (M' := (I, J, Rx R, N, G)) rfl ?_
  refine XP_iald hS rfl rfl (show p < 4 by omega) rfl (by omega) rfl ?_
  obtain ⟨hq21, hr21⟩ := hW.pw (show p < cP s by omega)
  rw [hq21]
  refine XP_n 5 (pc' := 15) (ls' := [.ref (1), .int (nI (p)), .int (w), .int (nI (rWt s p))]) (st' := [.int (w), .int (nI (p)), .ref (2)]) (M' := (I, J, Rx R, N, G)) rfl ?_
  refine XP_iast rfl rfl (show p < 4 by omega) rfl (by omega) ?_
  refine XP_n 3 (pc' := 19) (ls' := [.ref (1), .int (nI (p)), .int (w), .int (nI (rWt s p))]) (st' := [.int (I 1 15), .ref (1)]) (M' := ((rw2 I 2 p (w)), J, Rx R, N, G)) rfl ?_
  rw [k0]
  refine XP_n 2 (pc' := 21) (ls' := [.ref (1), .int (nI (p)), .int (w), .int (nI (rWt s p))]) (st' := [.int ((nI (c)) + (nI (1))), .ref (1)]) (M' := ((rw2 I 2 p (w)), J, Rx R, N, G)) rfl ?_
  rw [show (nI (c)) + (nI (1)) = nI (c + 1) from nI_addE (rfl) (rfl)]
  refine XP_n 2 (pc' := 23) (ls' := [.ref (1), .int (nI (p)), .int (w), .int (nI (rWt s p))]) (st' := [.int (nI (rWt s p))]) (M' := ((rw2 (rw2 I 2 p (w)) 1 15 (nI (c + 1))), J, Rx R, N, G)) rfl ?_
  exact XP_ret rfl ⟨rfl, rfl⟩
theorem c_addP (h4 : cP s < 4) {c : Nat} (k4 : I 1 4 = nI (cP s)) (k0 : I 1 15 = nI c) (w a b : Int32) {n : Nat} (hn : n < 2147483648) : TP X d n_Coast_addPath [.ref 1, .int w, .int a, .int b, .int (nI n)] (I, J, Rx R, N, G) (fun v M' => v = some (.int (nI (cP s))) ∧ M' = (rw2 (rw2 (rw2 (rw2 (rw2 (rw2 (rw2 I 2 (cP s) w) 3 (cP s) a) 4 (cP s) b) 5 (cP s) (nI (n / 100))) 6 (cP s) (nI (n % 100))) 1 4 (nI (cP s + 1))) 1 15 (nI (c + 1)), J, Rx R, N, G)) := by
  unfold TP
  show XP X _ k_Coast_addPath 0 [.ref (1), .int (w), .int (a), .int (b), .int (nI (n)), xj] [] _ _
  refine XP_n 2 (pc' := 2) (ls' := [.ref (1), .int (w), .int (a), .int (b), .int (nI (n)), xj]) (st' := [.int (I 1 4)]) (M' := (I, J, Rx R, N, G)) rfl ?_
  rw [k4]
  refine XP_n 2 (pc' := 4) (ls' := [.ref (1), .int (w), .int (a), .int (b), .int (nI (n)), .int (nI (cP s))]) (st' := [.int (nI (cP s))]) (M' := (I, J, Rx R, N, G)) rfl ?_
  refine XP_ifN (x := cP s)  rfl (by omega) (fun (b4 : cP s < 0) => absurd b4 (by omega)) (fun (b4 : 0 ≤ cP s) => ?_)
  refine XP_n 2 (pc' := 7) (ls' := [.ref (1), .int (w), .int (a), .int (b), .int (nI (n)), .int (nI (cP s))]) (st' := [.int (nI (4)), .int (nI (cP s))]) (M' := (I, J, Rx R, N, G)) rfl ?_
  refine XP_icN (x := cP s) (y := 4) rfl (by omega) (by omega) (fun (b7 : cP s < 4) => ?_) (fun (b7 : 4 ≤ cP s) => absurd b7 (by omega))
  refine XP_n 4 (pc' := 14) (ls' := [.ref (1), .int (w), .int (a), .int (b), .int (nI (n)), .int (nI (cP s))]) (st' := [.int (w), .int (nI (cP s)), .ref (2)]) (M' := (I, J, Rx R, N, G)) rfl ?_
  refine XP_iast rfl rfl (show cP s < 4 by omega) rfl (by omega) ?_
  refine XP_n 4 (pc' := 19) (ls' := [.ref (1), .int (w), .int (a), .int (b), .int (nI (n)), .int (nI (cP s))]) (st' := [.int (a), .int (nI (cP s)), .ref (3)]) (M' := ((rw2 I 2 (cP s) (w)), J, Rx R, N, G)) rfl ?_
  refine XP_iast rfl rfl (show cP s < 4 by omega) rfl (by omega) ?_
  refine XP_n 4 (pc' := 24) (ls' := [.ref (1), .int (w), .int (a), .int (b), .int (nI (n)), .int (nI (cP s))]) (st' := [.int (b), .int (nI (cP s)), .ref (4)]) (M' := ((rw2 (rw2 I 2 (cP s) (w)) 3 (cP s) (a)), J, Rx R, N, G)) rfl ?_
  refine XP_iast rfl rfl (show cP s < 4 by omega) rfl (by omega) ?_
  refine XP_n 5 (pc' := 30) (ls' := [.ref (1), .int (w), .int (a), .int (b), .int (nI (n)), .int (nI (cP s))]) (st' := [.int (nI (100)), .int (nI (n)), .int (nI (cP s)), .ref (5)]) (M' := ((rw2 (rw2 (rw2 I 2 (cP s) (w)) 3 (cP s) (a)) 4 (cP s) (b)), J, Rx R, N, G)) rfl ?_
  refine XP_idivN (a := n) (b := 100) rfl (by omega) (by omega) (by omega) ?_
  refine XP_iast rfl rfl (show cP s < 4 by omega) rfl (by omega) ?_
  refine XP_n 5 (pc' := 37) (ls' := [.ref (1), .int (w), .int (a), .int (b), .int (nI (n)), .int (nI (cP s))]) (st' := [.int (nI (100)), .int (nI (n)), .int (nI (cP s)), .ref (6)]) (M' := ((rw2 (rw2 (rw2 (rw2 I 2 (cP s) (w)) 3 (cP s) (a)) 4 (cP s) (b)) 5 (cP s) (nI ((n) / (100)))), J, Rx R, N, G)) rfl ?_
  refine XP_iremN (a := n) (b := 100) rfl (by omega) (by omega) (by omega) ?_
  refine XP_iast rfl rfl (show cP s < 4 by omega) rfl (by omega) ?_
  refine XP_n 3 (pc' := 42) (ls' := [.ref (1), .int (w), .int (a), .int (b), .int (nI (n)), .int (nI (cP s))]) (st' := [.int (I 1 4), .ref (1)]) (M' := ((rw2 (rw2 (rw2 (rw2 (rw2 I 2 (cP s) (w)) 3 (cP s) (a)) 4 (cP s) (b)) 5 (cP s) (nI ((n) / (100)))) 6 (cP s) (nI ((n) % (100)))), J, Rx R, N, G)) rfl ?_
  rw [k4]
  refine XP_n 2 (pc' := 44) (ls' := [.ref (1), .int (w), .int (a), .int (b), .int (nI (n)), .int (nI (cP s))]) (st' := [.int ((nI (cP s)) + (nI (1))), .ref (1)]) (M' := ((rw2 (rw2 (rw2 (rw2 (rw2 I 2 (cP s) (w)) 3 (cP s) (a)) 4 (cP s) (b)) 5 (cP s) (nI ((n) / (100)))) 6 (cP s) (nI ((n) % (100)))), J, Rx R, N, G)) rfl ?_
  rw [show (nI (cP s)) + (nI (1)) = nI (cP s + 1) from nI_addE (rfl) (rfl)]
  refine XP_n 4 (pc' := 48) (ls' := [.ref (1), .int (w), .int (a), .int (b), .int (nI (n)), .int (nI (cP s))]) (st' := [.int (I 1 15), .ref (1)]) (M' := ((rw2 (rw2 (rw2 (rw2 (rw2 (rw2 I 2 (cP s) (w)) 3 (cP s) (a)) 4 (cP s) (b)) 5 (cP s) (nI ((n) / (100)))) 6 (cP s) (nI ((n) % (100)))) 1 4 (nI (cP s + 1))), J, Rx R, N, G)) rfl ?_
  rw [k0]
  refine XP_n 2 (pc' := 50) (ls' := [.ref (1), .int (w), .int (a), .int (b), .int (nI (n)), .int (nI (cP s))]) (st' := [.int ((nI (c)) + (nI (1))), .ref (1)]) (M' := ((rw2 (rw2 (rw2 (rw2 (rw2 (rw2 I 2 (cP s) (w)) 3 (cP s) (a)) 4 (cP s) (b)) 5 (cP s) (nI ((n) / (100)))) 6 (cP s) (nI ((n) % (100)))) 1 4 (nI (cP s + 1))), J, Rx R, N, G)) rfl ?_
  rw [show (nI (c)) + (nI (1)) = nI (c + 1) from nI_addE (rfl) (rfl)]
  refine XP_n 2 (pc' := 52) (ls' := [.ref (1), .int (w), .int (a), .int (b), .int (nI (n)), .int (nI (cP s))]) (st' := [.int (nI (cP s))]) (M' := ((rw2 (rw2 (rw2 (rw2 (rw2 (rw2 (rw2 I 2 (cP s) (w)) 3 (cP s) (a)) 4 (cP s) (b)) 5 (cP s) (nI ((n) / (100)))) 6 (cP s) (nI ((n) % (100)))) 1 4 (nI (cP s + 1))) 1 15 (nI (c + 1))), J, Rx R, N, G)) rfl ?_
  exact XP_ret rfl ⟨rfl, rfl⟩
theorem c_addPF (h4 : cP s = 4) (k4 : I 1 4 = nI (cP s)) (w a b e : Int32) : TP X d n_Coast_addPath [.ref 1, .int w, .int a, .int b, .int e] (I, J, Rx R, N, G) (Ret (.int (cI (-4))) (I, J, Rx R, N, G)) := by
  unfold TP
  show XP X _ k_Coast_addPath 0 [.ref (1), .int (w), .int (a), .int (b), .int (e), xj] [] _ _
  refine XP_n 2 (pc' := 2) (ls' := [.ref (1), .int (w), .int (a), .int (b), .int (e), xj]) (st' := [.int (I 1 4)]) (M' := (I, J, Rx R, N, G)) rfl ?_
  rw [k4]
  refine XP_n 2 (pc' := 4) (ls' := [.ref (1), .int (w), .int (a), .int (b), .int (e), .int (nI (cP s))]) (st' := [.int (nI (cP s))]) (M' := (I, J, Rx R, N, G)) rfl ?_
  refine XP_ifN (x := cP s)  rfl (by omega) (fun (b4 : cP s < 0) => absurd b4 (by omega)) (fun (b4 : 0 ≤ cP s) => ?_)
  refine XP_n 2 (pc' := 7) (ls' := [.ref (1), .int (w), .int (a), .int (b), .int (e), .int (nI (cP s))]) (st' := [.int (nI (4)), .int (nI (cP s))]) (M' := (I, J, Rx R, N, G)) rfl ?_
  refine XP_icN (x := cP s) (y := 4) rfl (by omega) (by omega) (fun (b7 : cP s < 4) => absurd b7 (by omega)) (fun (b7 : 4 ≤ cP s) => ?_)
  refine XP_n 1 (pc' := 9) (ls' := [.ref (1), .int (w), .int (a), .int (b), .int (e), .int (nI (cP s))]) (st' := [.int (cI (-4))]) (M' := (I, J, Rx R, N, G)) rfl ?_
  exact XP_ret rfl ⟨rfl, rfl⟩
theorem l_allC (hS : StC s I) (hW : Wf s) : ∀ (n i : Nat) (acc : Int32), i + n = cS s → acc = nI (sumN (rOf s) (i)) → XP X (d) k_Coast_stormsInAll 4 [.ref (1), .int (acc), .int (nI (i))] [] (I, J, Rx R, N, G) (Ret (.int (nI (sumN (rOf s) (cS s)))) (I, J, Rx R, N, G)) := by
  have hs6 := hW.ns.2
  intro n
  induction n with
  | zero =>
    rintro i _ hi rfl
    obtain rfl : i = cS s := by omega
    refine XP_n 2 (pc' := 6) (ls' := [.ref (1), .int (nI (sumN (rOf s) (cS s))), .int (nI (cS s))]) (st' := [.ref (1), .int (nI (cS s))]) (M' := (I, J, Rx R, N, G)) rfl ?_
    refine XP_getiC hS rfl rfl rfl ?_
    rw [hW.ns.1]
    refine XP_icN (x := cS s) (y := cS s) rfl (by omega) (by omega) (fun (b7 : cS s ≤ cS s) => ?_) (fun (b7 : cS s < cS s) => absurd b7 (by omega))
    refine XP_n 1 (pc' := 21) (ls' := [.ref (1), .int (nI (sumN (rOf s) (cS s))), .int (nI (cS s))]) (st' := [.int (nI (sumN (rOf s) (cS s)))]) (M' := (I, J, Rx R, N, G)) rfl ?_
    exact XP_ret rfl ⟨rfl, rfl⟩
  | succ n ih =>
    rintro i _ hi rfl
    refine XP_n 2 (pc' := 6) (ls' := [.ref (1), .int (nI (sumN (rOf s) (i))), .int (nI (i))]) (st' := [.ref (1), .int (nI (i))]) (M' := (I, J, Rx R, N, G)) rfl ?_
    refine XP_getiC hS rfl rfl rfl ?_
    rw [hW.ns.1]
    refine XP_icN (x := i) (y := cS s) rfl (by omega) (by omega) (fun (b7 : cS s ≤ i) => absurd b7 (by omega)) (fun (b7 : i < cS s) => ?_)
    refine XP_n 2 (pc' := 10) (ls' := [.ref (1), .int (nI (sumN (rOf s) (i))), .int (nI (i))]) (st' := [.int (nI (6)), .int (nI (i))]) (M' := (I, J, Rx R, N, G)) rfl ?_
    refine XP_icN (x := i) (y := 6) rfl (by omega) (by omega) (fun (b10 : 6 ≤ i) => absurd b10 (by omega)) (fun (b10 : i < 6) => ?_)
    refine XP_n 4 (pc' := 15) (ls' := [.ref (1), .int (nI (sumN (rOf s) (i))), .int (nI (i))]) (st' := [.int (nI (i)), .ref (8), .int (nI (sumN (rOf s) (i)))]) (M' := (I, J, Rx R, N, G)) rfl ?_
    refine XP_ialdC hS rfl rfl (show i < 6 by omega) rfl (by omega) rfl ?_
    obtain ⟨hq22, hr22⟩ := hW.so (show i < cS s by omega)
    rw [hq22]
    refine XP_n 2 (pc' := 18) (ls' := [.ref (1), .int ((nI (sumN (rOf s) (i))) + (nI (rOf s i))), .int (nI (i))]) (st' := []) (M' := (I, J, Rx R, N, G)) rfl ?_
    rw [show (nI (sumN (rOf s) (i))) + (nI (rOf s i)) = nI (sumN (rOf s) (i) + rOf s i) from nI_addE (rfl) (rfl)]
    refine XP_n 1 (pc' := 19) (ls' := [.ref (1), .int (nI (sumN (rOf s) (i) + rOf s i)), .int (nI (i) + nI (1))]) (st' := []) (M' := (I, J, Rx R, N, G)) rfl ?_
    rw [show nI (i) + nI (1) = nI (i + 1) from nI_addE (rfl) rfl]
    refine XP_n 1 (pc' := 4) (ls' := [.ref (1), .int (nI (sumN (rOf s) (i) + rOf s i)), .int (nI (i + 1))]) (st' := []) (M' := (I, J, Rx R, N, G)) rfl ?_
    exact ih (i + 1) _ (by omega) rfl
theorem c_allC (hS : StC s I) (hW : Wf s) : TP X d n_Coast_stormsInAll [.ref 1] (I, J, Rx R, N, G) (Ret (.int (nI (sumN (rOf s) (cS s)))) (I, J, Rx R, N, G)) := by
  unfold TP
  show XP X _ k_Coast_stormsInAll 0 [.ref (1), xj, xj] [] _ _
  refine XP_n 4 (pc' := 4) (ls' := [.ref (1), .int (nI (0)), .int (nI (0))]) (st' := []) (M' := (I, J, Rx R, N, G)) rfl ?_
  exact l_allC hS hW (cS s) 0 _ (by omega) rfl
theorem l_allM (hS : StM s I) (hW : Wf s) : ∀ (n i : Nat) (acc : Int32), i + n = cS s → acc = nI (sumN (rOf s) (i)) → XP X (d) k_M_allStorms 4 [.ref (99), .int (acc), .int (nI (i))] [] (I, J, Rx R, N, G) (Ret (.int (nI (sumN (rOf s) (cS s)))) (I, J, Rx R, N, G)) := by
  have hs6 := hW.ns.2
  intro n
  induction n with
  | zero =>
    rintro i _ hi rfl
    obtain rfl : i = cS s := by omega
    refine XP_n 2 (pc' := 6) (ls' := [.ref (99), .int (nI (sumN (rOf s) (cS s))), .int (nI (cS s))]) (st' := [.ref (99), .int (nI (cS s))]) (M' := (I, J, Rx R, N, G)) rfl ?_
    refine XP_getiM hS rfl rfl rfl ?_
    rw [hW.ns.1]
    refine XP_icN (x := cS s) (y := cS s) rfl (by omega) (by omega) (fun (b7 : cS s ≤ cS s) => ?_) (fun (b7 : cS s < cS s) => absurd b7 (by omega))
    refine XP_n 1 (pc' := 18) (ls' := [.ref (99), .int (nI (sumN (rOf s) (cS s))), .int (nI (cS s))]) (st' := [.int (nI (sumN (rOf s) (cS s)))]) (M' := (I, J, Rx R, N, G)) rfl ?_
    exact XP_ret rfl ⟨rfl, rfl⟩
  | succ n ih =>
    rintro i _ hi rfl
    refine XP_n 2 (pc' := 6) (ls' := [.ref (99), .int (nI (sumN (rOf s) (i))), .int (nI (i))]) (st' := [.ref (99), .int (nI (i))]) (M' := (I, J, Rx R, N, G)) rfl ?_
    refine XP_getiM hS rfl rfl rfl ?_
    rw [hW.ns.1]
    refine XP_icN (x := i) (y := cS s) rfl (by omega) (by omega) (fun (b7 : cS s ≤ i) => absurd b7 (by omega)) (fun (b7 : i < cS s) => ?_)
    refine XP_n 4 (pc' := 12) (ls' := [.ref (99), .int (nI (sumN (rOf s) (i))), .int (nI (i))]) (st' := [.int (nI (i)), .ref (106), .int (nI (sumN (rOf s) (i)))]) (M' := (I, J, Rx R, N, G)) rfl ?_
    refine XP_ialdM hS rfl rfl (show i < 6 by omega) rfl (by omega) rfl ?_
    obtain ⟨hq23, hr23⟩ := hW.so (show i < cS s by omega)
    rw [hq23]
    refine XP_n 2 (pc' := 15) (ls' := [.ref (99), .int ((nI (sumN (rOf s) (i))) + (nI (rOf s i))), .int (nI (i))]) (st' := []) (M' := (I, J, Rx R, N, G)) rfl ?_
    rw [show (nI (sumN (rOf s) (i))) + (nI (rOf s i)) = nI (sumN (rOf s) (i) + rOf s i) from nI_addE (rfl) (rfl)]
    refine XP_n 1 (pc' := 16) (ls' := [.ref (99), .int (nI (sumN (rOf s) (i) + rOf s i)), .int (nI (i) + nI (1))]) (st' := []) (M' := (I, J, Rx R, N, G)) rfl ?_
    rw [show nI (i) + nI (1) = nI (i + 1) from nI_addE (rfl) rfl]
    refine XP_n 1 (pc' := 4) (ls' := [.ref (99), .int (nI (sumN (rOf s) (i) + rOf s i)), .int (nI (i + 1))]) (st' := []) (M' := (I, J, Rx R, N, G)) rfl ?_
    exact ih (i + 1) _ (by omega) rfl
theorem m_allM (hS : StM s I) (hW : Wf s) : TP X d n_M_allStorms [.ref 99] (I, J, Rx R, N, G) (Ret (.int (nI (sumN (rOf s) (cS s)))) (I, J, Rx R, N, G)) := by
  unfold TP
  show XP X _ k_M_allStorms 0 [.ref (99), xj, xj] [] _ _
  refine XP_n 4 (pc' := 4) (ls' := [.ref (99), .int (nI (0)), .int (nI (0))]) (st' := []) (M' := (I, J, Rx R, N, G)) rfl ?_
  exact l_allM hS hW (cS s) 0 _ (by omega) rfl
theorem c_addS (h4 : cS s < 6) {c : Nat} (k4 : I 1 10 = nI (cS s)) (k0 : I 1 15 = nI c) (h v : Int32) : TP X d n_Coast_addStorm [.ref 1, .int h, .int v] (I, J, Rx R, N, G) (fun w M' => w = some (.int (nI (cS s))) ∧ M' = (rw2 (rw2 (rw2 (rw2 I 7 (cS s) h) 8 (cS s) v) 1 10 (nI (cS s + 1))) 1 15 (nI (c + 1)), J, Rx R, N, G)) := by
  unfold TP
  show XP X _ k_Coast_addStorm 0 [.ref (1), .int (h), .int (v), xj] [] _ _
  refine XP_n 2 (pc' := 2) (ls' := [.ref (1), .int (h), .int (v), xj]) (st' := [.int (I 1 10)]) (M' := (I, J, Rx R, N, G)) rfl ?_
  rw [k4]
  refine XP_n 2 (pc' := 4) (ls' := [.ref (1), .int (h), .int (v), .int (nI (cS s))]) (st' := [.int (nI (cS s))]) (M' := (I, J, Rx R, N, G)) rfl ?_
  refine XP_ifN (x := cS s)  rfl (by omega) (fun (b4 : cS s < 0) => absurd b4 (by omega)) (fun (b4 : 0 ≤ cS s) => ?_)
  refine XP_n 2 (pc' := 7) (ls' := [.ref (1), .int (h), .int (v), .int (nI (cS s))]) (st' := [.int (nI (6)), .int (nI (cS s))]) (M' := (I, J, Rx R, N, G)) rfl ?_
  refine XP_icN (x := cS s) (y := 6) rfl (by omega) (by omega) (fun (b7 : cS s < 6) => ?_) (fun (b7 : 6 ≤ cS s) => absurd b7 (by omega))
  refine XP_n 4 (pc' := 14) (ls' := [.ref (1), .int (h), .int (v), .int (nI (cS s))]) (st' := [.int (h), .int (nI (cS s)), .ref (7)]) (M' := (I, J, Rx R, N, G)) rfl ?_
  refine XP_iast rfl rfl (show cS s < 6 by omega) rfl (by omega) ?_
  refine XP_n 4 (pc' := 19) (ls' := [.ref (1), .int (h), .int (v), .int (nI (cS s))]) (st' := [.int (v), .int (nI (cS s)), .ref (8)]) (M' := ((rw2 I 7 (cS s) (h)), J, Rx R, N, G)) rfl ?_
  refine XP_iast rfl rfl (show cS s < 6 by omega) rfl (by omega) ?_
  refine XP_n 3 (pc' := 23) (ls' := [.ref (1), .int (h), .int (v), .int (nI (cS s))]) (st' := [.int (I 1 10), .ref (1)]) (M' := ((rw2 (rw2 I 7 (cS s) (h)) 8 (cS s) (v)), J, Rx R, N, G)) rfl ?_
  rw [k4]
  refine XP_n 2 (pc' := 25) (ls' := [.ref (1), .int (h), .int (v), .int (nI (cS s))]) (st' := [.int ((nI (cS s)) + (nI (1))), .ref (1)]) (M' := ((rw2 (rw2 I 7 (cS s) (h)) 8 (cS s) (v)), J, Rx R, N, G)) rfl ?_
  rw [show (nI (cS s)) + (nI (1)) = nI (cS s + 1) from nI_addE (rfl) (rfl)]
  refine XP_n 4 (pc' := 29) (ls' := [.ref (1), .int (h), .int (v), .int (nI (cS s))]) (st' := [.int (I 1 15), .ref (1)]) (M' := ((rw2 (rw2 (rw2 I 7 (cS s) (h)) 8 (cS s) (v)) 1 10 (nI (cS s + 1))), J, Rx R, N, G)) rfl ?_
  rw [k0]
  refine XP_n 2 (pc' := 31) (ls' := [.ref (1), .int (h), .int (v), .int (nI (cS s))]) (st' := [.int ((nI (c)) + (nI (1))), .ref (1)]) (M' := ((rw2 (rw2 (rw2 I 7 (cS s) (h)) 8 (cS s) (v)) 1 10 (nI (cS s + 1))), J, Rx R, N, G)) rfl ?_
  rw [show (nI (c)) + (nI (1)) = nI (c + 1) from nI_addE (rfl) (rfl)]
  refine XP_n 2 (pc' := 33) (ls' := [.ref (1), .int (h), .int (v), .int (nI (cS s))]) (st' := [.int (nI (cS s))]) (M' := ((rw2 (rw2 (rw2 (rw2 I 7 (cS s) (h)) 8 (cS s) (v)) 1 10 (nI (cS s + 1))) 1 15 (nI (c + 1))), J, Rx R, N, G)) rfl ?_
  exact XP_ret rfl ⟨rfl, rfl⟩
theorem c_addSF (h4 : cS s = 6) (k4 : I 1 10 = nI (cS s)) (h v : Int32) : TP X d n_Coast_addStorm [.ref 1, .int h, .int v] (I, J, Rx R, N, G) (Ret (.int (cI (-4))) (I, J, Rx R, N, G)) := by
  unfold TP
  show XP X _ k_Coast_addStorm 0 [.ref (1), .int (h), .int (v), xj] [] _ _
  refine XP_n 2 (pc' := 2) (ls' := [.ref (1), .int (h), .int (v), xj]) (st' := [.int (I 1 10)]) (M' := (I, J, Rx R, N, G)) rfl ?_
  rw [k4]
  refine XP_n 2 (pc' := 4) (ls' := [.ref (1), .int (h), .int (v), .int (nI (cS s))]) (st' := [.int (nI (cS s))]) (M' := (I, J, Rx R, N, G)) rfl ?_
  refine XP_ifN (x := cS s)  rfl (by omega) (fun (b4 : cS s < 0) => absurd b4 (by omega)) (fun (b4 : 0 ≤ cS s) => ?_)
  refine XP_n 2 (pc' := 7) (ls' := [.ref (1), .int (h), .int (v), .int (nI (cS s))]) (st' := [.int (nI (6)), .int (nI (cS s))]) (M' := (I, J, Rx R, N, G)) rfl ?_
  refine XP_icN (x := cS s) (y := 6) rfl (by omega) (by omega) (fun (b7 : cS s < 6) => absurd b7 (by omega)) (fun (b7 : 6 ≤ cS s) => ?_)
  refine XP_n 1 (pc' := 9) (ls' := [.ref (1), .int (h), .int (v), .int (nI (cS s))]) (st' := [.int (cI (-4))]) (M' := (I, J, Rx R, N, G)) rfl ?_
  exact XP_ret rfl ⟨rfl, rfl⟩
end
theorem Wf_path {s : Nat → Nat → Int32} {w a b e f : Int32} (x : Int32) (hW : Wf s) (h4 : cP s < 4) (hw : iN 1 99 w) (ha : iN 0 30 a) (hb : iN 0 40 b) (he : iN 0 15 e) (hf : iN 0 40 f) : Wf (rw2 (rw2 (rw2 (rw2 (rw2 (rw2 (rw2 s 100 (cP s) (w)) 101 (cP s) (a)) 102 (cP s) (b)) 103 (cP s) (e)) 104 (cP s) (f)) 99 4 (nI (cP s + 1))) 1 15 (x)) := by
  have ec : cP (rw2 (rw2 (rw2 (rw2 (rw2 (rw2 (rw2 s 100 (cP s) (w)) 101 (cP s) (a)) 102 (cP s) (b)) 103 (cP s) (e)) 104 (cP s) (f)) 99 4 (nI (cP s + 1))) 1 15 (x)) = cP s + 1 := by
    show wN (nI (cP s + 1)) = _
    exact wN_nI (by omega)
  have hi := hW.2.2.2.2.2.2.2.2.2
  refine ⟨⟨hW.1.1, ⟨⟨cP s + 1, Nat.zero_le _, h4, rfl⟩, hW.1.2.1.2⟩, hW.1.2.2⟩, fun p hp => ?_, hW.2.2.1, hW.2.2.2.1, hW.2.2.2.2.1, hW.2.2.2.2.2.1, hW.2.2.2.2.2.2.1, hW.2.2.2.2.2.2.2.1, hW.2.2.2.2.2.2.2.2.1, hi.1, fun h => ?_, fun p h1 h2 => ?_⟩
  · rw [ec] at hp
    show iN 1 99 (rw2 s 100 (cP s) w 100 p) ∧ iN 0 30 (rw2 s 101 (cP s) a 101 p) ∧ iN 0 40 (rw2 s 102 (cP s) b 102 p) ∧ iN 0 15 (rw2 s 103 (cP s) e 103 p) ∧ iN 0 40 (rw2 s 104 (cP s) f 104 p)
    by_cases e2 : p = cP s
    · subst e2
      rw [rw2_on, rw2_on, rw2_on, rw2_on, rw2_on]
      exact ⟨hw, ha, hb, he, hf⟩
    · rw [rw2_off (fun z => e2 z.2), rw2_off (fun z => e2 z.2), rw2_off (fun z => e2 z.2), rw2_off (fun z => e2 z.2), rw2_off (fun z => e2 z.2)]
      exact hW.2.1 p (by omega)
  · have q := hi.2.1 h
    exact ⟨q.1, q.2.1, q.2.2.1, q.2.2.2.1, q.2.2.2.2.1, by rw [ec]; exact Nat.le_succ_of_le q.2.2.2.2.2.1, q.2.2.2.2.2.2⟩
  · rw [ec] at h1
    have q := hi.2.2 p (by omega) h2
    show rw2 s 100 (cP s) w 100 p = nI 0 ∧ s 119 p = nI 0
    exact ⟨(rw2_off (fun z => by have := z.2; omega)).trans q.1, q.2⟩
theorem Wf_weigh {s : Nat → Nat → Int32} {w : Int32} (x : Int32) (hW : Wf s) {p : Nat} (hp : p < cP s) (hw : iN 1 99 w) : Wf (rw2 (rw2 s 100 p (w)) 1 15 (x)) := by
  have hi := hW.2.2.2.2.2.2.2.2.2
  refine ⟨hW.1, fun q hq => ?_, hW.2.2.1, hW.2.2.2.1, hW.2.2.2.2.1, hW.2.2.2.2.2.1, hW.2.2.2.2.2.2.1, hW.2.2.2.2.2.2.2.1, hW.2.2.2.2.2.2.2.2.1, hi.1, hi.2.1, fun q h1 h2 => ?_⟩
  · refine ⟨?_, (hW.2.1 q hq).2⟩
    show iN 1 99 (rw2 s 100 p w 100 q)
    by_cases e2 : q = p
    · subst e2
      rw [rw2_on]
      exact hw
    · rw [rw2_off (fun z => e2 z.2)]
      exact (hW.2.1 q hq).1
  · have h1 : cP s ≤ q := h1
    have t := hi.2.2 q h1 h2
    show rw2 s 100 p w 100 q = nI 0 ∧ s 119 q = nI 0
    exact ⟨(rw2_off (fun z => by have := z.2; omega)).trans t.1, t.2⟩
theorem sumN_s (f : Nat → Nat) (n : Nat) : sumN f (n + 1) = sumN f n + f n := rfl
theorem sumN_cg {f g : Nat → Nat} : ∀ {n : Nat}, (∀ t, t < n → f t = g t) → sumN f n = sumN g n
  | 0, _ => rfl
  | n + 1, h => by rw [sumN_s, sumN_s, sumN_cg (fun t ht => h t (by omega)), h n (by omega)]
theorem Wf_storm {s : Nat → Nat → Int32} {h v : Int32} (x : Int32) (hW : Wf s) (h4 : cS s < 6) (hh : iN 0 40 h) (hv : iN 1 1000 v) (hs : sumN (rOf s) (cS s) + wN v ≤ 1000) : Wf (rw2 (rw2 (rw2 (rw2 s 105 (cS s) (h)) 106 (cS s) (v)) 99 10 (nI (cS s + 1))) 1 15 (x)) := by
  have ec : cS (rw2 (rw2 (rw2 (rw2 s 105 (cS s) (h)) 106 (cS s) (v)) 99 10 (nI (cS s + 1))) 1 15 (x)) = cS s + 1 := by
    show wN (nI (cS s + 1)) = _
    exact wN_nI (by omega)
  refine ⟨⟨hW.1.1, ⟨hW.1.2.1.1, ⟨cS s + 1, Nat.zero_le _, h4, rfl⟩, hW.1.2.1.2.2⟩, hW.1.2.2⟩, hW.2.1, ⟨fun t ht => ?_, ?_⟩, hW.2.2.2⟩
  · rw [ec] at ht
    show iN 0 40 (rw2 s 105 (cS s) h 105 t) ∧ iN 1 1000 (rw2 s 106 (cS s) v 106 t)
    by_cases e2 : t = cS s
    · subst e2
      rw [rw2_on, rw2_on]
      exact ⟨hh, hv⟩
    · rw [rw2_off (fun z => e2 z.2), rw2_off (fun z => e2 z.2)]
      exact hW.2.2.1.1 t (by omega)
  · have e1 : rOf (rw2 (rw2 (rw2 (rw2 s 105 (cS s) (h)) 106 (cS s) (v)) 99 10 (nI (cS s + 1))) 1 15 (x)) (cS s) = wN v := by
      show wN (rw2 s 106 (cS s) v 106 (cS s)) = _
      rw [rw2_on]
    have e3 : ∀ n, n ≤ cS s → sumN (rOf (rw2 (rw2 (rw2 (rw2 s 105 (cS s) (h)) 106 (cS s) (v)) 99 10 (nI (cS s + 1))) 1 15 (x))) n = sumN (rOf s) n := fun n hn => sumN_cg (fun t ht => by
      show wN (rw2 s 106 (cS s) v 106 t) = wN (s 106 t)
      rw [rw2_off (fun z => by have := z.2; omega)])
    rw [ec, sumN_s, e1, e3 _ (Nat.le_refl _)]
    exact hs
theorem s_weigh {s : Nat → Nat → Int32} (hW : Wf s) (hch : iN 0 1000000 (s 1 15)) (p : Int32) (w : Int32) : SetOk 20 n_H_weigh n_M_weigh [.int p, .int w] s := by
  obtain ⟨hc1, hc2⟩ := ch_n hch
  have hp4 := hW.p.2
  by_cases g0 : inN p (cP s)
  rotate_left
  · skip
    refine ⟨cI (-1), s, hW, Up.rf hch, fun X d I J R N G hI => ?_, fun X d I J R N G hS => ?_⟩
    · have hL := hI.2.2.1
      unfold TP
      show XP X _ k_H_weigh 0 [.ref (0), .int (p), .int (w)] [] _ _
      refine XP_n 3 (pc' := 3) (ls' := [.ref (0), .int (p), .int (w)]) (st' := [.int (p), .ref (1)]) (M' := (I, J, Rx R, N, G)) rfl ?_
      refine XP_pure rfl rfl (c_hasPath hI.1 hI.2.1 _) ?_
      refine XP_s rfl ?_
      refine XP_bne (fun b4 => absurd b4 g0) (fun b4 => ?_)
      refine XP_n 1 (pc' := 6) (ls' := [.ref (0), .int (p), .int (w)]) (st' := [.int (cI (-1))]) (M' := (I, J, Rx R, N, G)) rfl ?_
      exact XP_ret rfl ⟨rfl, _, rfl, hI.1.C, hI.2.2.1, hI.2.2.2.1, FrM.rf⟩
    · unfold TP
      show XP X _ k_M_weigh 0 [.ref (99), .int (p), .int (w), xj] [] _ _
      refine XP_n 2 (pc' := 2) (ls' := [.ref (99), .int (p), .int (w), xj]) (st' := [.int (p), .ref (99)]) (M' := (I, J, Rx R, N, G)) rfl ?_
      refine XP_pure rfl rfl (m_isPathM hS hW _) ?_
      refine XP_s rfl ?_
      refine XP_bne (fun b3 => absurd b3 g0) (fun b3 => ?_)
      refine XP_n 1 (pc' := 5) (ls' := [.ref (99), .int (p), .int (w), xj]) (st' := [.int (cI (-1))]) (M' := (I, J, Rx R, N, G)) rfl ?_
      exact XP_ret rfl ⟨rfl, _, rfl, hS, FrC.rf⟩
  obtain ⟨p, hp, rfl, -⟩ := inN_nat g0 (by omega)
  by_cases g1 : iv 1 99 w
  rotate_left
  · skip
    refine ⟨cI (-2), s, hW, Up.rf hch, fun X d I J R N G hI => ?_, fun X d I J R N G hS => ?_⟩
    · have hL := hI.2.2.1
      unfold TP
      show XP X _ k_H_weigh 0 [.ref (0), .int (nI (p)), .int (w)] [] _ _
      refine XP_n 3 (pc' := 3) (ls' := [.ref (0), .int (nI (p)), .int (w)]) (st' := [.int (nI (p)), .ref (1)]) (M' := (I, J, Rx R, N, G)) rfl ?_
      refine XP_pure rfl rfl (c_hasPath hI.1 hI.2.1 _) ?_
      refine XP_s rfl ?_
      refine XP_bne (fun b4 => ?_) (fun b4 => absurd g0 b4)
      refine XP_n 1 (pc' := 8) (ls' := [.ref (0), .int (nI (p)), .int (w)]) (st' := [.int (w)]) (M' := (I, J, Rx R, N, G)) rfl ?_
      refine XP_pure rfl rfl (t_H_isWeight X _ _ _) ?_
      refine XP_s rfl ?_
      refine XP_bne (fun b9 => absurd b9 g1) (fun b9 => ?_)
      refine XP_n 1 (pc' := 11) (ls' := [.ref (0), .int (nI (p)), .int (w)]) (st' := [.int (cI (-2))]) (M' := (I, J, Rx R, N, G)) rfl ?_
      exact XP_ret rfl ⟨rfl, _, rfl, hI.1.C, hI.2.2.1, hI.2.2.2.1, FrM.rf⟩
    · unfold TP
      show XP X _ k_M_weigh 0 [.ref (99), .int (nI (p)), .int (w), xj] [] _ _
      refine XP_n 2 (pc' := 2) (ls' := [.ref (99), .int (nI (p)), .int (w), xj]) (st' := [.int (nI (p)), .ref (99)]) (M' := (I, J, Rx R, N, G)) rfl ?_
      refine XP_pure rfl rfl (m_isPathM hS hW _) ?_
      refine XP_s rfl ?_
      refine XP_bne (fun b3 => ?_) (fun b3 => absurd g0 b3)
      refine XP_n 3 (pc' := 9) (ls' := [.ref (99), .int (nI (p)), .int (w), xj]) (st' := [.int (nI (99)), .int (nI (1)), .int (w)]) (M' := (I, J, Rx R, N, G)) rfl ?_
      refine XP_pure rfl rfl (w_M X _ _ 1 99 _) ?_
      refine XP_s rfl ?_
      refine XP_bne (fun b10 => absurd b10 g1) (fun b10 => ?_)
      refine XP_n 1 (pc' := 12) (ls' := [.ref (99), .int (nI (p)), .int (w), xj]) (st' := [.int (cI (-2))]) (M' := (I, J, Rx R, N, G)) rfl ?_
      exact XP_ret rfl ⟨rfl, _, rfl, hS, FrC.rf⟩
  have hw : iN 1 99 w := by
    obtain ⟨n, a, b, c, -⟩ := iv_nat g1 (by omega) (by omega)
    exact ⟨n, a, b, c⟩
  refine ⟨nI (rWt s p), (rw2 (rw2 s 100 p (w)) 1 15 (nI (wN (s 1 15) + 1))), Wf_weigh _ hW hp hw, ⟨_, rfl, Nat.le_succ _, by omega, rfl, rfl⟩, fun X d I J R N G hI => ?_, fun X d I J R N G hS => ?_⟩
  · have hL := hI.2.2.1
    have k15 : I 1 15 = nI (wN (s 1 15)) := (hI.1 1 15 1 15 rfl).trans hc1
    unfold TP
    show XP X _ k_H_weigh 0 [.ref (0), .int (nI (p)), .int (w)] [] _ _
    refine XP_n 3 (pc' := 3) (ls' := [.ref (0), .int (nI (p)), .int (w)]) (st' := [.int (nI (p)), .ref (1)]) (M' := (I, J, Rx R, N, G)) rfl ?_
    refine XP_pure rfl rfl (c_hasPath hI.1 hI.2.1 _) ?_
    refine XP_s rfl ?_
    refine XP_bne (fun b4 => ?_) (fun b4 => absurd g0 b4)
    refine XP_n 1 (pc' := 8) (ls' := [.ref (0), .int (nI (p)), .int (w)]) (st' := [.int (w)]) (M' := (I, J, Rx R, N, G)) rfl ?_
    refine XP_pure rfl rfl (t_H_isWeight X _ _ _) ?_
    refine XP_s rfl ?_
    refine XP_bne (fun b9 => ?_) (fun b9 => absurd g1 b9)
    refine XP_n 4 (pc' := 16) (ls' := [.ref (0), .int (nI (p)), .int (w)]) (st' := [.int (w), .int (nI (p)), .ref (1)]) (M' := (I, J, Rx R, N, G)) rfl ?_
    refine XP_call rfl rfl (c_putW hI.1 hW hp k15 _) ?_
    rintro v1 M1 ⟨rfl, rfl⟩
    exact XP_ret rfl ⟨rfl, _, rfl, (StC_w (StC_w hI.1.C rfl) rfl), agrl_Lk (s := s) ⟨fun k hk => by rw [rw2_ro (by omega), rw2_ro (by omega)], rfl, rfl, rfl, fun e => e, rfl, rfl, rfl⟩ hI.2.2.1, (Cch.new (Cch.w (Cch.w hI.2.2.2.1 hW.p.2 (by omega)) hW.p.2 (by omega)) hW.p.2 rfl (Nat.lt_succ_self _) (by omega)), (FrM.w (FrM.w FrM.rf rfl) rfl)⟩
  · unfold TP
    show XP X _ k_M_weigh 0 [.ref (99), .int (nI (p)), .int (w), xj] [] _ _
    refine XP_n 2 (pc' := 2) (ls' := [.ref (99), .int (nI (p)), .int (w), xj]) (st' := [.int (nI (p)), .ref (99)]) (M' := (I, J, Rx R, N, G)) rfl ?_
    refine XP_pure rfl rfl (m_isPathM hS hW _) ?_
    refine XP_s rfl ?_
    refine XP_bne (fun b3 => ?_) (fun b3 => absurd g0 b3)
    refine XP_n 3 (pc' := 9) (ls' := [.ref (99), .int (nI (p)), .int (w), xj]) (st' := [.int (nI (99)), .int (nI (1)), .int (w)]) (M' := (I, J, Rx R, N, G)) rfl ?_
    refine XP_pure rfl rfl (w_M X _ _ 1 99 _) ?_
    refine XP_s rfl ?_
    refine XP_bne (fun b10 => ?_) (fun b10 => absurd g1 b10)
    refine XP_n 3 (pc' := 16) (ls' := [.ref (99), .int (nI (p)), .int (w), xj]) (st' := [.int (nI (p)), .ref (100)]) (M' := (I, J, Rx R, N, G)) rfl ?_
    refine XP_ialdM hS rfl rfl (show p < 4 by omega) rfl (by omega) rfl ?_
    obtain ⟨hq24, hr24⟩ := hW.pw (show p < cP s by omega)
    rw [hq24]
    refine XP_n 5 (pc' := 22) (ls' := [.ref (99), .int (nI (p)), .int (w), .int (nI (rWt s p))]) (st' := [.int (w), .int (nI (p)), .ref (100)]) (M' := (I, J, Rx R, N, G)) rfl ?_
    refine XP_iast rfl rfl (show p < 4 by omega) rfl (by omega) ?_
    refine XP_n 1 (pc' := 24) (ls' := [.ref (99), .int (nI (p)), .int (w), .int (nI (rWt s p))]) (st' := [.int (nI (rWt s p))]) (M' := ((rw2 I 100 p (w)), J, Rx R, N, G)) rfl ?_
    exact XP_ret rfl ⟨rfl, _, rfl, (StM_sC (StM_w hS rfl) rfl), (FrC.w FrC.rf rfl)⟩
theorem s_path {s : Nat → Nat → Int32} (hW : Wf s) (hch : iN 0 1000000 (s 1 15)) (w : Int32) (a : Int32) (b : Int32) (e : Int32) : SetOk 20 n_H_path n_M_path [.int w, .int a, .int b, .int e] s := by
  obtain ⟨hc1, hc2⟩ := ch_n hch
  have hp4 := hW.p.2
  by_cases g3 : ¬ e < 0
  rotate_left
  · skip
    refine ⟨cI (-2), s, hW, Up.rf hch, fun X d I J R N G hI => ?_, fun X d I J R N G hS => ?_⟩
    · have hL := hI.2.2.1
      unfold TP
      show XP X _ k_H_path 0 [.ref (0), .int (w), .int (a), .int (b), .int (e)] [] _ _
      refine XP_n 1 (pc' := 1) (ls' := [.ref (0), .int (w), .int (a), .int (b), .int (e)]) (st' := [.int (w)]) (M' := (I, J, Rx R, N, G)) rfl ?_
      refine XP_pure rfl rfl (t_H_isWeight X _ _ _) ?_
      refine XP_s rfl ?_
      refine XP_beq (fun (b2 : ¬ (iv 1 99 (w))) => ?_) (fun (b2 : iv 1 99 (w)) => ?_)
      · refine XP_n 1 (pc' := 14) (ls' := [.ref (0), .int (w), .int (a), .int (b), .int (e)]) (st' := [.int (cI (-2))]) (M' := (I, J, Rx R, N, G)) rfl ?_
        exact XP_ret rfl ⟨rfl, _, rfl, hI.1.C, hI.2.2.1, hI.2.2.2.1, FrM.rf⟩
      · refine XP_n 3 (pc' := 6) (ls' := [.ref (0), .int (w), .int (a), .int (b), .int (e)]) (st' := [.int (nI (30)), .int (nI (0)), .int (a)]) (M' := (I, J, Rx R, N, G)) rfl ?_
        refine XP_pure rfl rfl (w_H X _ _ 0 30 _) ?_
        refine XP_s rfl ?_
        refine XP_beq (fun (b7 : ¬ (iv 0 30 (a))) => ?_) (fun (b7 : iv 0 30 (a)) => ?_)
        · refine XP_n 1 (pc' := 14) (ls' := [.ref (0), .int (w), .int (a), .int (b), .int (e)]) (st' := [.int (cI (-2))]) (M' := (I, J, Rx R, N, G)) rfl ?_
          exact XP_ret rfl ⟨rfl, _, rfl, hI.1.C, hI.2.2.1, hI.2.2.2.1, FrM.rf⟩
        · refine XP_n 3 (pc' := 11) (ls' := [.ref (0), .int (w), .int (a), .int (b), .int (e)]) (st' := [.int (nI (40)), .int (nI (0)), .int (b)]) (M' := (I, J, Rx R, N, G)) rfl ?_
          refine XP_pure rfl rfl (w_H X _ _ 0 40 _) ?_
          refine XP_s rfl ?_
          refine XP_bne (fun (b12 : iv 0 40 (b)) => ?_) (fun (b12 : ¬ (iv 0 40 (b))) => ?_)
          · refine XP_n 1 (pc' := 16) (ls' := [.ref (0), .int (w), .int (a), .int (b), .int (e)]) (st' := [.int (e)]) (M' := (I, J, Rx R, N, G)) rfl ?_
            refine XP_ifD rfl (fun (b16 : e < 0) => ?_) (fun (b16 : 0 ≤ e) => absurd b16 (by first | exact (Classical.not_not.mp g3) | exact fun z => z (Classical.not_not.mp g3) | exact Int32.not_le.mpr (Classical.not_not.mp g3) | exact Int32.not_lt.mpr (Int32.not_lt.mp (Classical.not_not.mp g3)) | omega))
            have n16 := Int32.not_le.mpr b16
            refine XP_n 1 (pc' := 28) (ls' := [.ref (0), .int (w), .int (a), .int (b), .int (e)]) (st' := [.int (cI (-2))]) (M' := (I, J, Rx R, N, G)) rfl ?_
            exact XP_ret rfl ⟨rfl, _, rfl, hI.1.C, hI.2.2.1, hI.2.2.2.1, FrM.rf⟩
          · refine XP_n 1 (pc' := 14) (ls' := [.ref (0), .int (w), .int (a), .int (b), .int (e)]) (st' := [.int (cI (-2))]) (M' := (I, J, Rx R, N, G)) rfl ?_
            exact XP_ret rfl ⟨rfl, _, rfl, hI.1.C, hI.2.2.1, hI.2.2.2.1, FrM.rf⟩
    · unfold TP
      show XP X _ k_M_path 0 [.ref (99), .int (w), .int (a), .int (b), .int (e), xj] [] _ _
      refine XP_n 1 (pc' := 1) (ls' := [.ref (99), .int (w), .int (a), .int (b), .int (e), xj]) (st' := [.int (e)]) (M' := (I, J, Rx R, N, G)) rfl ?_
      refine XP_ifD rfl (fun (b1 : e < 0) => ?_) (fun (b1 : 0 ≤ e) => absurd b1 (by first | exact (Classical.not_not.mp g3) | exact fun z => z (Classical.not_not.mp g3) | exact Int32.not_le.mpr (Classical.not_not.mp g3) | exact Int32.not_lt.mpr (Int32.not_lt.mp (Classical.not_not.mp g3)) | omega))
      have n1 := Int32.not_le.mpr b1
      refine XP_n 5 (pc' := 19) (ls' := [.ref (99), .int (w), .int (a), .int (b), .int (e), .int (nI (0))]) (st' := [.int (nI (99)), .int (nI (1)), .int (w)]) (M' := (I, J, Rx R, N, G)) rfl ?_
      refine XP_pure rfl rfl (w_M X _ _ 1 99 _) ?_
      refine XP_s rfl ?_
      refine XP_beq (fun (b20 : ¬ (iv 1 99 (w))) => ?_) (fun (b20 : iv 1 99 (w)) => ?_)
      · refine XP_n 1 (pc' := 34) (ls' := [.ref (99), .int (w), .int (a), .int (b), .int (e), .int (nI (0))]) (st' := [.int (cI (-2))]) (M' := (I, J, Rx R, N, G)) rfl ?_
        exact XP_ret rfl ⟨rfl, _, rfl, hS, FrC.rf⟩
      · refine XP_n 3 (pc' := 24) (ls' := [.ref (99), .int (w), .int (a), .int (b), .int (e), .int (nI (0))]) (st' := [.int (nI (30)), .int (nI (0)), .int (a)]) (M' := (I, J, Rx R, N, G)) rfl ?_
        refine XP_pure rfl rfl (w_M X _ _ 0 30 _) ?_
        refine XP_s rfl ?_
        refine XP_beq (fun (b25 : ¬ (iv 0 30 (a))) => ?_) (fun (b25 : iv 0 30 (a)) => ?_)
        · refine XP_n 1 (pc' := 34) (ls' := [.ref (99), .int (w), .int (a), .int (b), .int (e), .int (nI (0))]) (st' := [.int (cI (-2))]) (M' := (I, J, Rx R, N, G)) rfl ?_
          exact XP_ret rfl ⟨rfl, _, rfl, hS, FrC.rf⟩
        · refine XP_n 3 (pc' := 29) (ls' := [.ref (99), .int (w), .int (a), .int (b), .int (e), .int (nI (0))]) (st' := [.int (nI (40)), .int (nI (0)), .int (b)]) (M' := (I, J, Rx R, N, G)) rfl ?_
          refine XP_pure rfl rfl (w_M X _ _ 0 40 _) ?_
          refine XP_s rfl ?_
          refine XP_beq (fun (b30 : ¬ (iv 0 40 (b))) => ?_) (fun (b30 : iv 0 40 (b)) => ?_)
          · refine XP_n 1 (pc' := 34) (ls' := [.ref (99), .int (w), .int (a), .int (b), .int (e), .int (nI (0))]) (st' := [.int (cI (-2))]) (M' := (I, J, Rx R, N, G)) rfl ?_
            exact XP_ret rfl ⟨rfl, _, rfl, hS, FrC.rf⟩
          · refine XP_n 1 (pc' := 32) (ls' := [.ref (99), .int (w), .int (a), .int (b), .int (e), .int (nI (0))]) (st' := [.int (nI (0))]) (M' := (I, J, Rx R, N, G)) rfl ?_
            refine XP_ifN (x := 0)  rfl (by omega) (fun (b32 : ¬ 0 = 0) => absurd b32 (by omega)) (fun (b32 : 0 = 0) => ?_)
            refine XP_n 1 (pc' := 34) (ls' := [.ref (99), .int (w), .int (a), .int (b), .int (e), .int (nI (0))]) (st' := [.int (cI (-2))]) (M' := (I, J, Rx R, N, G)) rfl ?_
            exact XP_ret rfl ⟨rfl, _, rfl, hS, FrC.rf⟩
  obtain ⟨n, hn, rfl⟩ := nn_nat g3
  by_cases g4 : n / 100 ≤ 15
  rotate_left
  · skip
    refine ⟨cI (-2), s, hW, Up.rf hch, fun X d I J R N G hI => ?_, fun X d I J R N G hS => ?_⟩
    · have hL := hI.2.2.1
      unfold TP
      show XP X _ k_H_path 0 [.ref (0), .int (w), .int (a), .int (b), .int (nI (n))] [] _ _
      refine XP_n 1 (pc' := 1) (ls' := [.ref (0), .int (w), .int (a), .int (b), .int (nI (n))]) (st' := [.int (w)]) (M' := (I, J, Rx R, N, G)) rfl ?_
      refine XP_pure rfl rfl (t_H_isWeight X _ _ _) ?_
      refine XP_s rfl ?_
      refine XP_beq (fun (b2 : ¬ (iv 1 99 (w))) => ?_) (fun (b2 : iv 1 99 (w)) => ?_)
      · refine XP_n 1 (pc' := 14) (ls' := [.ref (0), .int (w), .int (a), .int (b), .int (nI (n))]) (st' := [.int (cI (-2))]) (M' := (I, J, Rx R, N, G)) rfl ?_
        exact XP_ret rfl ⟨rfl, _, rfl, hI.1.C, hI.2.2.1, hI.2.2.2.1, FrM.rf⟩
      · refine XP_n 3 (pc' := 6) (ls' := [.ref (0), .int (w), .int (a), .int (b), .int (nI (n))]) (st' := [.int (nI (30)), .int (nI (0)), .int (a)]) (M' := (I, J, Rx R, N, G)) rfl ?_
        refine XP_pure rfl rfl (w_H X _ _ 0 30 _) ?_
        refine XP_s rfl ?_
        refine XP_beq (fun (b7 : ¬ (iv 0 30 (a))) => ?_) (fun (b7 : iv 0 30 (a)) => ?_)
        · refine XP_n 1 (pc' := 14) (ls' := [.ref (0), .int (w), .int (a), .int (b), .int (nI (n))]) (st' := [.int (cI (-2))]) (M' := (I, J, Rx R, N, G)) rfl ?_
          exact XP_ret rfl ⟨rfl, _, rfl, hI.1.C, hI.2.2.1, hI.2.2.2.1, FrM.rf⟩
        · refine XP_n 3 (pc' := 11) (ls' := [.ref (0), .int (w), .int (a), .int (b), .int (nI (n))]) (st' := [.int (nI (40)), .int (nI (0)), .int (b)]) (M' := (I, J, Rx R, N, G)) rfl ?_
          refine XP_pure rfl rfl (w_H X _ _ 0 40 _) ?_
          refine XP_s rfl ?_
          refine XP_bne (fun (b12 : iv 0 40 (b)) => ?_) (fun (b12 : ¬ (iv 0 40 (b))) => ?_)
          · refine XP_n 1 (pc' := 16) (ls' := [.ref (0), .int (w), .int (a), .int (b), .int (nI (n))]) (st' := [.int (nI (n))]) (M' := (I, J, Rx R, N, G)) rfl ?_
            refine XP_ifN (x := n)  rfl (by omega) (fun (b16 : n < 0) => absurd b16 (by omega)) (fun (b16 : 0 ≤ n) => ?_)
            refine XP_n 2 (pc' := 19) (ls' := [.ref (0), .int (w), .int (a), .int (b), .int (nI (n))]) (st' := [.int (nI (100)), .int (nI (n))]) (M' := (I, J, Rx R, N, G)) rfl ?_
            refine XP_idivN (a := n) (b := 100) rfl (by omega) (by omega) (by omega) ?_
            refine XP_n 1 (pc' := 21) (ls' := [.ref (0), .int (w), .int (a), .int (b), .int (nI (n))]) (st' := [.int (nI (15)), .int (nI ((n) / (100)))]) (M' := (I, J, Rx R, N, G)) rfl ?_
            refine XP_icN (x := (n) / (100)) (y := 15) rfl (by omega) (by omega) (fun (b21 : 15 < (n) / (100)) => ?_) (fun (b21 : (n) / (100) ≤ 15) => absurd b21 (by omega))
            refine XP_n 1 (pc' := 28) (ls' := [.ref (0), .int (w), .int (a), .int (b), .int (nI (n))]) (st' := [.int (cI (-2))]) (M' := (I, J, Rx R, N, G)) rfl ?_
            exact XP_ret rfl ⟨rfl, _, rfl, hI.1.C, hI.2.2.1, hI.2.2.2.1, FrM.rf⟩
          · refine XP_n 1 (pc' := 14) (ls' := [.ref (0), .int (w), .int (a), .int (b), .int (nI (n))]) (st' := [.int (cI (-2))]) (M' := (I, J, Rx R, N, G)) rfl ?_
            exact XP_ret rfl ⟨rfl, _, rfl, hI.1.C, hI.2.2.1, hI.2.2.2.1, FrM.rf⟩
    · unfold TP
      show XP X _ k_M_path 0 [.ref (99), .int (w), .int (a), .int (b), .int (nI (n)), xj] [] _ _
      refine XP_n 1 (pc' := 1) (ls' := [.ref (99), .int (w), .int (a), .int (b), .int (nI (n)), xj]) (st' := [.int (nI (n))]) (M' := (I, J, Rx R, N, G)) rfl ?_
      refine XP_ifN (x := n)  rfl (by omega) (fun (b1 : n < 0) => absurd b1 (by omega)) (fun (b1 : 0 ≤ n) => ?_)
      refine XP_n 2 (pc' := 4) (ls' := [.ref (99), .int (w), .int (a), .int (b), .int (nI (n)), xj]) (st' := [.int (nI (100)), .int (nI (n))]) (M' := (I, J, Rx R, N, G)) rfl ?_
      refine XP_idivN (a := n) (b := 100) rfl (by omega) (by omega) (by omega) ?_
      refine XP_n 1 (pc' := 6) (ls' := [.ref (99), .int (w), .int (a), .int (b), .int (nI (n)), xj]) (st' := [.int (nI (15)), .int (nI ((n) / (100)))]) (M' := (I, J, Rx R, N, G)) rfl ?_
      refine XP_icN (x := (n) / (100)) (y := 15) rfl (by omega) (by omega) (fun (b6 : 15 < (n) / (100)) => ?_) (fun (b6 : (n) / (100) ≤ 15) => absurd b6 (by omega))
      refine XP_n 5 (pc' := 19) (ls' := [.ref (99), .int (w), .int (a), .int (b), .int (nI (n)), .int (nI (0))]) (st' := [.int (nI (99)), .int (nI (1)), .int (w)]) (M' := (I, J, Rx R, N, G)) rfl ?_
      refine XP_pure rfl rfl (w_M X _ _ 1 99 _) ?_
      refine XP_s rfl ?_
      refine XP_beq (fun (b20 : ¬ (iv 1 99 (w))) => ?_) (fun (b20 : iv 1 99 (w)) => ?_)
      · refine XP_n 1 (pc' := 34) (ls' := [.ref (99), .int (w), .int (a), .int (b), .int (nI (n)), .int (nI (0))]) (st' := [.int (cI (-2))]) (M' := (I, J, Rx R, N, G)) rfl ?_
        exact XP_ret rfl ⟨rfl, _, rfl, hS, FrC.rf⟩
      · refine XP_n 3 (pc' := 24) (ls' := [.ref (99), .int (w), .int (a), .int (b), .int (nI (n)), .int (nI (0))]) (st' := [.int (nI (30)), .int (nI (0)), .int (a)]) (M' := (I, J, Rx R, N, G)) rfl ?_
        refine XP_pure rfl rfl (w_M X _ _ 0 30 _) ?_
        refine XP_s rfl ?_
        refine XP_beq (fun (b25 : ¬ (iv 0 30 (a))) => ?_) (fun (b25 : iv 0 30 (a)) => ?_)
        · refine XP_n 1 (pc' := 34) (ls' := [.ref (99), .int (w), .int (a), .int (b), .int (nI (n)), .int (nI (0))]) (st' := [.int (cI (-2))]) (M' := (I, J, Rx R, N, G)) rfl ?_
          exact XP_ret rfl ⟨rfl, _, rfl, hS, FrC.rf⟩
        · refine XP_n 3 (pc' := 29) (ls' := [.ref (99), .int (w), .int (a), .int (b), .int (nI (n)), .int (nI (0))]) (st' := [.int (nI (40)), .int (nI (0)), .int (b)]) (M' := (I, J, Rx R, N, G)) rfl ?_
          refine XP_pure rfl rfl (w_M X _ _ 0 40 _) ?_
          refine XP_s rfl ?_
          refine XP_beq (fun (b30 : ¬ (iv 0 40 (b))) => ?_) (fun (b30 : iv 0 40 (b)) => ?_)
          · refine XP_n 1 (pc' := 34) (ls' := [.ref (99), .int (w), .int (a), .int (b), .int (nI (n)), .int (nI (0))]) (st' := [.int (cI (-2))]) (M' := (I, J, Rx R, N, G)) rfl ?_
            exact XP_ret rfl ⟨rfl, _, rfl, hS, FrC.rf⟩
          · refine XP_n 1 (pc' := 32) (ls' := [.ref (99), .int (w), .int (a), .int (b), .int (nI (n)), .int (nI (0))]) (st' := [.int (nI (0))]) (M' := (I, J, Rx R, N, G)) rfl ?_
            refine XP_ifN (x := 0)  rfl (by omega) (fun (b32 : ¬ 0 = 0) => absurd b32 (by omega)) (fun (b32 : 0 = 0) => ?_)
            refine XP_n 1 (pc' := 34) (ls' := [.ref (99), .int (w), .int (a), .int (b), .int (nI (n)), .int (nI (0))]) (st' := [.int (cI (-2))]) (M' := (I, J, Rx R, N, G)) rfl ?_
            exact XP_ret rfl ⟨rfl, _, rfl, hS, FrC.rf⟩
  by_cases g5 : n % 100 ≤ 40
  rotate_left
  · skip
    refine ⟨cI (-2), s, hW, Up.rf hch, fun X d I J R N G hI => ?_, fun X d I J R N G hS => ?_⟩
    · have hL := hI.2.2.1
      unfold TP
      show XP X _ k_H_path 0 [.ref (0), .int (w), .int (a), .int (b), .int (nI (n))] [] _ _
      refine XP_n 1 (pc' := 1) (ls' := [.ref (0), .int (w), .int (a), .int (b), .int (nI (n))]) (st' := [.int (w)]) (M' := (I, J, Rx R, N, G)) rfl ?_
      refine XP_pure rfl rfl (t_H_isWeight X _ _ _) ?_
      refine XP_s rfl ?_
      refine XP_beq (fun (b2 : ¬ (iv 1 99 (w))) => ?_) (fun (b2 : iv 1 99 (w)) => ?_)
      · refine XP_n 1 (pc' := 14) (ls' := [.ref (0), .int (w), .int (a), .int (b), .int (nI (n))]) (st' := [.int (cI (-2))]) (M' := (I, J, Rx R, N, G)) rfl ?_
        exact XP_ret rfl ⟨rfl, _, rfl, hI.1.C, hI.2.2.1, hI.2.2.2.1, FrM.rf⟩
      · refine XP_n 3 (pc' := 6) (ls' := [.ref (0), .int (w), .int (a), .int (b), .int (nI (n))]) (st' := [.int (nI (30)), .int (nI (0)), .int (a)]) (M' := (I, J, Rx R, N, G)) rfl ?_
        refine XP_pure rfl rfl (w_H X _ _ 0 30 _) ?_
        refine XP_s rfl ?_
        refine XP_beq (fun (b7 : ¬ (iv 0 30 (a))) => ?_) (fun (b7 : iv 0 30 (a)) => ?_)
        · refine XP_n 1 (pc' := 14) (ls' := [.ref (0), .int (w), .int (a), .int (b), .int (nI (n))]) (st' := [.int (cI (-2))]) (M' := (I, J, Rx R, N, G)) rfl ?_
          exact XP_ret rfl ⟨rfl, _, rfl, hI.1.C, hI.2.2.1, hI.2.2.2.1, FrM.rf⟩
        · refine XP_n 3 (pc' := 11) (ls' := [.ref (0), .int (w), .int (a), .int (b), .int (nI (n))]) (st' := [.int (nI (40)), .int (nI (0)), .int (b)]) (M' := (I, J, Rx R, N, G)) rfl ?_
          refine XP_pure rfl rfl (w_H X _ _ 0 40 _) ?_
          refine XP_s rfl ?_
          refine XP_bne (fun (b12 : iv 0 40 (b)) => ?_) (fun (b12 : ¬ (iv 0 40 (b))) => ?_)
          · refine XP_n 1 (pc' := 16) (ls' := [.ref (0), .int (w), .int (a), .int (b), .int (nI (n))]) (st' := [.int (nI (n))]) (M' := (I, J, Rx R, N, G)) rfl ?_
            refine XP_ifN (x := n)  rfl (by omega) (fun (b16 : n < 0) => absurd b16 (by omega)) (fun (b16 : 0 ≤ n) => ?_)
            refine XP_n 2 (pc' := 19) (ls' := [.ref (0), .int (w), .int (a), .int (b), .int (nI (n))]) (st' := [.int (nI (100)), .int (nI (n))]) (M' := (I, J, Rx R, N, G)) rfl ?_
            refine XP_idivN (a := n) (b := 100) rfl (by omega) (by omega) (by omega) ?_
            refine XP_n 1 (pc' := 21) (ls' := [.ref (0), .int (w), .int (a), .int (b), .int (nI (n))]) (st' := [.int (nI (15)), .int (nI ((n) / (100)))]) (M' := (I, J, Rx R, N, G)) rfl ?_
            refine XP_icN (x := (n) / (100)) (y := 15) rfl (by omega) (by omega) (fun (b21 : 15 < (n) / (100)) => absurd b21 (by omega)) (fun (b21 : (n) / (100) ≤ 15) => ?_)
            refine XP_n 2 (pc' := 24) (ls' := [.ref (0), .int (w), .int (a), .int (b), .int (nI (n))]) (st' := [.int (nI (100)), .int (nI (n))]) (M' := (I, J, Rx R, N, G)) rfl ?_
            refine XP_iremN (a := n) (b := 100) rfl (by omega) (by omega) (by omega) ?_
            refine XP_n 1 (pc' := 26) (ls' := [.ref (0), .int (w), .int (a), .int (b), .int (nI (n))]) (st' := [.int (nI (40)), .int (nI ((n) % (100)))]) (M' := (I, J, Rx R, N, G)) rfl ?_
            refine XP_icN (x := (n) % (100)) (y := 40) rfl (by omega) (by omega) (fun (b26 : (n) % (100) ≤ 40) => absurd b26 (by omega)) (fun (b26 : 40 < (n) % (100)) => ?_)
            refine XP_n 1 (pc' := 28) (ls' := [.ref (0), .int (w), .int (a), .int (b), .int (nI (n))]) (st' := [.int (cI (-2))]) (M' := (I, J, Rx R, N, G)) rfl ?_
            exact XP_ret rfl ⟨rfl, _, rfl, hI.1.C, hI.2.2.1, hI.2.2.2.1, FrM.rf⟩
          · refine XP_n 1 (pc' := 14) (ls' := [.ref (0), .int (w), .int (a), .int (b), .int (nI (n))]) (st' := [.int (cI (-2))]) (M' := (I, J, Rx R, N, G)) rfl ?_
            exact XP_ret rfl ⟨rfl, _, rfl, hI.1.C, hI.2.2.1, hI.2.2.2.1, FrM.rf⟩
    · unfold TP
      show XP X _ k_M_path 0 [.ref (99), .int (w), .int (a), .int (b), .int (nI (n)), xj] [] _ _
      refine XP_n 1 (pc' := 1) (ls' := [.ref (99), .int (w), .int (a), .int (b), .int (nI (n)), xj]) (st' := [.int (nI (n))]) (M' := (I, J, Rx R, N, G)) rfl ?_
      refine XP_ifN (x := n)  rfl (by omega) (fun (b1 : n < 0) => absurd b1 (by omega)) (fun (b1 : 0 ≤ n) => ?_)
      refine XP_n 2 (pc' := 4) (ls' := [.ref (99), .int (w), .int (a), .int (b), .int (nI (n)), xj]) (st' := [.int (nI (100)), .int (nI (n))]) (M' := (I, J, Rx R, N, G)) rfl ?_
      refine XP_idivN (a := n) (b := 100) rfl (by omega) (by omega) (by omega) ?_
      refine XP_n 1 (pc' := 6) (ls' := [.ref (99), .int (w), .int (a), .int (b), .int (nI (n)), xj]) (st' := [.int (nI (15)), .int (nI ((n) / (100)))]) (M' := (I, J, Rx R, N, G)) rfl ?_
      refine XP_icN (x := (n) / (100)) (y := 15) rfl (by omega) (by omega) (fun (b6 : 15 < (n) / (100)) => absurd b6 (by omega)) (fun (b6 : (n) / (100) ≤ 15) => ?_)
      refine XP_n 2 (pc' := 9) (ls' := [.ref (99), .int (w), .int (a), .int (b), .int (nI (n)), xj]) (st' := [.int (nI (100)), .int (nI (n))]) (M' := (I, J, Rx R, N, G)) rfl ?_
      refine XP_iremN (a := n) (b := 100) rfl (by omega) (by omega) (by omega) ?_
      refine XP_n 1 (pc' := 11) (ls' := [.ref (99), .int (w), .int (a), .int (b), .int (nI (n)), xj]) (st' := [.int (nI (40)), .int (nI ((n) % (100)))]) (M' := (I, J, Rx R, N, G)) rfl ?_
      refine XP_icN (x := (n) % (100)) (y := 40) rfl (by omega) (by omega) (fun (b11 : 40 < (n) % (100)) => ?_) (fun (b11 : (n) % (100) ≤ 40) => absurd b11 (by omega))
      refine XP_n 5 (pc' := 19) (ls' := [.ref (99), .int (w), .int (a), .int (b), .int (nI (n)), .int (nI (0))]) (st' := [.int (nI (99)), .int (nI (1)), .int (w)]) (M' := (I, J, Rx R, N, G)) rfl ?_
      refine XP_pure rfl rfl (w_M X _ _ 1 99 _) ?_
      refine XP_s rfl ?_
      refine XP_beq (fun (b20 : ¬ (iv 1 99 (w))) => ?_) (fun (b20 : iv 1 99 (w)) => ?_)
      · refine XP_n 1 (pc' := 34) (ls' := [.ref (99), .int (w), .int (a), .int (b), .int (nI (n)), .int (nI (0))]) (st' := [.int (cI (-2))]) (M' := (I, J, Rx R, N, G)) rfl ?_
        exact XP_ret rfl ⟨rfl, _, rfl, hS, FrC.rf⟩
      · refine XP_n 3 (pc' := 24) (ls' := [.ref (99), .int (w), .int (a), .int (b), .int (nI (n)), .int (nI (0))]) (st' := [.int (nI (30)), .int (nI (0)), .int (a)]) (M' := (I, J, Rx R, N, G)) rfl ?_
        refine XP_pure rfl rfl (w_M X _ _ 0 30 _) ?_
        refine XP_s rfl ?_
        refine XP_beq (fun (b25 : ¬ (iv 0 30 (a))) => ?_) (fun (b25 : iv 0 30 (a)) => ?_)
        · refine XP_n 1 (pc' := 34) (ls' := [.ref (99), .int (w), .int (a), .int (b), .int (nI (n)), .int (nI (0))]) (st' := [.int (cI (-2))]) (M' := (I, J, Rx R, N, G)) rfl ?_
          exact XP_ret rfl ⟨rfl, _, rfl, hS, FrC.rf⟩
        · refine XP_n 3 (pc' := 29) (ls' := [.ref (99), .int (w), .int (a), .int (b), .int (nI (n)), .int (nI (0))]) (st' := [.int (nI (40)), .int (nI (0)), .int (b)]) (M' := (I, J, Rx R, N, G)) rfl ?_
          refine XP_pure rfl rfl (w_M X _ _ 0 40 _) ?_
          refine XP_s rfl ?_
          refine XP_beq (fun (b30 : ¬ (iv 0 40 (b))) => ?_) (fun (b30 : iv 0 40 (b)) => ?_)
          · refine XP_n 1 (pc' := 34) (ls' := [.ref (99), .int (w), .int (a), .int (b), .int (nI (n)), .int (nI (0))]) (st' := [.int (cI (-2))]) (M' := (I, J, Rx R, N, G)) rfl ?_
            exact XP_ret rfl ⟨rfl, _, rfl, hS, FrC.rf⟩
          · refine XP_n 1 (pc' := 32) (ls' := [.ref (99), .int (w), .int (a), .int (b), .int (nI (n)), .int (nI (0))]) (st' := [.int (nI (0))]) (M' := (I, J, Rx R, N, G)) rfl ?_
            refine XP_ifN (x := 0)  rfl (by omega) (fun (b32 : ¬ 0 = 0) => absurd b32 (by omega)) (fun (b32 : 0 = 0) => ?_)
            refine XP_n 1 (pc' := 34) (ls' := [.ref (99), .int (w), .int (a), .int (b), .int (nI (n)), .int (nI (0))]) (st' := [.int (cI (-2))]) (M' := (I, J, Rx R, N, G)) rfl ?_
            exact XP_ret rfl ⟨rfl, _, rfl, hS, FrC.rf⟩
  by_cases g0 : iv 1 99 w
  rotate_left
  · skip
    refine ⟨cI (-2), s, hW, Up.rf hch, fun X d I J R N G hI => ?_, fun X d I J R N G hS => ?_⟩
    · have hL := hI.2.2.1
      unfold TP
      show XP X _ k_H_path 0 [.ref (0), .int (w), .int (a), .int (b), .int (nI (n))] [] _ _
      refine XP_n 1 (pc' := 1) (ls' := [.ref (0), .int (w), .int (a), .int (b), .int (nI (n))]) (st' := [.int (w)]) (M' := (I, J, Rx R, N, G)) rfl ?_
      refine XP_pure rfl rfl (t_H_isWeight X _ _ _) ?_
      refine XP_s rfl ?_
      refine XP_beq (fun b2 => ?_) (fun b2 => absurd b2 g0)
      refine XP_n 1 (pc' := 14) (ls' := [.ref (0), .int (w), .int (a), .int (b), .int (nI (n))]) (st' := [.int (cI (-2))]) (M' := (I, J, Rx R, N, G)) rfl ?_
      exact XP_ret rfl ⟨rfl, _, rfl, hI.1.C, hI.2.2.1, hI.2.2.2.1, FrM.rf⟩
    · unfold TP
      show XP X _ k_M_path 0 [.ref (99), .int (w), .int (a), .int (b), .int (nI (n)), xj] [] _ _
      refine XP_n 1 (pc' := 1) (ls' := [.ref (99), .int (w), .int (a), .int (b), .int (nI (n)), xj]) (st' := [.int (nI (n))]) (M' := (I, J, Rx R, N, G)) rfl ?_
      refine XP_ifN (x := n)  rfl (by omega) (fun (b1 : n < 0) => absurd b1 (by omega)) (fun (b1 : 0 ≤ n) => ?_)
      refine XP_n 2 (pc' := 4) (ls' := [.ref (99), .int (w), .int (a), .int (b), .int (nI (n)), xj]) (st' := [.int (nI (100)), .int (nI (n))]) (M' := (I, J, Rx R, N, G)) rfl ?_
      refine XP_idivN (a := n) (b := 100) rfl (by omega) (by omega) (by omega) ?_
      refine XP_n 1 (pc' := 6) (ls' := [.ref (99), .int (w), .int (a), .int (b), .int (nI (n)), xj]) (st' := [.int (nI (15)), .int (nI ((n) / (100)))]) (M' := (I, J, Rx R, N, G)) rfl ?_
      refine XP_icN (x := (n) / (100)) (y := 15) rfl (by omega) (by omega) (fun (b6 : 15 < (n) / (100)) => absurd b6 (by omega)) (fun (b6 : (n) / (100) ≤ 15) => ?_)
      refine XP_n 2 (pc' := 9) (ls' := [.ref (99), .int (w), .int (a), .int (b), .int (nI (n)), xj]) (st' := [.int (nI (100)), .int (nI (n))]) (M' := (I, J, Rx R, N, G)) rfl ?_
      refine XP_iremN (a := n) (b := 100) rfl (by omega) (by omega) (by omega) ?_
      refine XP_n 1 (pc' := 11) (ls' := [.ref (99), .int (w), .int (a), .int (b), .int (nI (n)), xj]) (st' := [.int (nI (40)), .int (nI ((n) % (100)))]) (M' := (I, J, Rx R, N, G)) rfl ?_
      refine XP_icN (x := (n) % (100)) (y := 40) rfl (by omega) (by omega) (fun (b11 : 40 < (n) % (100)) => absurd b11 (by omega)) (fun (b11 : (n) % (100) ≤ 40) => ?_)
      refine XP_n 6 (pc' := 19) (ls' := [.ref (99), .int (w), .int (a), .int (b), .int (nI (n)), .int (nI (1))]) (st' := [.int (nI (99)), .int (nI (1)), .int (w)]) (M' := (I, J, Rx R, N, G)) rfl ?_
      refine XP_pure rfl rfl (w_M X _ _ 1 99 _) ?_
      refine XP_s rfl ?_
      refine XP_beq (fun b20 => ?_) (fun b20 => absurd b20 g0)
      refine XP_n 1 (pc' := 34) (ls' := [.ref (99), .int (w), .int (a), .int (b), .int (nI (n)), .int (nI (1))]) (st' := [.int (cI (-2))]) (M' := (I, J, Rx R, N, G)) rfl ?_
      exact XP_ret rfl ⟨rfl, _, rfl, hS, FrC.rf⟩
  by_cases g1 : iv 0 30 a
  rotate_left
  · skip
    refine ⟨cI (-2), s, hW, Up.rf hch, fun X d I J R N G hI => ?_, fun X d I J R N G hS => ?_⟩
    · have hL := hI.2.2.1
      unfold TP
      show XP X _ k_H_path 0 [.ref (0), .int (w), .int (a), .int (b), .int (nI (n))] [] _ _
      refine XP_n 1 (pc' := 1) (ls' := [.ref (0), .int (w), .int (a), .int (b), .int (nI (n))]) (st' := [.int (w)]) (M' := (I, J, Rx R, N, G)) rfl ?_
      refine XP_pure rfl rfl (t_H_isWeight X _ _ _) ?_
      refine XP_s rfl ?_
      refine XP_beq (fun b2 => absurd g0 b2) (fun b2 => ?_)
      refine XP_n 3 (pc' := 6) (ls' := [.ref (0), .int (w), .int (a), .int (b), .int (nI (n))]) (st' := [.int (nI (30)), .int (nI (0)), .int (a)]) (M' := (I, J, Rx R, N, G)) rfl ?_
      refine XP_pure rfl rfl (w_H X _ _ 0 30 _) ?_
      refine XP_s rfl ?_
      refine XP_beq (fun b7 => ?_) (fun b7 => absurd b7 g1)
      refine XP_n 1 (pc' := 14) (ls' := [.ref (0), .int (w), .int (a), .int (b), .int (nI (n))]) (st' := [.int (cI (-2))]) (M' := (I, J, Rx R, N, G)) rfl ?_
      exact XP_ret rfl ⟨rfl, _, rfl, hI.1.C, hI.2.2.1, hI.2.2.2.1, FrM.rf⟩
    · unfold TP
      show XP X _ k_M_path 0 [.ref (99), .int (w), .int (a), .int (b), .int (nI (n)), xj] [] _ _
      refine XP_n 1 (pc' := 1) (ls' := [.ref (99), .int (w), .int (a), .int (b), .int (nI (n)), xj]) (st' := [.int (nI (n))]) (M' := (I, J, Rx R, N, G)) rfl ?_
      refine XP_ifN (x := n)  rfl (by omega) (fun (b1 : n < 0) => absurd b1 (by omega)) (fun (b1 : 0 ≤ n) => ?_)
      refine XP_n 2 (pc' := 4) (ls' := [.ref (99), .int (w), .int (a), .int (b), .int (nI (n)), xj]) (st' := [.int (nI (100)), .int (nI (n))]) (M' := (I, J, Rx R, N, G)) rfl ?_
      refine XP_idivN (a := n) (b := 100) rfl (by omega) (by omega) (by omega) ?_
      refine XP_n 1 (pc' := 6) (ls' := [.ref (99), .int (w), .int (a), .int (b), .int (nI (n)), xj]) (st' := [.int (nI (15)), .int (nI ((n) / (100)))]) (M' := (I, J, Rx R, N, G)) rfl ?_
      refine XP_icN (x := (n) / (100)) (y := 15) rfl (by omega) (by omega) (fun (b6 : 15 < (n) / (100)) => absurd b6 (by omega)) (fun (b6 : (n) / (100) ≤ 15) => ?_)
      refine XP_n 2 (pc' := 9) (ls' := [.ref (99), .int (w), .int (a), .int (b), .int (nI (n)), xj]) (st' := [.int (nI (100)), .int (nI (n))]) (M' := (I, J, Rx R, N, G)) rfl ?_
      refine XP_iremN (a := n) (b := 100) rfl (by omega) (by omega) (by omega) ?_
      refine XP_n 1 (pc' := 11) (ls' := [.ref (99), .int (w), .int (a), .int (b), .int (nI (n)), xj]) (st' := [.int (nI (40)), .int (nI ((n) % (100)))]) (M' := (I, J, Rx R, N, G)) rfl ?_
      refine XP_icN (x := (n) % (100)) (y := 40) rfl (by omega) (by omega) (fun (b11 : 40 < (n) % (100)) => absurd b11 (by omega)) (fun (b11 : (n) % (100) ≤ 40) => ?_)
      refine XP_n 6 (pc' := 19) (ls' := [.ref (99), .int (w), .int (a), .int (b), .int (nI (n)), .int (nI (1))]) (st' := [.int (nI (99)), .int (nI (1)), .int (w)]) (M' := (I, J, Rx R, N, G)) rfl ?_
      refine XP_pure rfl rfl (w_M X _ _ 1 99 _) ?_
      refine XP_s rfl ?_
      refine XP_beq (fun b20 => absurd g0 b20) (fun b20 => ?_)
      refine XP_n 3 (pc' := 24) (ls' := [.ref (99), .int (w), .int (a), .int (b), .int (nI (n)), .int (nI (1))]) (st' := [.int (nI (30)), .int (nI (0)), .int (a)]) (M' := (I, J, Rx R, N, G)) rfl ?_
      refine XP_pure rfl rfl (w_M X _ _ 0 30 _) ?_
      refine XP_s rfl ?_
      refine XP_beq (fun b25 => ?_) (fun b25 => absurd b25 g1)
      refine XP_n 1 (pc' := 34) (ls' := [.ref (99), .int (w), .int (a), .int (b), .int (nI (n)), .int (nI (1))]) (st' := [.int (cI (-2))]) (M' := (I, J, Rx R, N, G)) rfl ?_
      exact XP_ret rfl ⟨rfl, _, rfl, hS, FrC.rf⟩
  by_cases g2 : iv 0 40 b
  rotate_left
  · skip
    refine ⟨cI (-2), s, hW, Up.rf hch, fun X d I J R N G hI => ?_, fun X d I J R N G hS => ?_⟩
    · have hL := hI.2.2.1
      unfold TP
      show XP X _ k_H_path 0 [.ref (0), .int (w), .int (a), .int (b), .int (nI (n))] [] _ _
      refine XP_n 1 (pc' := 1) (ls' := [.ref (0), .int (w), .int (a), .int (b), .int (nI (n))]) (st' := [.int (w)]) (M' := (I, J, Rx R, N, G)) rfl ?_
      refine XP_pure rfl rfl (t_H_isWeight X _ _ _) ?_
      refine XP_s rfl ?_
      refine XP_beq (fun b2 => absurd g0 b2) (fun b2 => ?_)
      refine XP_n 3 (pc' := 6) (ls' := [.ref (0), .int (w), .int (a), .int (b), .int (nI (n))]) (st' := [.int (nI (30)), .int (nI (0)), .int (a)]) (M' := (I, J, Rx R, N, G)) rfl ?_
      refine XP_pure rfl rfl (w_H X _ _ 0 30 _) ?_
      refine XP_s rfl ?_
      refine XP_beq (fun b7 => absurd g1 b7) (fun b7 => ?_)
      refine XP_n 3 (pc' := 11) (ls' := [.ref (0), .int (w), .int (a), .int (b), .int (nI (n))]) (st' := [.int (nI (40)), .int (nI (0)), .int (b)]) (M' := (I, J, Rx R, N, G)) rfl ?_
      refine XP_pure rfl rfl (w_H X _ _ 0 40 _) ?_
      refine XP_s rfl ?_
      refine XP_bne (fun b12 => absurd b12 g2) (fun b12 => ?_)
      refine XP_n 1 (pc' := 14) (ls' := [.ref (0), .int (w), .int (a), .int (b), .int (nI (n))]) (st' := [.int (cI (-2))]) (M' := (I, J, Rx R, N, G)) rfl ?_
      exact XP_ret rfl ⟨rfl, _, rfl, hI.1.C, hI.2.2.1, hI.2.2.2.1, FrM.rf⟩
    · unfold TP
      show XP X _ k_M_path 0 [.ref (99), .int (w), .int (a), .int (b), .int (nI (n)), xj] [] _ _
      refine XP_n 1 (pc' := 1) (ls' := [.ref (99), .int (w), .int (a), .int (b), .int (nI (n)), xj]) (st' := [.int (nI (n))]) (M' := (I, J, Rx R, N, G)) rfl ?_
      refine XP_ifN (x := n)  rfl (by omega) (fun (b1 : n < 0) => absurd b1 (by omega)) (fun (b1 : 0 ≤ n) => ?_)
      refine XP_n 2 (pc' := 4) (ls' := [.ref (99), .int (w), .int (a), .int (b), .int (nI (n)), xj]) (st' := [.int (nI (100)), .int (nI (n))]) (M' := (I, J, Rx R, N, G)) rfl ?_
      refine XP_idivN (a := n) (b := 100) rfl (by omega) (by omega) (by omega) ?_
      refine XP_n 1 (pc' := 6) (ls' := [.ref (99), .int (w), .int (a), .int (b), .int (nI (n)), xj]) (st' := [.int (nI (15)), .int (nI ((n) / (100)))]) (M' := (I, J, Rx R, N, G)) rfl ?_
      refine XP_icN (x := (n) / (100)) (y := 15) rfl (by omega) (by omega) (fun (b6 : 15 < (n) / (100)) => absurd b6 (by omega)) (fun (b6 : (n) / (100) ≤ 15) => ?_)
      refine XP_n 2 (pc' := 9) (ls' := [.ref (99), .int (w), .int (a), .int (b), .int (nI (n)), xj]) (st' := [.int (nI (100)), .int (nI (n))]) (M' := (I, J, Rx R, N, G)) rfl ?_
      refine XP_iremN (a := n) (b := 100) rfl (by omega) (by omega) (by omega) ?_
      refine XP_n 1 (pc' := 11) (ls' := [.ref (99), .int (w), .int (a), .int (b), .int (nI (n)), xj]) (st' := [.int (nI (40)), .int (nI ((n) % (100)))]) (M' := (I, J, Rx R, N, G)) rfl ?_
      refine XP_icN (x := (n) % (100)) (y := 40) rfl (by omega) (by omega) (fun (b11 : 40 < (n) % (100)) => absurd b11 (by omega)) (fun (b11 : (n) % (100) ≤ 40) => ?_)
      refine XP_n 6 (pc' := 19) (ls' := [.ref (99), .int (w), .int (a), .int (b), .int (nI (n)), .int (nI (1))]) (st' := [.int (nI (99)), .int (nI (1)), .int (w)]) (M' := (I, J, Rx R, N, G)) rfl ?_
      refine XP_pure rfl rfl (w_M X _ _ 1 99 _) ?_
      refine XP_s rfl ?_
      refine XP_beq (fun b20 => absurd g0 b20) (fun b20 => ?_)
      refine XP_n 3 (pc' := 24) (ls' := [.ref (99), .int (w), .int (a), .int (b), .int (nI (n)), .int (nI (1))]) (st' := [.int (nI (30)), .int (nI (0)), .int (a)]) (M' := (I, J, Rx R, N, G)) rfl ?_
      refine XP_pure rfl rfl (w_M X _ _ 0 30 _) ?_
      refine XP_s rfl ?_
      refine XP_beq (fun b25 => absurd g1 b25) (fun b25 => ?_)
      refine XP_n 3 (pc' := 29) (ls' := [.ref (99), .int (w), .int (a), .int (b), .int (nI (n)), .int (nI (1))]) (st' := [.int (nI (40)), .int (nI (0)), .int (b)]) (M' := (I, J, Rx R, N, G)) rfl ?_
      refine XP_pure rfl rfl (w_M X _ _ 0 40 _) ?_
      refine XP_s rfl ?_
      refine XP_beq (fun b30 => ?_) (fun b30 => absurd b30 g2)
      refine XP_n 1 (pc' := 34) (ls' := [.ref (99), .int (w), .int (a), .int (b), .int (nI (n)), .int (nI (1))]) (st' := [.int (cI (-2))]) (M' := (I, J, Rx R, N, G)) rfl ?_
      exact XP_ret rfl ⟨rfl, _, rfl, hS, FrC.rf⟩
  have hw : iN 1 99 w := by
    obtain ⟨n, a, b, c, -⟩ := iv_nat g0 (by omega) (by omega)
    exact ⟨n, a, b, c⟩
  have ha : iN 0 30 a := by
    obtain ⟨n, a, b, c, -⟩ := iv_nat g1 (by omega) (by omega)
    exact ⟨n, a, b, c⟩
  have hb : iN 0 40 b := by
    obtain ⟨n, a, b, c, -⟩ := iv_nat g2 (by omega) (by omega)
    exact ⟨n, a, b, c⟩
  by_cases g6 : cP s < 4
  rotate_left
  · skip
    refine ⟨cI (-4), s, hW, Up.rf hch, fun X d I J R N G hI => ?_, fun X d I J R N G hS => ?_⟩
    · have hL := hI.2.2.1
      have k4 : I 1 4 = nI (cP s) := (hI.1 1 4 99 4 rfl).trans hW.p.1
      unfold TP
      show XP X _ k_H_path 0 [.ref (0), .int (w), .int (a), .int (b), .int (nI (n))] [] _ _
      refine XP_n 1 (pc' := 1) (ls' := [.ref (0), .int (w), .int (a), .int (b), .int (nI (n))]) (st' := [.int (w)]) (M' := (I, J, Rx R, N, G)) rfl ?_
      refine XP_pure rfl rfl (t_H_isWeight X _ _ _) ?_
      refine XP_s rfl ?_
      refine XP_beq (fun b2 => absurd g0 b2) (fun b2 => ?_)
      refine XP_n 3 (pc' := 6) (ls' := [.ref (0), .int (w), .int (a), .int (b), .int (nI (n))]) (st' := [.int (nI (30)), .int (nI (0)), .int (a)]) (M' := (I, J, Rx R, N, G)) rfl ?_
      refine XP_pure rfl rfl (w_H X _ _ 0 30 _) ?_
      refine XP_s rfl ?_
      refine XP_beq (fun b7 => absurd g1 b7) (fun b7 => ?_)
      refine XP_n 3 (pc' := 11) (ls' := [.ref (0), .int (w), .int (a), .int (b), .int (nI (n))]) (st' := [.int (nI (40)), .int (nI (0)), .int (b)]) (M' := (I, J, Rx R, N, G)) rfl ?_
      refine XP_pure rfl rfl (w_H X _ _ 0 40 _) ?_
      refine XP_s rfl ?_
      refine XP_bne (fun b12 => ?_) (fun b12 => absurd g2 b12)
      refine XP_n 1 (pc' := 16) (ls' := [.ref (0), .int (w), .int (a), .int (b), .int (nI (n))]) (st' := [.int (nI (n))]) (M' := (I, J, Rx R, N, G)) rfl ?_
      refine XP_ifN (x := n)  rfl (by omega) (fun (b16 : n < 0) => absurd b16 (by omega)) (fun (b16 : 0 ≤ n) => ?_)
      refine XP_n 2 (pc' := 19) (ls' := [.ref (0), .int (w), .int (a), .int (b), .int (nI (n))]) (st' := [.int (nI (100)), .int (nI (n))]) (M' := (I, J, Rx R, N, G)) rfl ?_
      refine XP_idivN (a := n) (b := 100) rfl (by omega) (by omega) (by omega) ?_
      refine XP_n 1 (pc' := 21) (ls' := [.ref (0), .int (w), .int (a), .int (b), .int (nI (n))]) (st' := [.int (nI (15)), .int (nI ((n) / (100)))]) (M' := (I, J, Rx R, N, G)) rfl ?_
      refine XP_icN (x := (n) / (100)) (y := 15) rfl (by omega) (by omega) (fun (b21 : 15 < (n) / (100)) => absurd b21 (by omega)) (fun (b21 : (n) / (100) ≤ 15) => ?_)
      refine XP_n 2 (pc' := 24) (ls' := [.ref (0), .int (w), .int (a), .int (b), .int (nI (n))]) (st' := [.int (nI (100)), .int (nI (n))]) (M' := (I, J, Rx R, N, G)) rfl ?_
      refine XP_iremN (a := n) (b := 100) rfl (by omega) (by omega) (by omega) ?_
      refine XP_n 1 (pc' := 26) (ls' := [.ref (0), .int (w), .int (a), .int (b), .int (nI (n))]) (st' := [.int (nI (40)), .int (nI ((n) % (100)))]) (M' := (I, J, Rx R, N, G)) rfl ?_
      refine XP_icN (x := (n) % (100)) (y := 40) rfl (by omega) (by omega) (fun (b26 : (n) % (100) ≤ 40) => ?_) (fun (b26 : 40 < (n) % (100)) => absurd b26 (by omega))
      refine XP_n 6 (pc' := 35) (ls' := [.ref (0), .int (w), .int (a), .int (b), .int (nI (n))]) (st' := [.int (nI (n)), .int (b), .int (a), .int (w), .ref (1)]) (M' := (I, J, Rx R, N, G)) rfl ?_
      refine XP_pure rfl rfl (c_addPF (by omega) k4 _ _ _ _) ?_
      exact XP_ret rfl ⟨rfl, _, rfl, hI.1.C, hI.2.2.1, hI.2.2.2.1, FrM.rf⟩
    · have k4 : I 99 4 = nI (cP s) := (hS 99 4 99 4 rfl).trans hW.p.1
      unfold TP
      show XP X _ k_M_path 0 [.ref (99), .int (w), .int (a), .int (b), .int (nI (n)), xj] [] _ _
      refine XP_n 1 (pc' := 1) (ls' := [.ref (99), .int (w), .int (a), .int (b), .int (nI (n)), xj]) (st' := [.int (nI (n))]) (M' := (I, J, Rx R, N, G)) rfl ?_
      refine XP_ifN (x := n)  rfl (by omega) (fun (b1 : n < 0) => absurd b1 (by omega)) (fun (b1 : 0 ≤ n) => ?_)
      refine XP_n 2 (pc' := 4) (ls' := [.ref (99), .int (w), .int (a), .int (b), .int (nI (n)), xj]) (st' := [.int (nI (100)), .int (nI (n))]) (M' := (I, J, Rx R, N, G)) rfl ?_
      refine XP_idivN (a := n) (b := 100) rfl (by omega) (by omega) (by omega) ?_
      refine XP_n 1 (pc' := 6) (ls' := [.ref (99), .int (w), .int (a), .int (b), .int (nI (n)), xj]) (st' := [.int (nI (15)), .int (nI ((n) / (100)))]) (M' := (I, J, Rx R, N, G)) rfl ?_
      refine XP_icN (x := (n) / (100)) (y := 15) rfl (by omega) (by omega) (fun (b6 : 15 < (n) / (100)) => absurd b6 (by omega)) (fun (b6 : (n) / (100) ≤ 15) => ?_)
      refine XP_n 2 (pc' := 9) (ls' := [.ref (99), .int (w), .int (a), .int (b), .int (nI (n)), xj]) (st' := [.int (nI (100)), .int (nI (n))]) (M' := (I, J, Rx R, N, G)) rfl ?_
      refine XP_iremN (a := n) (b := 100) rfl (by omega) (by omega) (by omega) ?_
      refine XP_n 1 (pc' := 11) (ls' := [.ref (99), .int (w), .int (a), .int (b), .int (nI (n)), xj]) (st' := [.int (nI (40)), .int (nI ((n) % (100)))]) (M' := (I, J, Rx R, N, G)) rfl ?_
      refine XP_icN (x := (n) % (100)) (y := 40) rfl (by omega) (by omega) (fun (b11 : 40 < (n) % (100)) => absurd b11 (by omega)) (fun (b11 : (n) % (100) ≤ 40) => ?_)
      refine XP_n 6 (pc' := 19) (ls' := [.ref (99), .int (w), .int (a), .int (b), .int (nI (n)), .int (nI (1))]) (st' := [.int (nI (99)), .int (nI (1)), .int (w)]) (M' := (I, J, Rx R, N, G)) rfl ?_
      refine XP_pure rfl rfl (w_M X _ _ 1 99 _) ?_
      refine XP_s rfl ?_
      refine XP_beq (fun b20 => absurd g0 b20) (fun b20 => ?_)
      refine XP_n 3 (pc' := 24) (ls' := [.ref (99), .int (w), .int (a), .int (b), .int (nI (n)), .int (nI (1))]) (st' := [.int (nI (30)), .int (nI (0)), .int (a)]) (M' := (I, J, Rx R, N, G)) rfl ?_
      refine XP_pure rfl rfl (w_M X _ _ 0 30 _) ?_
      refine XP_s rfl ?_
      refine XP_beq (fun b25 => absurd g1 b25) (fun b25 => ?_)
      refine XP_n 3 (pc' := 29) (ls' := [.ref (99), .int (w), .int (a), .int (b), .int (nI (n)), .int (nI (1))]) (st' := [.int (nI (40)), .int (nI (0)), .int (b)]) (M' := (I, J, Rx R, N, G)) rfl ?_
      refine XP_pure rfl rfl (w_M X _ _ 0 40 _) ?_
      refine XP_s rfl ?_
      refine XP_beq (fun b30 => absurd g2 b30) (fun b30 => ?_)
      refine XP_n 1 (pc' := 32) (ls' := [.ref (99), .int (w), .int (a), .int (b), .int (nI (n)), .int (nI (1))]) (st' := [.int (nI (1))]) (M' := (I, J, Rx R, N, G)) rfl ?_
      refine XP_ifN (x := 1)  rfl (by omega) (fun (b32 : ¬ 1 = 0) => ?_) (fun (b32 : 1 = 0) => absurd b32 (by omega))
      refine XP_n 2 (pc' := 37) (ls' := [.ref (99), .int (w), .int (a), .int (b), .int (nI (n)), .int (nI (1))]) (st' := [.int (I 99 4)]) (M' := (I, J, Rx R, N, G)) rfl ?_
      rw [k4]
      refine XP_n 1 (pc' := 38) (ls' := [.ref (99), .int (w), .int (a), .int (b), .int (nI (n)), .int (nI (1))]) (st' := [.int (nI (4)), .int (nI (cP s))]) (M' := (I, J, Rx R, N, G)) rfl ?_
      refine XP_icN (x := cP s) (y := 4) rfl (by omega) (by omega) (fun (b38 : ¬ cP s = 4) => absurd b38 (by omega)) (fun (b38 : cP s = 4) => ?_)
      refine XP_n 1 (pc' := 40) (ls' := [.ref (99), .int (w), .int (a), .int (b), .int (nI (n)), .int (nI (1))]) (st' := [.int (cI (-4))]) (M' := (I, J, Rx R, N, G)) rfl ?_
      exact XP_ret rfl ⟨rfl, _, rfl, hS, FrC.rf⟩
  refine ⟨nI (cP s), (rw2 (rw2 (rw2 (rw2 (rw2 (rw2 (rw2 s 100 (cP s) (w)) 101 (cP s) (a)) 102 (cP s) (b)) 103 (cP s) (nI (n / 100))) 104 (cP s) (nI (n % 100))) 99 4 (nI (cP s + 1))) 1 15 (nI (wN (s 1 15) + 1))), Wf_path _ hW g6 hw ha hb ⟨_, Nat.zero_le _, g4, rfl⟩ ⟨_, Nat.zero_le _, g5, rfl⟩, ⟨_, rfl, Nat.le_succ _, by omega, rfl, rfl⟩, fun X d I J R N G hI => ?_, fun X d I J R N G hS => ?_⟩
  · have hL := hI.2.2.1
    have k4 : I 1 4 = nI (cP s) := (hI.1 1 4 99 4 rfl).trans hW.p.1
    have k15 : I 1 15 = nI (wN (s 1 15)) := (hI.1 1 15 1 15 rfl).trans hc1
    unfold TP
    show XP X _ k_H_path 0 [.ref (0), .int (w), .int (a), .int (b), .int (nI (n))] [] _ _
    refine XP_n 1 (pc' := 1) (ls' := [.ref (0), .int (w), .int (a), .int (b), .int (nI (n))]) (st' := [.int (w)]) (M' := (I, J, Rx R, N, G)) rfl ?_
    refine XP_pure rfl rfl (t_H_isWeight X _ _ _) ?_
    refine XP_s rfl ?_
    refine XP_beq (fun b2 => absurd g0 b2) (fun b2 => ?_)
    refine XP_n 3 (pc' := 6) (ls' := [.ref (0), .int (w), .int (a), .int (b), .int (nI (n))]) (st' := [.int (nI (30)), .int (nI (0)), .int (a)]) (M' := (I, J, Rx R, N, G)) rfl ?_
    refine XP_pure rfl rfl (w_H X _ _ 0 30 _) ?_
    refine XP_s rfl ?_
    refine XP_beq (fun b7 => absurd g1 b7) (fun b7 => ?_)
    refine XP_n 3 (pc' := 11) (ls' := [.ref (0), .int (w), .int (a), .int (b), .int (nI (n))]) (st' := [.int (nI (40)), .int (nI (0)), .int (b)]) (M' := (I, J, Rx R, N, G)) rfl ?_
    refine XP_pure rfl rfl (w_H X _ _ 0 40 _) ?_
    refine XP_s rfl ?_
    refine XP_bne (fun b12 => ?_) (fun b12 => absurd g2 b12)
    refine XP_n 1 (pc' := 16) (ls' := [.ref (0), .int (w), .int (a), .int (b), .int (nI (n))]) (st' := [.int (nI (n))]) (M' := (I, J, Rx R, N, G)) rfl ?_
    refine XP_ifN (x := n)  rfl (by omega) (fun (b16 : n < 0) => absurd b16 (by omega)) (fun (b16 : 0 ≤ n) => ?_)
    refine XP_n 2 (pc' := 19) (ls' := [.ref (0), .int (w), .int (a), .int (b), .int (nI (n))]) (st' := [.int (nI (100)), .int (nI (n))]) (M' := (I, J, Rx R, N, G)) rfl ?_
    refine XP_idivN (a := n) (b := 100) rfl (by omega) (by omega) (by omega) ?_
    refine XP_n 1 (pc' := 21) (ls' := [.ref (0), .int (w), .int (a), .int (b), .int (nI (n))]) (st' := [.int (nI (15)), .int (nI ((n) / (100)))]) (M' := (I, J, Rx R, N, G)) rfl ?_
    refine XP_icN (x := (n) / (100)) (y := 15) rfl (by omega) (by omega) (fun (b21 : 15 < (n) / (100)) => absurd b21 (by omega)) (fun (b21 : (n) / (100) ≤ 15) => ?_)
    refine XP_n 2 (pc' := 24) (ls' := [.ref (0), .int (w), .int (a), .int (b), .int (nI (n))]) (st' := [.int (nI (100)), .int (nI (n))]) (M' := (I, J, Rx R, N, G)) rfl ?_
    refine XP_iremN (a := n) (b := 100) rfl (by omega) (by omega) (by omega) ?_
    refine XP_n 1 (pc' := 26) (ls' := [.ref (0), .int (w), .int (a), .int (b), .int (nI (n))]) (st' := [.int (nI (40)), .int (nI ((n) % (100)))]) (M' := (I, J, Rx R, N, G)) rfl ?_
    refine XP_icN (x := (n) % (100)) (y := 40) rfl (by omega) (by omega) (fun (b26 : (n) % (100) ≤ 40) => ?_) (fun (b26 : 40 < (n) % (100)) => absurd b26 (by omega))
    refine XP_n 6 (pc' := 35) (ls' := [.ref (0), .int (w), .int (a), .int (b), .int (nI (n))]) (st' := [.int (nI (n)), .int (b), .int (a), .int (w), .ref (1)]) (M' := (I, J, Rx R, N, G)) rfl ?_
    refine XP_call rfl rfl (c_addP g6 k4 k15 _ _ _ hn) ?_
    rintro v1 M1 ⟨rfl, rfl⟩
    exact XP_ret rfl ⟨rfl, _, rfl, (StC_w (StC_w (StC_w (StC_w (StC_w (StC_w (StC_w hI.1.C rfl) rfl) rfl) rfl) rfl) rfl) rfl), agrl_Lk (s := s) ⟨fun k hk => by rw [rw2_ro (by omega), rw2_ro (by omega), rw2_ro (by omega), rw2_ro (by omega), rw2_ro (by omega), rw2_ro (by omega), rw2_ro (by omega)], rfl, rfl, rfl, fun e => e, rfl, rfl, rfl⟩ hI.2.2.1, (Cch.new (Cch.w (Cch.w (Cch.w (Cch.w (Cch.w (Cch.w (Cch.w hI.2.2.2.1 hW.p.2 (by omega)) hW.p.2 (by omega)) hW.p.2 (by omega)) hW.p.2 (by omega)) hW.p.2 (by omega)) hW.p.2 (by omega)) hW.p.2 (by omega)) (show wN (nI (cP s + 1)) ≤ 4 by rw [wN_nI (by omega)]; omega) rfl (Nat.lt_succ_self _) (by omega)), (FrM.w (FrM.w (FrM.w (FrM.w (FrM.w (FrM.w (FrM.w FrM.rf rfl) rfl) rfl) rfl) rfl) rfl) rfl)⟩
  · have k4 : I 99 4 = nI (cP s) := (hS 99 4 99 4 rfl).trans hW.p.1
    unfold TP
    show XP X _ k_M_path 0 [.ref (99), .int (w), .int (a), .int (b), .int (nI (n)), xj] [] _ _
    refine XP_n 1 (pc' := 1) (ls' := [.ref (99), .int (w), .int (a), .int (b), .int (nI (n)), xj]) (st' := [.int (nI (n))]) (M' := (I, J, Rx R, N, G)) rfl ?_
    refine XP_ifN (x := n)  rfl (by omega) (fun (b1 : n < 0) => absurd b1 (by omega)) (fun (b1 : 0 ≤ n) => ?_)
    refine XP_n 2 (pc' := 4) (ls' := [.ref (99), .int (w), .int (a), .int (b), .int (nI (n)), xj]) (st' := [.int (nI (100)), .int (nI (n))]) (M' := (I, J, Rx R, N, G)) rfl ?_
    refine XP_idivN (a := n) (b := 100) rfl (by omega) (by omega) (by omega) ?_
    refine XP_n 1 (pc' := 6) (ls' := [.ref (99), .int (w), .int (a), .int (b), .int (nI (n)), xj]) (st' := [.int (nI (15)), .int (nI ((n) / (100)))]) (M' := (I, J, Rx R, N, G)) rfl ?_
    refine XP_icN (x := (n) / (100)) (y := 15) rfl (by omega) (by omega) (fun (b6 : 15 < (n) / (100)) => absurd b6 (by omega)) (fun (b6 : (n) / (100) ≤ 15) => ?_)
    refine XP_n 2 (pc' := 9) (ls' := [.ref (99), .int (w), .int (a), .int (b), .int (nI (n)), xj]) (st' := [.int (nI (100)), .int (nI (n))]) (M' := (I, J, Rx R, N, G)) rfl ?_
    refine XP_iremN (a := n) (b := 100) rfl (by omega) (by omega) (by omega) ?_
    refine XP_n 1 (pc' := 11) (ls' := [.ref (99), .int (w), .int (a), .int (b), .int (nI (n)), xj]) (st' := [.int (nI (40)), .int (nI ((n) % (100)))]) (M' := (I, J, Rx R, N, G)) rfl ?_
    refine XP_icN (x := (n) % (100)) (y := 40) rfl (by omega) (by omega) (fun (b11 : 40 < (n) % (100)) => absurd b11 (by omega)) (fun (b11 : (n) % (100) ≤ 40) => ?_)
    refine XP_n 6 (pc' := 19) (ls' := [.ref (99), .int (w), .int (a), .int (b), .int (nI (n)), .int (nI (1))]) (st' := [.int (nI (99)), .int (nI (1)), .int (w)]) (M' := (I, J, Rx R, N, G)) rfl ?_
    refine XP_pure rfl rfl (w_M X _ _ 1 99 _) ?_
    refine XP_s rfl ?_
    refine XP_beq (fun b20 => absurd g0 b20) (fun b20 => ?_)
    refine XP_n 3 (pc' := 24) (ls' := [.ref (99), .int (w), .int (a), .int (b), .int (nI (n)), .int (nI (1))]) (st' := [.int (nI (30)), .int (nI (0)), .int (a)]) (M' := (I, J, Rx R, N, G)) rfl ?_
    refine XP_pure rfl rfl (w_M X _ _ 0 30 _) ?_
    refine XP_s rfl ?_
    refine XP_beq (fun b25 => absurd g1 b25) (fun b25 => ?_)
    refine XP_n 3 (pc' := 29) (ls' := [.ref (99), .int (w), .int (a), .int (b), .int (nI (n)), .int (nI (1))]) (st' := [.int (nI (40)), .int (nI (0)), .int (b)]) (M' := (I, J, Rx R, N, G)) rfl ?_
    refine XP_pure rfl rfl (w_M X _ _ 0 40 _) ?_
    refine XP_s rfl ?_
    refine XP_beq (fun b30 => absurd g2 b30) (fun b30 => ?_)
    refine XP_n 1 (pc' := 32) (ls' := [.ref (99), .int (w), .int (a), .int (b), .int (nI (n)), .int (nI (1))]) (st' := [.int (nI (1))]) (M' := (I, J, Rx R, N, G)) rfl ?_
    refine XP_ifN (x := 1)  rfl (by omega) (fun (b32 : ¬ 1 = 0) => ?_) (fun (b32 : 1 = 0) => absurd b32 (by omega))
    refine XP_n 2 (pc' := 37) (ls' := [.ref (99), .int (w), .int (a), .int (b), .int (nI (n)), .int (nI (1))]) (st' := [.int (I 99 4)]) (M' := (I, J, Rx R, N, G)) rfl ?_
    rw [k4]
    refine XP_n 1 (pc' := 38) (ls' := [.ref (99), .int (w), .int (a), .int (b), .int (nI (n)), .int (nI (1))]) (st' := [.int (nI (4)), .int (nI (cP s))]) (M' := (I, J, Rx R, N, G)) rfl ?_
    refine XP_icN (x := cP s) (y := 4) rfl (by omega) (by omega) (fun (b38 : ¬ cP s = 4) => ?_) (fun (b38 : cP s = 4) => absurd b38 (by omega))
    refine XP_n 4 (pc' := 45) (ls' := [.ref (99), .int (w), .int (a), .int (b), .int (nI (n)), .int (nI (1))]) (st' := [.int (I 99 4), .ref (100)]) (M' := (I, J, Rx R, N, G)) rfl ?_
    rw [k4]
    refine XP_n 1 (pc' := 46) (ls' := [.ref (99), .int (w), .int (a), .int (b), .int (nI (n)), .int (nI (1))]) (st' := [.int (w), .int (nI (cP s)), .ref (100)]) (M' := (I, J, Rx R, N, G)) rfl ?_
    refine XP_iast rfl rfl (show cP s < 4 by omega) rfl (by omega) ?_
    refine XP_n 4 (pc' := 51) (ls' := [.ref (99), .int (w), .int (a), .int (b), .int (nI (n)), .int (nI (1))]) (st' := [.int (I 99 4), .ref (101)]) (M' := ((rw2 I 100 (cP s) (w)), J, Rx R, N, G)) rfl ?_
    rw [k4]
    refine XP_n 1 (pc' := 52) (ls' := [.ref (99), .int (w), .int (a), .int (b), .int (nI (n)), .int (nI (1))]) (st' := [.int (a), .int (nI (cP s)), .ref (101)]) (M' := ((rw2 I 100 (cP s) (w)), J, Rx R, N, G)) rfl ?_
    refine XP_iast rfl rfl (show cP s < 4 by omega) rfl (by omega) ?_
    refine XP_n 4 (pc' := 57) (ls' := [.ref (99), .int (w), .int (a), .int (b), .int (nI (n)), .int (nI (1))]) (st' := [.int (I 99 4), .ref (102)]) (M' := ((rw2 (rw2 I 100 (cP s) (w)) 101 (cP s) (a)), J, Rx R, N, G)) rfl ?_
    rw [k4]
    refine XP_n 1 (pc' := 58) (ls' := [.ref (99), .int (w), .int (a), .int (b), .int (nI (n)), .int (nI (1))]) (st' := [.int (b), .int (nI (cP s)), .ref (102)]) (M' := ((rw2 (rw2 I 100 (cP s) (w)) 101 (cP s) (a)), J, Rx R, N, G)) rfl ?_
    refine XP_iast rfl rfl (show cP s < 4 by omega) rfl (by omega) ?_
    refine XP_n 4 (pc' := 63) (ls' := [.ref (99), .int (w), .int (a), .int (b), .int (nI (n)), .int (nI (1))]) (st' := [.int (I 99 4), .ref (103)]) (M' := ((rw2 (rw2 (rw2 I 100 (cP s) (w)) 101 (cP s) (a)) 102 (cP s) (b)), J, Rx R, N, G)) rfl ?_
    rw [k4]
    refine XP_n 2 (pc' := 65) (ls' := [.ref (99), .int (w), .int (a), .int (b), .int (nI (n)), .int (nI (1))]) (st' := [.int (nI (100)), .int (nI (n)), .int (nI (cP s)), .ref (103)]) (M' := ((rw2 (rw2 (rw2 I 100 (cP s) (w)) 101 (cP s) (a)) 102 (cP s) (b)), J, Rx R, N, G)) rfl ?_
    refine XP_idivN (a := n) (b := 100) rfl (by omega) (by omega) (by omega) ?_
    refine XP_iast rfl rfl (show cP s < 4 by omega) rfl (by omega) ?_
    refine XP_n 4 (pc' := 71) (ls' := [.ref (99), .int (w), .int (a), .int (b), .int (nI (n)), .int (nI (1))]) (st' := [.int (I 99 4), .ref (104)]) (M' := ((rw2 (rw2 (rw2 (rw2 I 100 (cP s) (w)) 101 (cP s) (a)) 102 (cP s) (b)) 103 (cP s) (nI ((n) / (100)))), J, Rx R, N, G)) rfl ?_
    rw [k4]
    refine XP_n 2 (pc' := 73) (ls' := [.ref (99), .int (w), .int (a), .int (b), .int (nI (n)), .int (nI (1))]) (st' := [.int (nI (100)), .int (nI (n)), .int (nI (cP s)), .ref (104)]) (M' := ((rw2 (rw2 (rw2 (rw2 I 100 (cP s) (w)) 101 (cP s) (a)) 102 (cP s) (b)) 103 (cP s) (nI ((n) / (100)))), J, Rx R, N, G)) rfl ?_
    refine XP_iremN (a := n) (b := 100) rfl (by omega) (by omega) (by omega) ?_
    refine XP_iast rfl rfl (show cP s < 4 by omega) rfl (by omega) ?_
    refine XP_n 3 (pc' := 78) (ls' := [.ref (99), .int (w), .int (a), .int (b), .int (nI (n)), .int (nI (1))]) (st' := [.int (I 99 4), .ref (99)]) (M' := ((rw2 (rw2 (rw2 (rw2 (rw2 I 100 (cP s) (w)) 101 (cP s) (a)) 102 (cP s) (b)) 103 (cP s) (nI ((n) / (100)))) 104 (cP s) (nI ((n) % (100)))), J, Rx R, N, G)) rfl ?_
    rw [k4]
    refine XP_n 2 (pc' := 80) (ls' := [.ref (99), .int (w), .int (a), .int (b), .int (nI (n)), .int (nI (1))]) (st' := [.int ((nI (cP s)) + (nI (1))), .ref (99)]) (M' := ((rw2 (rw2 (rw2 (rw2 (rw2 I 100 (cP s) (w)) 101 (cP s) (a)) 102 (cP s) (b)) 103 (cP s) (nI ((n) / (100)))) 104 (cP s) (nI ((n) % (100)))), J, Rx R, N, G)) rfl ?_
    rw [show (nI (cP s)) + (nI (1)) = nI (cP s + 1) from nI_addE (rfl) (rfl)]
    refine XP_n 5 (pc' := 85) (ls' := [.ref (99), .int (w), .int (a), .int (b), .int (nI (n)), .int (nI (1))]) (st' := [.int ((nI (cP s + 1)) - (nI (1)))]) (M' := ((rw2 (rw2 (rw2 (rw2 (rw2 (rw2 I 100 (cP s) (w)) 101 (cP s) (a)) 102 (cP s) (b)) 103 (cP s) (nI ((n) / (100)))) 104 (cP s) (nI ((n) % (100)))) 99 4 (nI (cP s + 1))), J, Rx R, N, G)) rfl ?_
    rw [show (nI (cP s + 1)) - (nI (1)) = nI (cP s + 1 - 1) from nI_subE (rfl) (rfl) (by omega)]
    exact XP_ret rfl ⟨rfl, _, rfl, (StM_sC (StM_w (StM_w (StM_w (StM_w (StM_w (StM_w hS rfl) rfl) rfl) rfl) rfl) rfl) rfl), (FrC.w (FrC.w (FrC.w (FrC.w (FrC.w (FrC.w FrC.rf rfl) rfl) rfl) rfl) rfl) rfl)⟩
