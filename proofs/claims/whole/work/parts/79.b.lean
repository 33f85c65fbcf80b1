/-! drawn: lots -/
def fiB (f : Nat → Nat) (x : Nat) : Nat → Nat → Nat
  | 0, k => k
  | n + 1, k => if x < sumN f (k + 1) then k else fiB f x n (k + 1)
def fiV (f : Nat → Nat) (x c n k : Nat) : Int32 := if fiB f x n k < c then nI (fiB f x n k) else cI (-1)
def drL (x : Nat) : Nat := x * 48271 % 2147483647
theorem fiB_le (f : Nat → Nat) (x : Nat) : ∀ n k, fiB f x n k ≤ k + n
  | 0, k => Nat.le_refl _
  | n + 1, k => by
    have := fiB_le f x n (k + 1)
    unfold fiB
    split <;> omega
theorem fiB_lt {f : Nat → Nat} {x c : Nat} (hx : x < sumN f c) : ∀ n k, k + n = c → sumN f k ≤ x → fiB f x n k < c
  | 0, k, h, h1 => by
    have e : k = c := by omega
    rw [e] at h1
    omega
  | n + 1, k, h, h1 => by
    unfold fiB
    split
    · omega
    · exact fiB_lt hx n (k + 1) (by omega) (by omega)
section
variable {X : hX} {d : Nat} {s I : Nat → Nat → Int32} {J : Nat → Nat → Int64} {R : Nat → Nat → Option Nat} {N : Nat → Nat} {G : hG}
theorem l_pbl (hS : St s I) (hW : Wf s) {x : Nat} (hx : x < 1000) : ∀ (n i : Nat), i + n = cP s → XP X d k_Coast_pathByLot 4 [.ref (1), .int (nI (x)), .int (nI (sumN (rWt s) (i))), .int (nI (i))] [] (I, J, Rx R, N, G) (Ret (.int (fiV (rWt s) x (cP s) n i)) (I, J, Rx R, N, G)) := by
  have hp4 := hW.p.2
  have hn6 := hW.ns.2
  intro n
  induction n with
  | zero =>
    rintro i hi
    obtain rfl : i = cP s := by omega
    have es : fiV (rWt s) x (cP s) 0 (cP s) = cI (-1) := if_neg (Nat.lt_irrefl _)
    rw [es]
    have hb : sumN (rWt s) (cP s) ≤ 100000 := by
      have := sumN_le (f := rWt s) (n := cP s) (c := 1000) (fun j hj => by have := hW.pw hj; omega)
      omega
    refine XP_n 2 (pc' := 6) (ls' := [.ref (1), .int (nI (x)), .int (nI (sumN (rWt s) (cP s))), .int (nI (cP s))]) (st' := [.ref (1), .int (nI (cP s))]) (M' := (I, J, Rx R, N, G)) rfl ?_
    refine XP_geti hS rfl rfl rfl ?_
    rw [hW.p.1]
    refine XP_icN (x := cP s) (y := cP s) rfl (by omega) (by omega) (fun (b7 : cP s ≤ cP s) => ?_) (fun (b7 : cP s < cP s) => absurd b7 (by omega))
    refine XP_n 1 (pc' := 26) (ls' := [.ref (1), .int (nI (x)), .int (nI (sumN (rWt s) (cP s))), .int (nI (cP s))]) (st' := [.int (cI (-1))]) (M' := (I, J, Rx R, N, G)) rfl ?_
    exact XP_ret rfl ⟨rfl, rfl⟩
  | succ n ih =>
    rintro i hi
    have hb : sumN (rWt s) i ≤ 100000 := by
      have := sumN_le (f := rWt s) (n := i) (c := 1000) (fun j hj => by have := hW.pw (show j < cP s by omega); omega)
      omega
    have hb2 := hW.pw (show i < cP s by omega)
    have e1 : sumN (rWt s) (i + 1) = sumN (rWt s) i + rWt s i := rfl
    have eb : fiB (rWt s) x (n + 1) i = (if x < sumN (rWt s) (i + 1) then i else fiB (rWt s) x n (i + 1)) := rfl
    have es1 : x < sumN (rWt s) (i + 1) → fiV (rWt s) x (cP s) (n + 1) i = nI i := fun h => by
      unfold fiV
      rw [eb, if_pos h]
      exact if_pos (by omega)
    have es2 : ¬ x < sumN (rWt s) (i + 1) → fiV (rWt s) x (cP s) (n + 1) i = fiV (rWt s) x (cP s) n (i + 1) := fun h => by
      unfold fiV
      rw [eb, if_neg h]
    refine XP_n 2 (pc' := 6) (ls' := [.ref (1), .int (nI (x)), .int (nI (sumN (rWt s) (i))), .int (nI (i))]) (st' := [.ref (1), .int (nI (i))]) (M' := (I, J, Rx R, N, G)) rfl ?_
    refine XP_geti hS rfl rfl rfl ?_
    rw [hW.p.1]
    refine XP_icN (x := i) (y := cP s) rfl (by omega) (by omega) (fun (b7 : cP s ≤ i) => absurd b7 (by omega)) (fun (b7 : i < cP s) => ?_)
    refine XP_n 2 (pc' := 10) (ls' := [.ref (1), .int (nI (x)), .int (nI (sumN (rWt s) (i))), .int (nI (i))]) (st' := [.int (nI (4)), .int (nI (i))]) (M' := (I, J, Rx R, N, G)) rfl ?_
    refine XP_icN (x := i) (y := 4) rfl (by omega) (by omega) (fun (b10 : 4 ≤ i) => absurd b10 (by omega)) (fun (b10 : i < 4) => ?_)
    refine XP_n 4 (pc' := 15) (ls' := [.ref (1), .int (nI (x)), .int (nI (sumN (rWt s) (i))), .int (nI (i))]) (st' := [.int (nI (i)), .ref (2), .int (nI (sumN (rWt s) (i)))]) (M' := (I, J, Rx R, N, G)) rfl ?_
    refine XP_iald hS rfl rfl (show i < 4 by omega) rfl (by omega) rfl ?_
    obtain ⟨hq21, hr21⟩ := hW.pw (show i < cP s by omega)
    rw [hq21]
    refine XP_n 2 (pc' := 18) (ls' := [.ref (1), .int (nI (x)), .int ((nI (sumN (rWt s) (i))) + (nI (rWt s i))), .int (nI (i))]) (st' := []) (M' := (I, J, Rx R, N, G)) rfl ?_
    rw [show (nI (sumN (rWt s) (i))) + (nI (rWt s i)) = nI (sumN (rWt s) (i) + rWt s i) from nI_addE (rfl) (rfl)]
    refine XP_n 2 (pc' := 20) (ls' := [.ref (1), .int (nI (x)), .int (nI (sumN (rWt s) (i) + rWt s i)), .int (nI (i))]) (st' := [.int (nI (x)), .int (nI (sumN (rWt s) (i) + rWt s i))]) (M' := (I, J, Rx R, N, G)) rfl ?_
    refine XP_icN (x := sumN (rWt s) (i) + rWt s i) (y := x) rfl (by omega) (by omega) (fun (b20 : sumN (rWt s) (i) + rWt s i ≤ x) => ?_) (fun (b20 : x < sumN (rWt s) (i) + rWt s i) => ?_)
    · refine XP_n 1 (pc' := 24) (ls' := [.ref (1), .int (nI (x)), .int (nI (sumN (rWt s) (i) + rWt s i)), .int (nI (i) + nI (1))]) (st' := []) (M' := (I, J, Rx R, N, G)) rfl ?_
      rw [show nI (i) + nI (1) = nI (i + 1) from nI_addE (rfl) rfl]
      refine XP_n 1 (pc' := 4) (ls' := [.ref (1), .int (nI (x)), .int (nI (sumN (rWt s) (i) + rWt s i)), .int (nI (i + 1))]) (st' := []) (M' := (I, J, Rx R, N, G)) rfl ?_
      rw [es2 (by omega)]
      exact ih (i + 1) (by omega)
    · refine XP_n 1 (pc' := 22) (ls' := [.ref (1), .int (nI (x)), .int (nI (sumN (rWt s) (i) + rWt s i)), .int (nI (i))]) (st' := [.int (nI (i))]) (M' := (I, J, Rx R, N, G)) rfl ?_
      rw [es1 (by omega)]
      exact XP_ret rfl ⟨rfl, rfl⟩
theorem c_pbl (hS : St s I) (hW : Wf s) {x : Nat} (hx : x < 1000) : TP X d n_Coast_pathByLot [.ref 1, .int (nI x)] (I, J, Rx R, N, G) (Ret (.int (fiV (rWt s) x (cP s) (cP s) 0)) (I, J, Rx R, N, G)) := by
  unfold TP
  show XP X _ k_Coast_pathByLot 0 [.ref (1), .int (nI (x)), xj, xj] [] _ _
  refine XP_n 4 (pc' := 4) (ls' := [.ref (1), .int (nI (x)), .int (nI (0)), .int (nI (0))]) (st' := []) (M' := (I, J, Rx R, N, G)) rfl ?_
  exact l_pbl hS hW hx (cP s) 0 (by omega)
theorem l_sbl (hS : St s I) (hW : Wf s) {x : Nat} (hx : x < 1000) : ∀ (n i : Nat), i + n = cS s → XP X d k_Coast_stormByLot 4 [.ref (1), .int (nI (x)), .int (nI (sumN (rOf s) (i))), .int (nI (i))] [] (I, J, Rx R, N, G) (Ret (.int (fiV (rOf s) x (cS s) n i)) (I, J, Rx R, N, G)) := by
  have hp4 := hW.p.2
  have hn6 := hW.ns.2
  intro n
  induction n with
  | zero =>
    rintro i hi
    obtain rfl : i = cS s := by omega
    have es : fiV (rOf s) x (cS s) 0 (cS s) = cI (-1) := if_neg (Nat.lt_irrefl _)
    rw [es]
    have hb : sumN (rOf s) (cS s) ≤ 100000 := by
      have := sumN_le (f := rOf s) (n := cS s) (c := 1000) (fun j hj => by have := hW.so hj; omega)
      omega
    refine XP_n 2 (pc' := 6) (ls' := [.ref (1), .int (nI (x)), .int (nI (sumN (rOf s) (cS s))), .int (nI (cS s))]) (st' := [.ref (1), .int (nI (cS s))]) (M' := (I, J, Rx R, N, G)) rfl ?_
    refine XP_geti hS rfl rfl rfl ?_
    rw [hW.ns.1]
    refine XP_icN (x := cS s) (y := cS s) rfl (by omega) (by omega) (fun (b7 : cS s ≤ cS s) => ?_) (fun (b7 : cS s < cS s) => absurd b7 (by omega))
    refine XP_n 1 (pc' := 26) (ls' := [.ref (1), .int (nI (x)), .int (nI (sumN (rOf s) (cS s))), .int (nI (cS s))]) (st' := [.int (cI (-1))]) (M' := (I, J, Rx R, N, G)) rfl ?_
    exact XP_ret rfl ⟨rfl, rfl⟩
  | succ n ih =>
    rintro i hi
    have hb : sumN (rOf s) i ≤ 100000 := by
      have := sumN_le (f := rOf s) (n := i) (c := 1000) (fun j hj => by have := hW.so (show j < cS s by omega); omega)
      omega
    have hb2 := hW.so (show i < cS s by omega)
    have e1 : sumN (rOf s) (i + 1) = sumN (rOf s) i + rOf s i := rfl
    have eb : fiB (rOf s) x (n + 1) i = (if x < sumN (rOf s) (i + 1) then i else fiB (rOf s) x n (i + 1)) := rfl
    have es1 : x < sumN (rOf s) (i + 1) → fiV (rOf s) x (cS s) (n + 1) i = nI i := fun h => by
      unfold fiV
      rw [eb, if_pos h]
      exact if_pos (by omega)
    have es2 : ¬ x < sumN (rOf s) (i + 1) → fiV (rOf s) x (cS s) (n + 1) i = fiV (rOf s) x (cS s) n (i + 1) := fun h => by
      unfold fiV
      rw [eb, if_neg h]
    refine XP_n 2 (pc' := 6) (ls' := [.ref (1), .int (nI (x)), .int (nI (sumN (rOf s) (i))), .int (nI (i))]) (st' := [.ref (1), .int (nI (i))]) (M' := (I, J, Rx R, N, G)) rfl ?_
    refine XP_geti hS rfl rfl rfl ?_
    rw [hW.ns.1]
    refine XP_icN (x := i) (y := cS s) rfl (by omega) (by omega) (fun (b7 : cS s ≤ i) => absurd b7 (by omega)) (fun (b7 : i < cS s) => ?_)
    refine XP_n 2 (pc' := 10) (ls' := [.ref (1), .int (nI (x)), .int (nI (sumN (rOf s) (i))), .int (nI (i))]) (st' := [.int (nI (6)), .int (nI (i))]) (M' := (I, J, Rx R, N, G)) rfl ?_
    refine XP_icN (x := i) (y := 6) rfl (by omega) (by omega) (fun (b10 : 6 ≤ i) => absurd b10 (by omega)) (fun (b10 : i < 6) => ?_)
    refine XP_n 4 (pc' := 15) (ls' := [.ref (1), .int (nI (x)), .int (nI (sumN (rOf s) (i))), .int (nI (i))]) (st' := [.int (nI (i)), .ref (8), .int (nI (sumN (rOf s) (i)))]) (M' := (I, J, Rx R, N, G)) rfl ?_
    refine XP_iald hS rfl rfl (show i < 6 by omega) rfl (by omega) rfl ?_
    obtain ⟨hq22, hr22⟩ := hW.so (show i < cS s by omega)
    rw [hq22]
    refine XP_n 2 (pc' := 18) (ls' := [.ref (1), .int (nI (x)), .int ((nI (sumN (rOf s) (i))) + (nI (rOf s i))), .int (nI (i))]) (st' := []) (M' := (I, J, Rx R, N, G)) rfl ?_
    rw [show (nI (sumN (rOf s) (i))) + (nI (rOf s i)) = nI (sumN (rOf s) (i) + rOf s i) from nI_addE (rfl) (rfl)]
    refine XP_n 2 (pc' := 20) (ls' := [.ref (1), .int (nI (x)), .int (nI (sumN (rOf s) (i) + rOf s i)), .int (nI (i))]) (st' := [.int (nI (x)), .int (nI (sumN (rOf s) (i) + rOf s i))]) (M' := (I, J, Rx R, N, G)) rfl ?_
    refine XP_icN (x := sumN (rOf s) (i) + rOf s i) (y := x) rfl (by omega) (by omega) (fun (b20 : sumN (rOf s) (i) + rOf s i ≤ x) => ?_) (fun (b20 : x < sumN (rOf s) (i) + rOf s i) => ?_)
    · refine XP_n 1 (pc' := 24) (ls' := [.ref (1), .int (nI (x)), .int (nI (sumN (rOf s) (i) + rOf s i)), .int (nI (i) + nI (1))]) (st' := []) (M' := (I, J, Rx R, N, G)) rfl ?_
      rw [show nI (i) + nI (1) = nI (i + 1) from nI_addE (rfl) rfl]
      refine XP_n 1 (pc' := 4) (ls' := [.ref (1), .int (nI (x)), .int (nI (sumN (rOf s) (i) + rOf s i)), .int (nI (i + 1))]) (st' := []) (M' := (I, J, Rx R, N, G)) rfl ?_
      rw [es2 (by omega)]
      exact ih (i + 1) (by omega)
    · refine XP_n 1 (pc' := 22) (ls' := [.ref (1), .int (nI (x)), .int (nI (sumN (rOf s) (i) + rOf s i)), .int (nI (i))]) (st' := [.int (nI (i))]) (M' := (I, J, Rx R, N, G)) rfl ?_
      rw [es1 (by omega)]
      exact XP_ret rfl ⟨rfl, rfl⟩
theorem c_sbl (hS : St s I) (hW : Wf s) {x : Nat} (hx : x < 1000) : TP X d n_Coast_stormByLot [.ref 1, .int (nI x)] (I, J, Rx R, N, G) (Ret (.int (fiV (rOf s) x (cS s) (cS s) 0)) (I, J, Rx R, N, G)) := by
  unfold TP
  show XP X _ k_Coast_stormByLot 0 [.ref (1), .int (nI (x)), xj, xj] [] _ _
  refine XP_n 4 (pc' := 4) (ls' := [.ref (1), .int (nI (x)), .int (nI (0)), .int (nI (0))]) (st' := []) (M' := (I, J, Rx R, N, G)) rfl ?_
  exact l_sbl hS hW hx (cS s) 0 (by omega)
theorem l_mpb (hS : St s I) (hW : Wf s) {lot : Int64} {x : Nat} (hx : x < cWA s) : ∀ (n i : Nat), i + n = cP s → sumN (rWt s) i ≤ x → XP X d k_M_pathBy 7 [.ref (99), .long (lot), xj, .long (lN (x - sumN (rWt s) (i))), xj, .int (nI (i))] [] (I, J, Rx R, N, G) (Ret (.int (nI (fiB (rWt s) x n i))) (I, J, Rx R, N, G)) := by
  have hp4 := hW.p.2
  have hwa := (cWA_le hW).1
  intro n
  induction n with
  | zero =>
    rintro i hi hle
    obtain rfl : i = cP s := by omega
    unfold cWA at hx
    omega
  | succ n ih =>
    rintro i hi hle
    have e1 : sumN (rWt s) (i + 1) = sumN (rWt s) i + rWt s i := rfl
    have hw99 := hW.pw (show i < cP s by omega)
    have eb : fiB (rWt s) x (n + 1) i = (if x < sumN (rWt s) (i + 1) then i else fiB (rWt s) x n (i + 1)) := rfl
    have ihh := ih (i + 1) (by omega)
    rw [e1] at eb ihh
    rw [show x - (sumN (rWt s) i + rWt s i) = x - sumN (rWt s) i - rWt s i by omega] at ihh
    refine XP_n 4 (pc' := 11) (ls' := [.ref (99), .long (lot), xj, .long (lN (x - sumN (rWt s) (i))), xj, .int (nI (i))]) (st' := [.int (nI (i)), .ref (100), .long (lN (x - sumN (rWt s) (i)))]) (M' := (I, J, Rx R, N, G)) rfl ?_
    refine XP_iald hS rfl rfl (show i < 4 by omega) rfl (by omega) rfl ?_
    obtain ⟨hq23, hr23⟩ := hW.pw (show i < cP s by omega)
    rw [hq23]
    refine XP_n 1 (pc' := 13) (ls' := [.ref (99), .long (lot), xj, .long (lN (x - sumN (rWt s) (i))), xj, .int (nI (i))]) (st' := [.long ((nI (rWt s i)).toInt64), .long (lN (x - sumN (rWt s) (i)))]) (M' := (I, J, Rx R, N, G)) rfl ?_
    rw [show (nI (rWt s i)).toInt64 = lN (rWt s i) from nI_lE (rfl) (by omega)]
    refine XP_lcN (x := x - sumN (rWt s) (i)) (y := rWt s i) rfl rfl (by omega) (by omega) (fun (b14 : x - sumN (rWt s) (i) < rWt s i) => ?_) (fun (b14 : rWt s i ≤ x - sumN (rWt s) (i)) => ?_)
    · refine XP_n 1 (pc' := 26) (ls' := [.ref (99), .long (lot), xj, .long (lN (x - sumN (rWt s) (i))), xj, .int (nI (i))]) (st' := [.int (nI (i))]) (M' := (I, J, Rx R, N, G)) rfl ?_
      rw [eb, if_pos (by omega)]
      exact XP_ret rfl ⟨rfl, rfl⟩
    · refine XP_n 4 (pc' := 19) (ls' := [.ref (99), .long (lot), xj, .long (lN (x - sumN (rWt s) (i))), xj, .int (nI (i))]) (st' := [.int (nI (i)), .ref (100), .long (lN (x - sumN (rWt s) (i)))]) (M' := (I, J, Rx R, N, G)) rfl ?_
      refine XP_iald hS rfl rfl (show i < 4 by omega) rfl (by omega) rfl ?_
      obtain ⟨hq24, hr24⟩ := hW.pw (show i < cP s by omega)
      rw [hq24]
      refine XP_n 3 (pc' := 23) (ls' := [.ref (99), .long (lot), xj, .long ((lN (x - sumN (rWt s) (i))) - ((nI (rWt s i)).toInt64)), xj, .int (nI (i))]) (st' := []) (M' := (I, J, Rx R, N, G)) rfl ?_
      rw [show (lN (x - sumN (rWt s) (i))) - ((nI (rWt s i)).toInt64) = lN (x - sumN (rWt s) (i) - (rWt s i)) from lN_subE (rfl) (nI_lE (rfl) (by omega)) (by omega)]
      refine XP_n 1 (pc' := 24) (ls' := [.ref (99), .long (lot), xj, .long (lN (x - sumN (rWt s) (i) - (rWt s i))), xj, .int (nI (i) + nI (1))]) (st' := []) (M' := (I, J, Rx R, N, G)) rfl ?_
      rw [show nI (i) + nI (1) = nI (i + 1) from nI_addE (rfl) rfl]
      refine XP_n 1 (pc' := 7) (ls' := [.ref (99), .long (lot), xj, .long (lN (x - sumN (rWt s) (i) - (rWt s i))), xj, .int (nI (i + 1))]) (st' := []) (M' := (I, J, Rx R, N, G)) rfl ?_
      rw [eb, if_neg (by omega)]
      exact ihh (by omega)
theorem m_pathBy (hS : St s I) (hW : Wf s) {lot : Nat} (hl : lot < 2147483648) (h0 : 0 < cP s) : TP X (d + 1) n_M_pathBy [.ref 99, .long (lN lot)] (I, J, Rx R, N, G) (Ret (.int (nI (fiB (rWt s) (lot % cWA s) (cP s) 0))) (I, J, Rx R, N, G)) := by
  have hwa := (cWA_le hW).1
  have hw1 := (cWA_le hW).2 h0
  have hlt : lot % cWA s < cWA s := Nat.mod_lt _ (by omega)
  unfold TP
  show XP X _ k_M_pathBy 0 [.ref (99), .long (lN (lot)), xj, xj, xj, xj] [] _ _
  refine XP_n 2 (pc' := 2) (ls' := [.ref (99), .long (lN (lot)), xj, xj, xj, xj]) (st' := [.ref (99), .long (lN (lot))]) (M' := (I, J, Rx R, N, G)) rfl ?_
  refine XP_pure rfl rfl (m_weights hS hW) ?_
  refine XP_lremN (a := lot) (b := cWA s) rfl (by omega) (by omega) (by omega) ?_
  refine XP_n 3 (pc' := 7) (ls' := [.ref (99), .long (lN (lot)), xj, .long (lN ((lot) % (cWA s))), xj, .int (nI (0))]) (st' := []) (M' := (I, J, Rx R, N, G)) rfl ?_
  exact l_mpb (d := d + 1) hS hW hlt (cP s) 0 (by omega) (Nat.zero_le _)
theorem c_lot {x : Nat} (hx : x < 2147483648) : TP X d n_H_lotBehind [.long (lN x)] (I, J, Rx R, N, G) (Ret (.long (lN (drL x))) (I, J, Rx R, N, G)) := by
  unfold TP
  show XP X _ k_H_lotBehind 0 [.long (lN (x)), xj] [] _ _
  refine XP_n 4 (pc' := 4) (ls' := [.long (lN (x)), xj]) (st' := [.long (lN (2147483647)), .long ((lN (x)) * (lN (48271)))]) (M' := (I, J, Rx R, N, G)) rfl ?_
  rw [show (lN (x)) * (lN (48271)) = lN ((x) * (48271)) from lN_mulE (rfl) (rfl)]
  refine XP_lremN (a := (x) * (48271)) (b := 2147483647) rfl (by omega) (by omega) (by omega) ?_
  exact XP_ret rfl ⟨rfl, rfl⟩
end
