/-! plans, the model -/
theorem sumN_lin (w h : Nat → Nat) (K : Nat) : ∀ n, sumN (fun o => w o * (K + h o)) n = sumN w n * K + sumN (fun o => w o * h o) n
  | 0 => by simp [sumN]
  | n + 1 => by
    unfold sumN
    rw [sumN_lin w h K n, Nat.mul_add, Nat.add_mul]
    omega
def yT (s : Nat → Nat → Int32) (y u h : Nat) (o : Nat) : Nat := rWt s o * (1000 * nCost s (s 99 3) u h y (gB s y) + nHarm s (nLv s o y) (h + u) y (gB s y))
theorem pY_all (s : Nat → Nat → Int32) (y d u : Nat) : sumN (yT s y u (cW s + d)) (cP s) = pY s 0 (s 99 3) y d u := by
  unfold yT pY hY pSc
  rw [sumN_lin, if_pos rfl, if_pos rfl]
  unfold cWA
  simp only [Nat.add_assoc]
  rw [Nat.mul_comm 1000 (sumN (rWt s) (cP s)), Nat.mul_assoc]
theorem pY_one (s : Nat → Nat → Int32) (p y d u : Nat) : 1000 * nCost s (s 99 3) u (cW s + d) y (gB s y) + nHarm s (nLv s p y) (cW s + d + u) y (gB s y) = pY s (p + 1) (s 99 3) y d u := by
  unfold pY hY pSc
  rw [if_neg (by omega), if_neg (by omega)]
  simp [Nat.add_assoc]
theorem yT_le {s : Nat → Nat → Int32} (hW : Wf s) {y u h o : Nat} (ho : o < cP s) : yT s y u h o ≤ 99 * (1000 * 9999 + 9999000) := by
  have h1 := (nCost_ok (s := s) (s 99 3) u h y (gB s y)).2
  have h2 := (nHarm_ok hW (nLv s o y) (h + u) y (gB s y)).2
  exact Nat.mul_le_mul (hW.pw ho).2.2 (by omega)
section
variable {X : hX} {d : Nat} {s I : Nat → Nat → Int32} {J : Nat → Nat → Int64} {R : Nat → Nat → Option Nat} {N : Nat → Nat} {G : hG}
theorem m_bt (hS : St s I) (hW : Wf s) {y : Nat} (hy : y ≤ 16) : TP X (d + 3) n_M_behindThen [.ref 99, .int (nI y)] (I, J, Rx R, N, G) (fun w M' => w = some (.int (gB s y)) ∧ ∃ I', M' = (I', J, Rx R, N, G) ∧ Only [125, 126] I I') := by
  have h := t_M_behindThen X d hS hW.lw.1 hW.lwt (nI y) (J := J) (R := R) (N := N) (G := G)
  have e : fBT (tQ s (cLw s)) (tK2 s (cLw s)) (tLn s (cLw s) - tK2 s (cLw s)) (s 99 2) (nI y) = gB s y := by
    unfold fBT
    rw [if_pos ⟨(nI_leI (by omega) (by omega)).mpr (Nat.zero_le _), (nI_leI (by omega) (by omega)).mpr hy⟩, nI_toInt (by omega)]
    exact gB_bt s y
  rw [e] at h
  exact h
theorem m_yearP (hS : St s I) (hW : Wf s) {p y dd u : Nat} (hp : p < cP s) (hy : y ≤ 15) (hd : dd ≤ 100) (hu : u ≤ 100) : TP X (d + 3) n_M_yearOf [.ref 99, .int (nI p), .int (nI y), .int (nI (cW s + dd)), .int (nI u), .int (gB s y)] (I, J, Rx R, N, G) (fun v M' => v = some (.long (lN (pY s (p + 1) (s 99 3) y dd u))) ∧ ∃ I', M' = (I', J, Rx R, N, G) ∧ Only [125, 126] I I') := by
  have hw := hW.w.2
  have hp4 := hW.p.2
  unfold TP
  show XP X _ k_M_yearOf 0 [.ref (99), .int (nI (p)), .int (nI (y)), .int (nI (cW s + dd)), .int (nI (u)), .int (gB s y), xj, xj, xj, xj, xj] [] _ _
  refine XP_n 6 (pc' := 6) (ls' := [.ref (99), .int (nI (p)), .int (nI (y)), .int (nI (cW s + dd)), .int (nI (u)), .int (gB s y), xj, xj, xj, xj, xj]) (st' := [.int (gB s y), .int (nI (y)), .int (nI (cW s + dd)), .int (nI (u)), .ref (99), .long (lN (1000))]) (M' := (I, J, Rx R, N, G)) rfl ?_
  refine XP_call rfl (rfl) (m_cost hS hW _ _ _ _) ?_
  rintro v1 M1 ⟨rfl, I1, rfl, hO1⟩
  have hS1 : St s I1 := St_only hS hO1 (by decide +kernel)
  have hn1 : Only [125, 126] I I1 := Only.c Only.rf hO1 (by simp)
  rw [(nCost_ok (s := s) (s 99 3) (u) (cW s + dd) (y) (gB s y)).1]
  have hc1 := (nCost_ok (s := s) (s 99 3) (u) (cW s + dd) (y) (gB s y)).2
  refine XP_n 3 (pc' := 10) (ls' := [.ref (99), .int (nI (p)), .int (nI (y)), .int (nI (cW s + dd)), .int (nI (u)), .int (gB s y), .long ((lN (1000)) * ((nI (nCost s (s 99 3) (u) (cW s + dd) (y) (gB s y))).toInt64)), xj, xj, xj, xj]) (st' := []) (M' := (I1, J, Rx R, N, G)) rfl ?_
  rw [show (lN (1000)) * ((nI (nCost s (s 99 3) (u) (cW s + dd) (y) (gB s y))).toInt64) = lN ((1000) * (nCost s (s 99 3) (u) (cW s + dd) (y) (gB s y))) from lN_mulE (rfl) (nI_lE (rfl) (by omega))]
  refine XP_n 1 (pc' := 11) (ls' := [.ref (99), .int (nI (p)), .int (nI (y)), .int (nI (cW s + dd)), .int (nI (u)), .int (gB s y), .long (lN ((1000) * (nCost s (s 99 3) (u) (cW s + dd) (y) (gB s y)))), xj, xj, xj, xj]) (st' := [.int (nI (p))]) (M' := (I1, J, Rx R, N, G)) rfl ?_
  refine XP_ifN (x := p)  rfl (by omega) (fun (b11 : p < 0) => absurd b11 (by omega)) (fun (b11 : 0 ≤ p) => ?_)
  refine XP_n 5 (pc' := 17) (ls' := [.ref (99), .int (nI (p)), .int (nI (y)), .int (nI (cW s + dd)), .int (nI (u)), .int (gB s y), .long (lN ((1000) * (nCost s (s 99 3) (u) (cW s + dd) (y) (gB s y)))), xj, xj, xj, xj]) (st' := [.int (nI (y)), .int (nI (p)), .ref (99), .ref (99), .long (lN ((1000) * (nCost s (s 99 3) (u) (cW s + dd) (y) (gB s y))))]) (M' := (I1, J, Rx R, N, G)) rfl ?_
  refine XP_pure rfl rfl (m_lv hS1 hW (show p < cP s by omega) (by omega)) ?_
  refine XP_n 5 (pc' := 23) (ls' := [.ref (99), .int (nI (p)), .int (nI (y)), .int (nI (cW s + dd)), .int (nI (u)), .int (gB s y), .long (lN ((1000) * (nCost s (s 99 3) (u) (cW s + dd) (y) (gB s y)))), xj, xj, xj, xj]) (st' := [.int (gB s y), .int ((nI (cW s + dd)) + (nI (u))), .int (nI (y)), .int (nI (nLv s (p) (y))), .ref (99), .long (lN ((1000) * (nCost s (s 99 3) (u) (cW s + dd) (y) (gB s y))))]) (M' := (I1, J, Rx R, N, G)) rfl ?_
  rw [show (nI (cW s + dd)) + (nI (u)) = nI (cW s + dd + u) from nI_addE (rfl) (rfl)]
  refine XP_call rfl (rfl) (m_harm hS1 hW _ _ _ _) ?_
  rintro v2 M2 ⟨rfl, I2, rfl, hO2⟩
  have hS2 : St s I2 := St_only hS1 hO2 (by decide +kernel)
  have hn2 : Only [125, 126] I I2 := Only.c hn1 hO2 (by simp)
  rw [(nHarm_ok hW (nLv s (p) (y)) (cW s + dd + u) (y) (gB s y)).1]
  have hc2 := (nHarm_ok hW (nLv s (p) (y)) (cW s + dd + u) (y) (gB s y)).2
  refine XP_n 1 (pc' := 25) (ls' := [.ref (99), .int (nI (p)), .int (nI (y)), .int (nI (cW s + dd)), .int (nI (u)), .int (gB s y), .long (lN ((1000) * (nCost s (s 99 3) (u) (cW s + dd) (y) (gB s y)))), xj, xj, xj, xj]) (st' := [.long ((lN ((1000) * (nCost s (s 99 3) (u) (cW s + dd) (y) (gB s y)))) + (lN (nHarm s (nLv s (p) (y)) (cW s + dd + u) (y) (gB s y))))]) (M' := (I2, J, Rx R, N, G)) rfl ?_
  rw [show (lN ((1000) * (nCost s (s 99 3) (u) (cW s + dd) (y) (gB s y)))) + (lN (nHarm s (nLv s (p) (y)) (cW s + dd + u) (y) (gB s y))) = lN ((1000) * (nCost s (s 99 3) (u) (cW s + dd) (y) (gB s y)) + (nHarm s (nLv s (p) (y)) (cW s + dd + u) (y) (gB s y))) from lN_addE (rfl) (rfl)]
  exact XP_ret rfl ⟨by rw [pY_one], _, rfl, hn2⟩
theorem l_M_yearA {s I : Nat → Nat → Int32} (hS : St s I) (hW : Wf s) {y dd u : Nat} (hy : y ≤ 15) (hd : dd ≤ 100) (hu : u ≤ 100) : ∀ (n i : Nat) (acc : Int64) (I1 : Nat → Nat → Int32), i + n = cP s → Only [125, 126] I I1 → acc = lN (sumN (yT s y u (cW s + dd)) i) →
    XP X (d + 3) k_M_yearOf 30 [.ref (99), .int (cI (-1)), .int (nI (y)), .int (nI (cW s + dd)), .int (nI (u)), .int (gB s y), .long (lN (1000 * nCost s (s 99 3) u (cW s + dd) y (gB s y))), xj, .long (acc), xj, .int (nI (i))] [] (I1, J, Rx R, N, G) (fun v M' => v = some (.long (lN (sumN (yT s y u (cW s + dd)) (cP s)))) ∧ ∃ I', M' = (I', J, Rx R, N, G) ∧ Only [125, 126] I I') := by
  have hw := hW.w.2
  have hp4 := hW.p.2
  have hc0 := (nCost_ok (s := s) (s 99 3) u (cW s + dd) y (gB s y)).2
  intro n
  induction n with
  | zero =>
    rintro i _ I1 hi hO1 rfl
    have hS1 : St s I1 := St_only hS hO1 (by decide +kernel)
    obtain rfl : i = cP s := by omega
    refine XP_n 2 (pc' := 32) (ls' := [.ref (99), .int (cI (-1)), .int (nI (y)), .int (nI (cW s + dd)), .int (nI (u)), .int (gB s y), .long (lN (1000 * nCost s (s 99 3) u (cW s + dd) y (gB s y))), xj, .long (lN (sumN (yT s y u (cW s + dd)) (cP s))), xj, .int (nI (cP s))]) (st' := [.ref (99), .int (nI (cP s))]) (M' := (I1, J, Rx R, N, G)) rfl ?_
    refine XP_geti hS1 rfl rfl rfl ?_
    rw [hW.p.1]
    refine XP_icN (x := cP s) (y := cP s) rfl (by omega) (by omega) (fun (b33 : cP s ≤ cP s) => ?_) (fun (b33 : cP s < cP s) => absurd b33 (by omega))
    refine XP_n 1 (pc' := 59) (ls' := [.ref (99), .int (cI (-1)), .int (nI (y)), .int (nI (cW s + dd)), .int (nI (u)), .int (gB s y), .long (lN (1000 * nCost s (s 99 3) u (cW s + dd) y (gB s y))), xj, .long (lN (sumN (yT s y u (cW s + dd)) (cP s))), xj, .int (nI (cP s))]) (st' := [.long (lN (sumN (yT s y u (cW s + dd)) (cP s)))]) (M' := (I1, J, Rx R, N, G)) rfl ?_
    exact XP_ret rfl ⟨rfl, _, rfl, hO1⟩
  | succ n ih =>
    rintro i _ I1 hi hO1 rfl
    have hS1 : St s I1 := St_only hS hO1 (by decide +kernel)
    have hlt := yT_le hW (y := y) (u := u) (h := cW s + dd) (show i < cP s by omega)
    refine XP_n 2 (pc' := 32) (ls' := [.ref (99), .int (cI (-1)), .int (nI (y)), .int (nI (cW s + dd)), .int (nI (u)), .int (gB s y), .long (lN (1000 * nCost s (s 99 3) u (cW s + dd) y (gB s y))), xj, .long (lN (sumN (yT s y u (cW s + dd)) (i))), xj, .int (nI (i))]) (st' := [.ref (99), .int (nI (i))]) (M' := (I1, J, Rx R, N, G)) rfl ?_
    refine XP_geti hS1 rfl rfl rfl ?_
    rw [hW.p.1]
    refine XP_icN (x := i) (y := cP s) rfl (by omega) (by omega) (fun (b33 : cP s ≤ i) => absurd b33 (by omega)) (fun (b33 : i < cP s) => ?_)
    refine XP_n 4 (pc' := 38) (ls' := [.ref (99), .int (cI (-1)), .int (nI (y)), .int (nI (cW s + dd)), .int (nI (u)), .int (gB s y), .long (lN (1000 * nCost s (s 99 3) u (cW s + dd) y (gB s y))), xj, .long (lN (sumN (yT s y u (cW s + dd)) (i))), xj, .int (nI (i))]) (st' := [.int (nI (i)), .ref (100), .long (lN (sumN (yT s y u (cW s + dd)) (i)))]) (M' := (I1, J, Rx R, N, G)) rfl ?_
    refine XP_iald hS1 rfl rfl (show i < 4 by omega) rfl (by omega) rfl ?_
    obtain ⟨hq3, hr3⟩ := hW.pw (show i < cP s by omega)
    rw [hq3]
    refine XP_n 6 (pc' := 45) (ls' := [.ref (99), .int (cI (-1)), .int (nI (y)), .int (nI (cW s + dd)), .int (nI (u)), .int (gB s y), .long (lN (1000 * nCost s (s 99 3) u (cW s + dd) y (gB s y))), xj, .long (lN (sumN (yT s y u (cW s + dd)) (i))), xj, .int (nI (i))]) (st' := [.int (nI (y)), .int (nI (i)), .ref (99), .ref (99), .long (lN (1000 * nCost s (s 99 3) u (cW s + dd) y (gB s y))), .long ((nI (rWt s i)).toInt64), .long (lN (sumN (yT s y u (cW s + dd)) (i)))]) (M' := (I1, J, Rx R, N, G)) rfl ?_
    rw [show (nI (rWt s i)).toInt64 = lN (rWt s i) from nI_lE (rfl) (by omega)]
    refine XP_pure rfl rfl (m_lv hS1 hW (show i < cP s by omega) (by omega)) ?_
    refine XP_n 5 (pc' := 51) (ls' := [.ref (99), .int (cI (-1)), .int (nI (y)), .int (nI (cW s + dd)), .int (nI (u)), .int (gB s y), .long (lN (1000 * nCost s (s 99 3) u (cW s + dd) y (gB s y))), xj, .long (lN (sumN (yT s y u (cW s + dd)) (i))), xj, .int (nI (i))]) (st' := [.int (gB s y), .int ((nI (cW s + dd)) + (nI (u))), .int (nI (y)), .int (nI (nLv s (i) (y))), .ref (99), .long (lN (1000 * nCost s (s 99 3) u (cW s + dd) y (gB s y))), .long (lN (rWt s i)), .long (lN (sumN (yT s y u (cW s + dd)) (i)))]) (M' := (I1, J, Rx R, N, G)) rfl ?_
    rw [show (nI (cW s + dd)) + (nI (u)) = nI (cW s + dd + u) from nI_addE (rfl) (rfl)]
    refine XP_call rfl (rfl) (m_harm hS1 hW _ _ _ _) ?_
    rintro v4 M4 ⟨rfl, I4, rfl, hO4⟩
    have hS4 : St s I4 := St_only hS1 hO4 (by decide +kernel)
    have hn4 : Only [125, 126] I I4 := Only.c hO1 hO4 (by simp)
    rw [(nHarm_ok hW (nLv s (i) (y)) (cW s + dd + u) (y) (gB s y)).1]
    have hc4 := (nHarm_ok hW (nLv s (i) (y)) (cW s + dd + u) (y) (gB s y)).2
    refine XP_n 4 (pc' := 56) (ls' := [.ref (99), .int (cI (-1)), .int (nI (y)), .int (nI (cW s + dd)), .int (nI (u)), .int (gB s y), .long (lN (1000 * nCost s (s 99 3) u (cW s + dd) y (gB s y))), xj, .long ((lN (sumN (yT s y u (cW s + dd)) (i))) + ((lN (rWt s i)) * ((lN (1000 * nCost s (s 99 3) u (cW s + dd) y (gB s y))) + (lN (nHarm s (nLv s (i) (y)) (cW s + dd + u) (y) (gB s y)))))), xj, .int (nI (i))]) (st' := []) (M' := (I4, J, Rx R, N, G)) rfl ?_
    rw [show (lN (sumN (yT s y u (cW s + dd)) (i))) + ((lN (rWt s i)) * ((lN (1000 * nCost s (s 99 3) u (cW s + dd) y (gB s y))) + (lN (nHarm s (nLv s (i) (y)) (cW s + dd + u) (y) (gB s y))))) = lN (sumN (yT s y u (cW s + dd)) (i) + ((rWt s i) * (1000 * nCost s (s 99 3) u (cW s + dd) y (gB s y) + (nHarm s (nLv s (i) (y)) (cW s + dd + u) (y) (gB s y))))) from lN_addE (rfl) (lN_mulE (rfl) (lN_addE (rfl) (rfl)))]
    refine XP_n 1 (pc' := 57) (ls' := [.ref (99), .int (cI (-1)), .int (nI (y)), .int (nI (cW s + dd)), .int (nI (u)), .int (gB s y), .long (lN (1000 * nCost s (s 99 3) u (cW s + dd) y (gB s y))), xj, .long (lN (sumN (yT s y u (cW s + dd)) (i) + ((rWt s i) * (1000 * nCost s (s 99 3) u (cW s + dd) y (gB s y) + (nHarm s (nLv s (i) (y)) (cW s + dd + u) (y) (gB s y)))))), xj, .int (nI (i) + nI (1))]) (st' := []) (M' := (I4, J, Rx R, N, G)) rfl ?_
    rw [show nI (i) + nI (1) = nI (i + 1) from nI_addE (rfl) rfl]
    refine XP_n 1 (pc' := 30) (ls' := [.ref (99), .int (cI (-1)), .int (nI (y)), .int (nI (cW s + dd)), .int (nI (u)), .int (gB s y), .long (lN (1000 * nCost s (s 99 3) u (cW s + dd) y (gB s y))), xj, .long (lN (sumN (yT s y u (cW s + dd)) (i) + ((rWt s i) * (1000 * nCost s (s 99 3) u (cW s + dd) y (gB s y) + (nHarm s (nLv s (i) (y)) (cW s + dd + u) (y) (gB s y)))))), xj, .int (nI (i + 1))]) (st' := []) (M' := (I4, J, Rx R, N, G)) rfl ?_
    exact ih (i + 1) _ _ (by omega) hn4 rfl
theorem m_yearA (hS : St s I) (hW : Wf s) {y dd u : Nat} (hy : y ≤ 15) (hd : dd ≤ 100) (hu : u ≤ 100) : TP X (d + 3) n_M_yearOf [.ref 99, .int (cI (-1)), .int (nI y), .int (nI (cW s + dd)), .int (nI u), .int (gB s y)] (I, J, Rx R, N, G) (fun v M' => v = some (.long (lN (pY s 0 (s 99 3) y dd u))) ∧ ∃ I', M' = (I', J, Rx R, N, G) ∧ Only [125, 126] I I') := by
  have hw := hW.w.2
  unfold TP
  show XP X _ k_M_yearOf 0 [.ref (99), .int (cI (-1)), .int (nI (y)), .int (nI (cW s + dd)), .int (nI (u)), .int (gB s y), xj, xj, xj, xj, xj] [] _ _
  refine XP_n 6 (pc' := 6) (ls' := [.ref (99), .int (cI (-1)), .int (nI (y)), .int (nI (cW s + dd)), .int (nI (u)), .int (gB s y), xj, xj, xj, xj, xj]) (st' := [.int (gB s y), .int (nI (y)), .int (nI (cW s + dd)), .int (nI (u)), .ref (99), .long (lN (1000))]) (M' := (I, J, Rx R, N, G)) rfl ?_
  refine XP_call rfl (rfl) (m_cost hS hW _ _ _ _) ?_
  rintro v5 M5 ⟨rfl, I5, rfl, hO5⟩
  have hS5 : St s I5 := St_only hS hO5 (by decide +kernel)
  have hn5 : Only [125, 126] I I5 := Only.c Only.rf hO5 (by simp)
  rw [(nCost_ok (s := s) (s 99 3) (u) (cW s + dd) (y) (gB s y)).1]
  have hc5 := (nCost_ok (s := s) (s 99 3) (u) (cW s + dd) (y) (gB s y)).2
  refine XP_n 3 (pc' := 10) (ls' := [.ref (99), .int (cI (-1)), .int (nI (y)), .int (nI (cW s + dd)), .int (nI (u)), .int (gB s y), .long ((lN (1000)) * ((nI (nCost s (s 99 3) (u) (cW s + dd) (y) (gB s y))).toInt64)), xj, xj, xj, xj]) (st' := []) (M' := (I5, J, Rx R, N, G)) rfl ?_
  rw [show (lN (1000)) * ((nI (nCost s (s 99 3) (u) (cW s + dd) (y) (gB s y))).toInt64) = lN ((1000) * (nCost s (s 99 3) (u) (cW s + dd) (y) (gB s y))) from lN_mulE (rfl) (nI_lE (rfl) (by omega))]
  refine XP_n 1 (pc' := 11) (ls' := [.ref (99), .int (cI (-1)), .int (nI (y)), .int (nI (cW s + dd)), .int (nI (u)), .int (gB s y), .long (lN ((1000) * (nCost s (s 99 3) (u) (cW s + dd) (y) (gB s y)))), xj, xj, xj, xj]) (st' := [.int (cI (-1))]) (M' := (I5, J, Rx R, N, G)) rfl ?_
  refine XP_ifD rfl (fun (b11 : cI (-1) < 0) => ?_) (fun (b11 : 0 ≤ cI (-1)) => absurd b11 (by decide))
  have n11 := Int32.not_le.mpr b11
  refine XP_n 4 (pc' := 30) (ls' := [.ref (99), .int (cI (-1)), .int (nI (y)), .int (nI (cW s + dd)), .int (nI (u)), .int (gB s y), .long (lN ((1000) * (nCost s (s 99 3) (u) (cW s + dd) (y) (gB s y)))), xj, .long (lN (0)), xj, .int (nI (0))]) (st' := []) (M' := (I5, J, Rx R, N, G)) rfl ?_
  refine XP_mono (l_M_yearA hS hW hy hd hu (cP s) 0 _ _ (by omega) hn5 rfl) ?_
  rintro v M' ⟨rfl, I2, rfl, hO⟩
  exact ⟨by rw [pY_all], _, rfl, hO⟩
/-- the path that is meant -/
def qP (q : Nat) : Int32 := if q = 0 then cI (-1) else nI (q - 1)
theorem m_year (hS : St s I) (hW : Wf s) {q y dd u : Nat} (hq : q ≤ cP s) (hy : y ≤ 15) (hd : dd ≤ 100) (hu : u ≤ 100) : TP X (d + 3) n_M_yearOf [.ref 99, .int (qP q), .int (nI y), .int (nI (cW s + dd)), .int (nI u), .int (gB s y)] (I, J, Rx R, N, G) (fun v M' => v = some (.long (lN (pY s q (s 99 3) y dd u))) ∧ ∃ I', M' = (I', J, Rx R, N, G) ∧ Only [125, 126] I I') := by
  unfold qP
  by_cases h : q = 0
  · subst h
    exact m_yearA hS hW hy hd hu
  · rw [if_neg h]
    have := m_yearP (X := X) (d := d) (J := J) (R := R) (N := N) (G := G) hS hW (p := q - 1) (y := y) (dd := dd) (u := u) (by omega) hy hd hu
    rw [show q - 1 + 1 = q by omega] at this
    exact this
end
