/-! the least of all plans, the model -/
section
variable {X : hX} {d : Nat} {s I : Nat → Nat → Int32} {J : Nat → Nat → Int64} {R : Nat → Nat → Option Nat} {N : Nat → Nat} {G : hG} {Q : Option Value → hM → Prop}
theorem l_M_b4 (hS : St s I) (hW : Wf s) {q no y dd : Nat} (hq : q ≤ cP s) (hy : y < cY s) (hd : dd ≤ 3 * y) (hno : no ≤ 16) (hR1 : ∀ d', d' ≤ 3 * (y + 1) → J 131 (49 * (y + 1) + d') = lN (pL s q (s 99 3) no (cY s - (y + 1)) d'))
    (kk : ∀ (I1 : Nat → Nat → Int32) (w9 w10 : Value), Only [125, 126] I I1 → XP X (d + 4) k_M_bestOf 93 [.ref (99), .int (qP q), .int (nI (no)), .int (nI (y)), .int (gB s y), .int (nI (dd)), .long (lN (minV (fun up => pY s q (s 99 3) y dd up + pL s q (s 99 3) no (cY s - (y + 1)) (dd + up)) (mst s no y dd))), xj, .int (nI (4)), w9, w10] [] (I1, J, Rx R, N, G) Q) :
    ∀ (n u b : Nat) (I1 : Nat → Nat → Int32) (w9 w10 : Value), 1 ≤ u → u + n = 4 → Only [125, 126] I I1 → b = minV (fun up => pY s q (s 99 3) y dd up + pL s q (s 99 3) no (cY s - (y + 1)) (dd + up)) (min (u - 1) (mst s no y dd)) → XP X (d + 4) k_M_bestOf 39 [.ref (99), .int (qP q), .int (nI (no)), .int (nI (y)), .int (gB s y), .int (nI (dd)), .long (lN (b)), xj, .int (nI (u)), w9, w10] [] (I1, J, Rx R, N, G) Q := by
  have hw := hW.w.2
  have hy16 := hW.y.2.2
  have hm := mst_le s no y dd
  intro n
  induction n with
  | zero =>
    rintro u b I1 w9 w10 hu1 hun hO1 hb
    have hS1 : St s I1 := St_only hS hO1 (by decide +kernel)
    obtain rfl : u = 4 := by omega
    rw [Nat.min_eq_right (by omega)] at hb
    refine XP_n 2 (pc' := 41) (ls' := [.ref (99), .int (qP q), .int (nI (no)), .int (nI (y)), .int (gB s y), .int (nI (dd)), .long (lN (b)), xj, .int (nI (4)), w9, w10]) (st' := [.int (nI (3)), .int (nI (4))]) (M' := (I1, J, Rx R, N, G)) rfl ?_
    refine XP_icN (x := 4) (y := 3) rfl (by omega) (by omega) (fun (b41 : 3 < 4) => ?_) (fun (b41 : 4 ≤ 3) => absurd b41 (by omega))
    subst hb
    exact kk _ _ _ hO1
  | succ n ih =>
    rintro u b I1 w9 w10 hu1 hun hO1 hb
    have hS1 : St s I1 := St_only hS hO1 (by decide +kernel)
    have hbb : b ≤ 170000000000 := by
      rw [hb]
      refine minV_bd _ (fun z _ => ?_)
      have h1 := pY_le hW q (s 99 3) y dd z
      have h2 := pL_b hW q (s 99 3) no (cY s - (y + 1)) (dd + z) (by omega)
      show pY s q (s 99 3) y dd z + _ ≤ _
      omega
    have hLb := pL_b hW q (s 99 3) no (cY s - (y + 1)) (dd + u) (by omega)
    have skip : mst s no y dd < u → b = minV (fun up => pY s q (s 99 3) y dd up + pL s q (s 99 3) no (cY s - (y + 1)) (dd + up)) (min (u + 1 - 1) (mst s no y dd)) := fun h => by
      rw [hb, Nat.min_eq_right (by omega), Nat.min_eq_right (by omega)]
    have step : u ≤ mst s no y dd → ∀ v, v = (if pY s q (s 99 3) y dd u + pL s q (s 99 3) no (cY s - (y + 1)) (dd + u) < b then pY s q (s 99 3) y dd u + pL s q (s 99 3) no (cY s - (y + 1)) (dd + u) else b) → v = minV (fun up => pY s q (s 99 3) y dd up + pL s q (s 99 3) no (cY s - (y + 1)) (dd + up)) (min (u + 1 - 1) (mst s no y dd)) := fun h v hv => by
      rw [hv, hb, show u + 1 - 1 = (u - 1) + 1 by omega, Nat.min_eq_left (by omega), Nat.min_eq_left (by omega)]
      show _ = (if _ then _ else _)
      rw [show u - 1 + 1 = u by omega]
    refine XP_n 2 (pc' := 41) (ls' := [.ref (99), .int (qP q), .int (nI (no)), .int (nI (y)), .int (gB s y), .int (nI (dd)), .long (lN (b)), xj, .int (nI (u)), w9, w10]) (st' := [.int (nI (3)), .int (nI (u))]) (M' := (I1, J, Rx R, N, G)) rfl ?_
    refine XP_icN (x := u) (y := 3) rfl (by omega) (by omega) (fun (b41 : 3 < u) => absurd b41 (by omega)) (fun (b41 : u ≤ 3) => ?_)
    refine XP_n 1 (pc' := 43) (ls' := [.ref (99), .int (qP q), .int (nI (no)), .int (nI (y)), .int (gB s y), .int (nI (dd)), .long (lN (b)), xj, .int (nI (u)), w9, w10]) (st' := [.int (nI (u))]) (M' := (I1, J, Rx R, N, G)) rfl ?_
    refine XP_ifN (x := u)  rfl (by omega) (fun (b43 : u = 0) => absurd b43 (by omega)) (fun (b43 : ¬ u = 0) => ?_)
    refine XP_n 2 (pc' := 46) (ls' := [.ref (99), .int (qP q), .int (nI (no)), .int (nI (y)), .int (gB s y), .int (nI (dd)), .long (lN (b)), xj, .int (nI (u)), w9, w10]) (st' := [.int (nI (no)), .int (nI (y))]) (M' := (I1, J, Rx R, N, G)) rfl ?_
    refine XP_icN (x := y) (y := no) rfl (by omega) (by omega) (fun (b46 : y < no) => ?_) (fun (b46 : no ≤ y) => ?_)
    · refine XP_n 1 (pc' := 92) (ls' := [.ref (99), .int (qP q), .int (nI (no)), .int (nI (y)), .int (gB s y), .int (nI (dd)), .long (lN (b)), xj, .int (nI (u) + nI (1)), w9, w10]) (st' := []) (M' := (I1, J, Rx R, N, G)) rfl ?_
      rw [show nI (u) + nI (1) = nI (u + 1) from nI_addE (rfl) rfl]
      refine XP_n 1 (pc' := 39) (ls' := [.ref (99), .int (qP q), .int (nI (no)), .int (nI (y)), .int (gB s y), .int (nI (dd)), .long (lN (b)), xj, .int (nI (u + 1)), w9, w10]) (st' := []) (M' := (I1, J, Rx R, N, G)) rfl ?_
      exact ih (u + 1) _ _ _ _ (by omega) (by omega) hO1 (skip (by unfold mst; rw [if_pos b46]; omega))
    · refine XP_n 1 (pc' := 48) (ls' := [.ref (99), .int (qP q), .int (nI (no)), .int (nI (y)), .int (gB s y), .int (nI (dd)), .long (lN (b)), xj, .int (nI (u)), w9, w10]) (st' := [.ref (99)]) (M' := (I1, J, Rx R, N, G)) rfl ?_
      refine XP_geti hS1 rfl rfl rfl ?_
      rw [hW.w.1]
      refine XP_n 5 (pc' := 54) (ls' := [.ref (99), .int (qP q), .int (nI (no)), .int (nI (y)), .int (gB s y), .int (nI (dd)), .long (lN (b)), xj, .int (nI (u)), w9, w10]) (st' := [.int (nI (99)), .int (((nI (cW s)) + (nI (dd))) + (nI (u)))]) (M' := (I1, J, Rx R, N, G)) rfl ?_
      rw [show ((nI (cW s)) + (nI (dd))) + (nI (u)) = nI (cW s + dd + u) from nI_addE (nI_addE (rfl) (rfl)) (rfl)]
      refine XP_icN (x := cW s + dd + u) (y := 99) rfl (by omega) (by omega) (fun (b54 : 99 < cW s + dd + u) => ?_) (fun (b54 : cW s + dd + u ≤ 99) => ?_)
      · refine XP_n 1 (pc' := 92) (ls' := [.ref (99), .int (qP q), .int (nI (no)), .int (nI (y)), .int (gB s y), .int (nI (dd)), .long (lN (b)), xj, .int (nI (u) + nI (1)), w9, w10]) (st' := []) (M' := (I1, J, Rx R, N, G)) rfl ?_
        rw [show nI (u) + nI (1) = nI (u + 1) from nI_addE (rfl) rfl]
        refine XP_n 1 (pc' := 39) (ls' := [.ref (99), .int (qP q), .int (nI (no)), .int (nI (y)), .int (gB s y), .int (nI (dd)), .long (lN (b)), xj, .int (nI (u + 1)), w9, w10]) (st' := []) (M' := (I1, J, Rx R, N, G)) rfl ?_
        exact ih (u + 1) _ _ _ _ (by omega) (by omega) hO1 (skip (by omega))
      · refine XP_n 4 (pc' := 59) (ls' := [.ref (99), .int (qP q), .int (nI (no)), .int (nI (y)), .int (gB s y), .int (nI (dd)), .long (lN (b)), xj, .int (nI (u)), w9, w10]) (st' := [.ref (99), .int (nI (y)), .int (qP q), .ref (99)]) (M' := (I1, J, Rx R, N, G)) rfl ?_
        refine XP_geti hS1 rfl rfl rfl ?_
        rw [hW.w.1]
        refine XP_n 4 (pc' := 64) (ls' := [.ref (99), .int (qP q), .int (nI (no)), .int (nI (y)), .int (gB s y), .int (nI (dd)), .long (lN (b)), xj, .int (nI (u)), w9, w10]) (st' := [.int (gB s y), .int (nI (u)), .int ((nI (cW s)) + (nI (dd))), .int (nI (y)), .int (qP q), .ref (99)]) (M' := (I1, J, Rx R, N, G)) rfl ?_
        rw [show (nI (cW s)) + (nI (dd)) = nI (cW s + dd) from nI_addE (rfl) (rfl)]
        refine XP_call rfl (rfl) (m_year hS1 hW hq (by omega) (by omega) (by omega)) ?_
        rintro v21 M21 ⟨rfl, I21, rfl, hO21⟩
        have hS21 : St s I21 := St_only hS1 hO21 (by decide +kernel)
        have hn21 : Only [125, 126] I I21 := Only.c hO1 hO21 (by simp)
        have hy21 := pY_le hW q (s 99 3) (y) (dd) (u)
        refine XP_n 11 (pc' := 76) (ls' := [.ref (99), .int (qP q), .int (nI (no)), .int (nI (y)), .int (gB s y), .int (nI (dd)), .long (lN (b)), xj, .int (nI (u)), w9, w10]) (st' := [.int (((((nI (49)) * (nI (y))) + (nI (49))) + (nI (dd))) + (nI (u))), .ref (131), .long (lN (pY s q (s 99 3) (y) (dd) (u)))]) (M' := (I21, J, Rx R, N, G)) rfl ?_
        rw [show ((((nI (49)) * (nI (y))) + (nI (49))) + (nI (dd))) + (nI (u)) = nI ((49) * (y) + 49 + dd + u) from nI_addE (nI_addE (nI_addE (nI_mulE (rfl) (rfl)) (rfl)) (rfl)) (rfl)]
        refine XP_lraw rfl rfl (show (49) * (y) + 49 + dd + u < 833 by omega) rfl (by omega) ?_
        rw [show J 131 ((49) * (y) + 49 + dd + u) = lN (pL s q (s 99 3) no (cY s - (y + 1)) (dd + u)) from (by rw [show 49 * y + 49 + dd + u = 49 * (y + 1) + (dd + u) by omega]; exact hR1 _ (by omega))]
        refine XP_n 2 (pc' := 79) (ls' := [.ref (99), .int (qP q), .int (nI (no)), .int (nI (y)), .int (gB s y), .int (nI (dd)), .long (lN (b)), xj, .int (nI (u)), .long ((lN (pY s q (s 99 3) (y) (dd) (u))) + (lN (pL s q (s 99 3) no (cY s - (y + 1)) (dd + u)))), xj]) (st' := []) (M' := (I21, J, Rx R, N, G)) rfl ?_
        rw [show (lN (pY s q (s 99 3) (y) (dd) (u))) + (lN (pL s q (s 99 3) no (cY s - (y + 1)) (dd + u))) = lN (pY s q (s 99 3) (y) (dd) (u) + (pL s q (s 99 3) no (cY s - (y + 1)) (dd + u))) from lN_addE (rfl) (rfl)]
        refine XP_n 2 (pc' := 81) (ls' := [.ref (99), .int (qP q), .int (nI (no)), .int (nI (y)), .int (gB s y), .int (nI (dd)), .long (lN (b)), xj, .int (nI (u)), .long (lN (pY s q (s 99 3) (y) (dd) (u) + (pL s q (s 99 3) no (cY s - (y + 1)) (dd + u)))), xj]) (st' := [.long (lN (0)), .long (lN (b))]) (M' := (I21, J, Rx R, N, G)) rfl ?_
        refine XP_lcN (x := b) (y := 0) rfl rfl (by omega) (by omega) (fun (b82 : b < 0) => absurd b82 (by omega)) (fun (b82 : 0 ≤ b) => ?_)
        refine XP_n 2 (pc' := 85) (ls' := [.ref (99), .int (qP q), .int (nI (no)), .int (nI (y)), .int (gB s y), .int (nI (dd)), .long (lN (b)), xj, .int (nI (u)), .long (lN (pY s q (s 99 3) (y) (dd) (u) + (pL s q (s 99 3) no (cY s - (y + 1)) (dd + u)))), xj]) (st' := [.long (lN (b)), .long (lN (pY s q (s 99 3) (y) (dd) (u) + (pL s q (s 99 3) no (cY s - (y + 1)) (dd + u))))]) (M' := (I21, J, Rx R, N, G)) rfl ?_
        refine XP_lcN (x := pY s q (s 99 3) (y) (dd) (u) + (pL s q (s 99 3) no (cY s - (y + 1)) (dd + u))) (y := b) rfl rfl (by omega) (by omega) (fun (b86 : b ≤ pY s q (s 99 3) (y) (dd) (u) + (pL s q (s 99 3) no (cY s - (y + 1)) (dd + u))) => ?_) (fun (b86 : pY s q (s 99 3) (y) (dd) (u) + (pL s q (s 99 3) no (cY s - (y + 1)) (dd + u)) < b) => ?_)
        · refine XP_n 3 (pc' := 92) (ls' := [.ref (99), .int (qP q), .int (nI (no)), .int (nI (y)), .int (gB s y), .int (nI (dd)), .long (lN (b)), xj, .int (nI (u) + nI (1)), .long (lN (pY s q (s 99 3) (y) (dd) (u) + (pL s q (s 99 3) no (cY s - (y + 1)) (dd + u)))), xj]) (st' := []) (M' := (I21, J, Rx R, N, G)) rfl ?_
          rw [show nI (u) + nI (1) = nI (u + 1) from nI_addE (rfl) rfl]
          refine XP_n 1 (pc' := 39) (ls' := [.ref (99), .int (qP q), .int (nI (no)), .int (nI (y)), .int (gB s y), .int (nI (dd)), .long (lN (b)), xj, .int (nI (u + 1)), .long (lN (pY s q (s 99 3) (y) (dd) (u) + (pL s q (s 99 3) no (cY s - (y + 1)) (dd + u)))), xj]) (st' := []) (M' := (I21, J, Rx R, N, G)) rfl ?_
          exact ih (u + 1) _ _ _ _ (by omega) (by omega) hn21 (step (by unfold mst; rw [if_neg (by omega)]; omega) _ (by rw [if_neg (by omega)]))
        · refine XP_n 4 (pc' := 92) (ls' := [.ref (99), .int (qP q), .int (nI (no)), .int (nI (y)), .int (gB s y), .int (nI (dd)), .long (lN (pY s q (s 99 3) (y) (dd) (u) + (pL s q (s 99 3) no (cY s - (y + 1)) (dd + u)))), xj, .int (nI (u) + nI (1)), .long (lN (pY s q (s 99 3) (y) (dd) (u) + (pL s q (s 99 3) no (cY s - (y + 1)) (dd + u)))), xj]) (st' := []) (M' := (I21, J, Rx R, N, G)) rfl ?_
          rw [show nI (u) + nI (1) = nI (u + 1) from nI_addE (rfl) rfl]
          refine XP_n 1 (pc' := 39) (ls' := [.ref (99), .int (qP q), .int (nI (no)), .int (nI (y)), .int (gB s y), .int (nI (dd)), .long (lN (pY s q (s 99 3) (y) (dd) (u) + (pL s q (s 99 3) no (cY s - (y + 1)) (dd + u)))), xj, .int (nI (u + 1)), .long (lN (pY s q (s 99 3) (y) (dd) (u) + (pL s q (s 99 3) no (cY s - (y + 1)) (dd + u)))), xj]) (st' := []) (M' := (I21, J, Rx R, N, G)) rfl ?_
          exact ih (u + 1) _ _ _ _ (by omega) (by omega) hn21 (step (by unfold mst; rw [if_neg (by omega)]; omega) _ (by rw [if_pos (by omega)]))
theorem l_M_b3 (hS : St s I) (hW : Wf s) {q no y : Nat} (hq : q ≤ cP s) (hy : y < cY s) (hno : no ≤ 16) (hR1 : ∀ d', d' ≤ 3 * (y + 1) → J 131 (49 * (y + 1) + d') = lN (pL s q (s 99 3) no (cY s - (y + 1)) d'))
    (kk : ∀ (I1 : Nat → Nat → Int32) (J1 : Nat → Nat → Int64) (x5 : Int32) (w6 w7 : Value) (w8 : Value) (w9 w10 : Value), Only [125, 126] I I1 → OnlyJ [131] J J1 → (∀ j, 49 * (y + 1) ≤ j → J1 131 j = J 131 j) → (∀ d', d' ≤ 3 * y → J1 131 (49 * y + d') = lN (pL s q (s 99 3) no (cY s - y) d')) → XP X (d + 4) k_M_bestOf 104 [.ref 99, .int (qP q), .int (nI no), .int (nI y), .int (gB s y), .int x5, w6, w7, w8, w9, w10] [] (I1, J1, Rx R, N, G) Q) :
    ∀ (n dd : Nat) (I1 : Nat → Nat → Int32) (J1 : Nat → Nat → Int64) (w6 w7 : Value) (w8 : Value) (w9 w10 : Value), dd + n = 3 * y + 1 → Only [125, 126] I I1 → OnlyJ [131] J J1 → (∀ j, 49 * (y + 1) ≤ j → J1 131 j = J 131 j) → (∀ d', d' < dd → J1 131 (49 * y + d') = lN (pL s q (s 99 3) no (cY s - y) d')) → XP X (d + 4) k_M_bestOf 30 [.ref 99, .int (qP q), .int (nI no), .int (nI y), .int (gB s y), .int (nI dd), w6, w7, w8, w9, w10] [] (I1, J1, Rx R, N, G) Q := by
  have hy16 := hW.y.2.2
  have hw := hW.w.2
  intro n
  induction n with
  | zero =>
    rintro dd I1 J1 w6 w7 w8 w9 w10 hdn hO1 hJ1 hk1 hk2
    refine XP_n 4 (pc' := 34) (ls' := [.ref (99), .int (qP q), .int (nI (no)), .int (nI (y)), .int (gB s y), .int (nI (dd)), w6, w7, w8, w9, w10]) (st' := [.int ((nI (3)) * (nI (y))), .int (nI (dd))]) (M' := (I1, J1, Rx R, N, G)) rfl ?_
    rw [show (nI (3)) * (nI (y)) = nI ((3) * (y)) from nI_mulE (rfl) (rfl)]
    refine XP_icN (x := dd) (y := (3) * (y)) rfl (by omega) (by omega) (fun (b34 : (3) * (y) < dd) => ?_) (fun (b34 : dd ≤ (3) * (y)) => absurd b34 (by omega))
    exact kk _ _ _ _ _ _ _ _ hO1 hJ1 hk1 (fun d' h => hk2 d' (by omega))
  | succ n ih =>
    rintro dd I1 J1 w6 w7 w8 w9 w10 hdn hO1 hJ1 hk1 hk2
    have hS1 : St s I1 := St_only hS hO1 (by decide +kernel)
    have hR2 : ∀ d', d' ≤ 3 * (y + 1) → J1 131 (49 * (y + 1) + d') = lN (pL s q (s 99 3) no (cY s - (y + 1)) d') := fun d' h => by rw [hk1 _ (by omega)]; exact hR1 d' h
    have fin : ∀ (I2 : Nat → Nat → Int32) (w9 w10 : Value), Only [125, 126] I1 I2 → XP X (d + 4) k_M_bestOf 93 [.ref (99), .int (qP q), .int (nI (no)), .int (nI (y)), .int (gB s y), .int (nI (dd)), .long (lN (minV (fun up => pY s q (s 99 3) y dd up + pL s q (s 99 3) no (cY s - (y + 1)) (dd + up)) (mst s no y dd))), xj, .int (nI (4)), w9, w10] [] (I2, J1, Rx R, N, G) Q := by
      intro I2 w9 w10 hO2
      rw [← pL_y s q (s 99 3) no hy dd]
      refine XP_n 8 (pc' := 101) (ls' := [.ref (99), .int (qP q), .int (nI (no)), .int (nI (y)), .int (gB s y), .int (nI (dd)), .long (lN (pL s q (s 99 3) no (cY s - y) dd)), xj, .int (nI (4)), w9, w10]) (st' := [.long (lN (pL s q (s 99 3) no (cY s - y) dd)), .int (((nI (49)) * (nI (y))) + (nI (dd))), .ref (131)]) (M' := (I2, J1, Rx R, N, G)) rfl ?_
      rw [show ((nI (49)) * (nI (y))) + (nI (dd)) = nI ((49) * (y) + dd) from nI_addE (nI_mulE (rfl) (rfl)) (rfl)]
      refine XP_last rfl rfl (show (49) * (y) + dd < 833 by omega) rfl (by omega) ?_
      refine XP_n 1 (pc' := 103) (ls' := [.ref (99), .int (qP q), .int (nI (no)), .int (nI (y)), .int (gB s y), .int (nI (dd) + nI (1)), .long (lN (pL s q (s 99 3) no (cY s - y) dd)), xj, .int (nI (4)), w9, w10]) (st' := []) (M' := (I2, (rw2 J1 131 ((49) * (y) + dd) (lN (pL s q (s 99 3) no (cY s - y) dd))), Rx R, N, G)) rfl ?_
      rw [show nI (dd) + nI (1) = nI (dd + 1) from nI_addE (rfl) rfl]
      refine XP_n 1 (pc' := 30) (ls' := [.ref (99), .int (qP q), .int (nI (no)), .int (nI (y)), .int (gB s y), .int (nI (dd + 1)), .long (lN (pL s q (s 99 3) no (cY s - y) dd)), xj, .int (nI (4)), w9, w10]) (st' := []) (M' := (I2, (rw2 J1 131 ((49) * (y) + dd) (lN (pL s q (s 99 3) no (cY s - y) dd))), Rx R, N, G)) rfl ?_
      refine ih (dd + 1) _ _ _ _ _ _ _ (by omega) (Only.c hO1 hO2 (by simp)) (OnlyJ.w hJ1 (by simp)) (fun j hj => by rw [rw2_nj _ _ _ (by omega)]; exact hk1 j hj) (fun d' h => ?_)
      by_cases e : d' = dd
      · subst e
        rw [rw2_at]
      · rw [rw2_nj _ _ _ (by omega)]
        exact hk2 d' (by omega)
    have hLb := pL_b hW q (s 99 3) no (cY s - (y + 1)) (dd + 0) (by omega)
    refine XP_n 4 (pc' := 34) (ls' := [.ref (99), .int (qP q), .int (nI (no)), .int (nI (y)), .int (gB s y), .int (nI (dd)), w6, w7, w8, w9, w10]) (st' := [.int ((nI (3)) * (nI (y))), .int (nI (dd))]) (M' := (I1, J1, Rx R, N, G)) rfl ?_
    rw [show (nI (3)) * (nI (y)) = nI ((3) * (y)) from nI_mulE (rfl) (rfl)]
    refine XP_icN (x := dd) (y := (3) * (y)) rfl (by omega) (by omega) (fun (b34 : (3) * (y) < dd) => absurd b34 (by omega)) (fun (b34 : dd ≤ (3) * (y)) => ?_)
    refine XP_n 4 (pc' := 39) (ls' := [.ref (99), .int (qP q), .int (nI (no)), .int (nI (y)), .int (gB s y), .int (nI (dd)), .long (cL (-1)), xj, .int (nI (0)), w9, w10]) (st' := []) (M' := (I1, J1, Rx R, N, G)) rfl ?_
    refine XP_n 2 (pc' := 41) (ls' := [.ref (99), .int (qP q), .int (nI (no)), .int (nI (y)), .int (gB s y), .int (nI (dd)), .long (cL (-1)), xj, .int (nI (0)), w9, w10]) (st' := [.int (nI (3)), .int (nI (0))]) (M' := (I1, J1, Rx R, N, G)) rfl ?_
    refine XP_icN (x := 0) (y := 3) rfl (by omega) (by omega) (fun (b41 : 3 < 0) => absurd b41 (by omega)) (fun (b41 : 0 ≤ 3) => ?_)
    refine XP_n 1 (pc' := 43) (ls' := [.ref (99), .int (qP q), .int (nI (no)), .int (nI (y)), .int (gB s y), .int (nI (dd)), .long (cL (-1)), xj, .int (nI (0)), w9, w10]) (st' := [.int (nI (0))]) (M' := (I1, J1, Rx R, N, G)) rfl ?_
    refine XP_ifN (x := 0)  rfl (by omega) (fun (b43 : 0 = 0) => ?_) (fun (b43 : ¬ 0 = 0) => absurd b43 (by omega))
    refine XP_n 4 (pc' := 59) (ls' := [.ref (99), .int (qP q), .int (nI (no)), .int (nI (y)), .int (gB s y), .int (nI (dd)), .long (cL (-1)), xj, .int (nI (0)), w9, w10]) (st' := [.ref (99), .int (nI (y)), .int (qP q), .ref (99)]) (M' := (I1, J1, Rx R, N, G)) rfl ?_
    refine XP_geti hS1 rfl rfl rfl ?_
    rw [hW.w.1]
    refine XP_n 4 (pc' := 64) (ls' := [.ref (99), .int (qP q), .int (nI (no)), .int (nI (y)), .int (gB s y), .int (nI (dd)), .long (cL (-1)), xj, .int (nI (0)), w9, w10]) (st' := [.int (gB s y), .int (nI (0)), .int ((nI (cW s)) + (nI (dd))), .int (nI (y)), .int (qP q), .ref (99)]) (M' := (I1, J1, Rx R, N, G)) rfl ?_
    rw [show (nI (cW s)) + (nI (dd)) = nI (cW s + dd) from nI_addE (rfl) (rfl)]
    refine XP_call rfl (rfl) (m_year hS1 hW hq (by omega) (by omega) (by omega)) ?_
    rintro v22 M22 ⟨rfl, I22, rfl, hO22⟩
    have hS22 : St s I22 := St_only hS1 hO22 (by decide +kernel)
    have hn22 : Only [125, 126] I1 I22 := Only.c Only.rf hO22 (by simp)
    have hy22 := pY_le hW q (s 99 3) (y) (dd) (0)
    refine XP_n 11 (pc' := 76) (ls' := [.ref (99), .int (qP q), .int (nI (no)), .int (nI (y)), .int (gB s y), .int (nI (dd)), .long (cL (-1)), xj, .int (nI (0)), w9, w10]) (st' := [.int (((((nI (49)) * (nI (y))) + (nI (49))) + (nI (dd))) + (nI (0))), .ref (131), .long (lN (pY s q (s 99 3) (y) (dd) (0)))]) (M' := (I22, J1, Rx R, N, G)) rfl ?_
    rw [show ((((nI (49)) * (nI (y))) + (nI (49))) + (nI (dd))) + (nI (0)) = nI ((49) * (y) + 49 + dd + 0) from nI_addE (nI_addE (nI_addE (nI_mulE (rfl) (rfl)) (rfl)) (rfl)) (rfl)]
    refine XP_lraw rfl rfl (show (49) * (y) + 49 + dd + 0 < 833 by omega) rfl (by omega) ?_
    rw [show J1 131 ((49) * (y) + 49 + dd + 0) = lN (pL s q (s 99 3) no (cY s - (y + 1)) (dd + 0)) from (by rw [show 49 * y + 49 + dd + 0 = 49 * (y + 1) + (dd + 0) by omega]; exact hR2 _ (by omega))]
    refine XP_n 2 (pc' := 79) (ls' := [.ref (99), .int (qP q), .int (nI (no)), .int (nI (y)), .int (gB s y), .int (nI (dd)), .long (cL (-1)), xj, .int (nI (0)), .long ((lN (pY s q (s 99 3) (y) (dd) (0))) + (lN (pL s q (s 99 3) no (cY s - (y + 1)) (dd + 0)))), xj]) (st' := []) (M' := (I22, J1, Rx R, N, G)) rfl ?_
    rw [show (lN (pY s q (s 99 3) (y) (dd) (0))) + (lN (pL s q (s 99 3) no (cY s - (y + 1)) (dd + 0))) = lN (pY s q (s 99 3) (y) (dd) (0) + (pL s q (s 99 3) no (cY s - (y + 1)) (dd + 0))) from lN_addE (rfl) (rfl)]
    refine XP_n 2 (pc' := 81) (ls' := [.ref (99), .int (qP q), .int (nI (no)), .int (nI (y)), .int (gB s y), .int (nI (dd)), .long (cL (-1)), xj, .int (nI (0)), .long (lN (pY s q (s 99 3) (y) (dd) (0) + (pL s q (s 99 3) no (cY s - (y + 1)) (dd + 0)))), xj]) (st' := [.long (lN (0)), .long (cL (-1))]) (M' := (I22, J1, Rx R, N, G)) rfl ?_
    refine XP_lcD rfl rfl (fun (b82 : cL (-1) < lN (0)) => ?_) (fun (b82 : lN (0) ≤ cL (-1)) => absurd b82 (by decide))
    have n82 := Int64.not_le.mpr b82
    refine XP_n 4 (pc' := 92) (ls' := [.ref (99), .int (qP q), .int (nI (no)), .int (nI (y)), .int (gB s y), .int (nI (dd)), .long (lN (pY s q (s 99 3) (y) (dd) (0) + (pL s q (s 99 3) no (cY s - (y + 1)) (dd + 0)))), xj, .int (nI (0) + nI (1)), .long (lN (pY s q (s 99 3) (y) (dd) (0) + (pL s q (s 99 3) no (cY s - (y + 1)) (dd + 0)))), xj]) (st' := []) (M' := (I22, J1, Rx R, N, G)) rfl ?_
    rw [show nI (0) + nI (1) = nI (0 + 1) from nI_addE (rfl) rfl]
    refine XP_n 1 (pc' := 39) (ls' := [.ref (99), .int (qP q), .int (nI (no)), .int (nI (y)), .int (gB s y), .int (nI (dd)), .long (lN (pY s q (s 99 3) (y) (dd) (0) + (pL s q (s 99 3) no (cY s - (y + 1)) (dd + 0)))), xj, .int (nI (0 + 1)), .long (lN (pY s q (s 99 3) (y) (dd) (0) + (pL s q (s 99 3) no (cY s - (y + 1)) (dd + 0)))), xj]) (st' := []) (M' := (I22, J1, Rx R, N, G)) rfl ?_
    exact l_M_b4 hS1 hW hq hy (by omega) hno hR2 fin 3 1 _ _ _ _ (by omega) (by omega) hn22 (by rw [Nat.min_eq_left (by omega)]; rfl)
end
