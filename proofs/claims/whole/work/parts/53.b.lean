/-! the least of all plans, the model: all of it -/
section
variable {X : hX} {d : Nat} {s I : Nat → Nat → Int32} {J : Nat → Nat → Int64} {R : Nat → Nat → Option Nat} {N : Nat → Nat} {G : hG} {Q : Option Value → hM → Prop}
theorem l_M_b2 (hS : St s I) (hW : Wf s) {q no : Nat} (hq : q ≤ cP s) (hno : no ≤ 16) (kk : ∀ (I1 : Nat → Nat → Int32) (J1 : Nat → Nat → Int64) (x3 : Int32) (w4 w5 w6 w7 w8 w9 w10 : Value), Only [125, 126] I I1 → OnlyJ [131] J J1 → (∀ y', 0 ≤ y' → y' ≤ cY s → ∀ d', d' ≤ 3 * y' → J1 131 (49 * y' + d') = lN (pL s q (s 99 3) no (cY s - y') d')) → XP X (d + 4) k_M_bestOf 106 [.ref 99, .int (qP q), .int (nI no), .int x3, w4, w5, w6, w7, w8, w9, w10] [] (I1, J1, Rx R, N, G) Q) :
    ∀ (n : Nat) (I1 : Nat → Nat → Int32) (J1 : Nat → Nat → Int64) (x3 : Int32) (w4 w5 w6 w7 w8 w9 w10 : Value), n ≤ cY s → x3 = nI n - nI 1 → Only [125, 126] I I1 → OnlyJ [131] J J1 → (∀ y', n ≤ y' → y' ≤ cY s → ∀ d', d' ≤ 3 * y' → J1 131 (49 * y' + d') = lN (pL s q (s 99 3) no (cY s - y') d')) → XP X (d + 4) k_M_bestOf 22 [.ref 99, .int (qP q), .int (nI no), .int x3, w4, w5, w6, w7, w8, w9, w10] [] (I1, J1, Rx R, N, G) Q := by
  have hy16 := hW.y.2.2
  intro n
  induction n with
  | zero =>
    rintro I1 J1 _ w4 w5 w6 w7 w8 w9 w10 hn rfl hO1 hJ1 hR
    refine XP_n 1 (pc' := 23) (ls' := [.ref (99), .int (qP q), .int (nI (no)), .int (nI (0) - nI (1)), w4, w5, w6, w7, w8, w9, w10]) (st' := [.int (nI (0) - nI (1))]) (M' := (I1, J1, Rx R, N, G)) rfl ?_
    refine XP_ifD rfl (fun (b23 : nI (0) - nI (1) < 0) => ?_) (fun (b23 : 0 ≤ nI (0) - nI (1)) => absurd b23 (by decide))
    have n23 := Int32.not_le.mpr b23
    exact kk _ _ _ _ _ _ _ _ _ _ hO1 hJ1 hR
  | succ n ih =>
    rintro I1 J1 x3 w4 w5 w6 w7 w8 w9 w10 hn hx hO1 hJ1 hR
    have hS1 : St s I1 := St_only hS hO1 (by decide +kernel)
    obtain rfl : x3 = nI n := by rw [hx]; exact nI_subE rfl rfl (by omega)
    refine XP_n 1 (pc' := 23) (ls' := [.ref (99), .int (qP q), .int (nI (no)), .int (nI (n)), w4, w5, w6, w7, w8, w9, w10]) (st' := [.int (nI (n))]) (M' := (I1, J1, Rx R, N, G)) rfl ?_
    refine XP_ifN (x := n)  rfl (by omega) (fun (b23 : n < 0) => absurd b23 (by omega)) (fun (b23 : 0 ≤ n) => ?_)
    refine XP_n 2 (pc' := 26) (ls' := [.ref (99), .int (qP q), .int (nI (no)), .int (nI (n)), w4, w5, w6, w7, w8, w9, w10]) (st' := [.int (nI (n)), .ref (99)]) (M' := (I1, J1, Rx R, N, G)) rfl ?_
    refine XP_call rfl (rfl) (m_bt hS1 hW (by omega)) ?_
    rintro v21 M21 ⟨rfl, I21, rfl, hO21⟩
    have hS21 : St s I21 := St_only hS1 hO21 (by decide +kernel)
    have hn21 : Only [125, 126] I I21 := Only.c hO1 hO21 (by simp)
    refine XP_n 3 (pc' := 30) (ls' := [.ref (99), .int (qP q), .int (nI (no)), .int (nI (n)), .int (gB s n), .int (nI (0)), w6, w7, w8, w9, w10]) (st' := []) (M' := (I21, J1, Rx R, N, G)) rfl ?_
    refine l_M_b3 hS21 hW hq (by omega) hno (hR (n + 1) (Nat.le_refl _) (by omega)) ?_ (3 * n + 1) 0 _ _ _ _ _ _ _ (by omega) Only.rf OnlyJ.rf (fun j _ => rfl) (fun d' h => absurd h (by omega))
    intro Ib Jb x5 w6 w7 w8 w9 w10 hOb hJb hk1 hk2
    refine XP_n 2 (pc' := 22) (ls' := [.ref (99), .int (qP q), .int (nI (no)), .int ((nI (n)) + cI (-1)), .int (gB s n), .int (x5), w6, w7, w8, w9, w10]) (st' := []) (M' := (Ib, Jb, Rx R, N, G)) rfl ?_
    exact ih _ _ _ _ _ _ _ _ _ _ (by omega) (by rw [Int32.sub_eq_add_neg]; rfl) (Only.c hn21 hOb (by simp)) (OnlyJ.c hJ1 hJb (by simp)) (fun y' h1 h2 d' h3 => by
      by_cases e : y' = n
      · subst e
        exact hk2 d' h3
      · rw [hk1 _ (by omega)]
        exact hR y' (by omega) h2 d' h3)
theorem l_M_b1 (hS : St s I) (hW : Wf s) {q no : Nat} (hq : q ≤ cP s) (hno : no ≤ 16) (kk : ∀ (I1 : Nat → Nat → Int32) (J1 : Nat → Nat → Int64) (x3 : Int32) (w4 w5 w6 w7 w8 w9 w10 : Value), Only [125, 126] I I1 → OnlyJ [131] J J1 → (∀ y', 0 ≤ y' → y' ≤ cY s → ∀ d', d' ≤ 3 * y' → J1 131 (49 * y' + d') = lN (pL s q (s 99 3) no (cY s - y') d')) → XP X (d + 4) k_M_bestOf 106 [.ref 99, .int (qP q), .int (nI no), .int x3, w4, w5, w6, w7, w8, w9, w10] [] (I1, J1, Rx R, N, G) Q) :
    ∀ (n i : Nat) (J1 : Nat → Nat → Int64), i + n = 49 → OnlyJ [131] J J1 → (∀ j, j < i → J1 131 (49 * cY s + j) = lN 0) → XP X (d + 4) k_M_bestOf 2 [.ref 99, .int (qP q), .int (nI no), .int (nI i), xj, xj, xj, xj, xj, xj, xj] [] (I, J1, Rx R, N, G) Q := by
  have hy16 := hW.y.2.2
  intro n
  induction n with
  | zero =>
    rintro i J1 hi hJ1 h0
    obtain rfl : i = 49 := by omega
    refine XP_n 2 (pc' := 4) (ls' := [.ref (99), .int (qP q), .int (nI (no)), .int (nI (49)), xj, xj, xj, xj, xj, xj, xj]) (st' := [.int (nI (49)), .int (nI (49))]) (M' := (I, J1, Rx R, N, G)) rfl ?_
    refine XP_icN (x := 49) (y := 49) rfl (by omega) (by omega) (fun (b4 : 49 ≤ 49) => ?_) (fun (b4 : 49 < 49) => absurd b4 (by omega))
    refine XP_n 1 (pc' := 18) (ls' := [.ref (99), .int (qP q), .int (nI (no)), .int (nI (49)), xj, xj, xj, xj, xj, xj, xj]) (st' := [.ref (99)]) (M' := (I, J1, Rx R, N, G)) rfl ?_
    refine XP_geti hS rfl rfl rfl ?_
    rw [hW.y.1]
    refine XP_n 3 (pc' := 22) (ls' := [.ref (99), .int (qP q), .int (nI (no)), .int ((nI (cY s)) - (nI (1))), xj, xj, xj, xj, xj, xj, xj]) (st' := []) (M' := (I, J1, Rx R, N, G)) rfl ?_
    exact l_M_b2 hS hW hq hno kk (cY s) _ _ _ _ _ _ _ _ _ _ (by omega) rfl Only.rf hJ1 (fun y' h1 h2 d' h3 => by
      obtain rfl : y' = cY s := by omega
      rw [h0 d' (by omega), Nat.sub_self]
      rfl)
  | succ n ih =>
    rintro i J1 hi hJ1 h0
    refine XP_n 2 (pc' := 4) (ls' := [.ref (99), .int (qP q), .int (nI (no)), .int (nI (i)), xj, xj, xj, xj, xj, xj, xj]) (st' := [.int (nI (49)), .int (nI (i))]) (M' := (I, J1, Rx R, N, G)) rfl ?_
    refine XP_icN (x := i) (y := 49) rfl (by omega) (by omega) (fun (b4 : 49 ≤ i) => absurd b4 (by omega)) (fun (b4 : i < 49) => ?_)
    refine XP_n 4 (pc' := 9) (ls' := [.ref (99), .int (qP q), .int (nI (no)), .int (nI (i)), xj, xj, xj, xj, xj, xj, xj]) (st' := [.ref (99), .int (nI (49)), .ref (131)]) (M' := (I, J1, Rx R, N, G)) rfl ?_
    refine XP_geti hS rfl rfl rfl ?_
    rw [hW.y.1]
    refine XP_n 4 (pc' := 14) (ls' := [.ref (99), .int (qP q), .int (nI (no)), .int (nI (i)), xj, xj, xj, xj, xj, xj, xj]) (st' := [.long (lN (0)), .int (((nI (49)) * (nI (cY s))) + (nI (i))), .ref (131)]) (M' := (I, J1, Rx R, N, G)) rfl ?_
    rw [show ((nI (49)) * (nI (cY s))) + (nI (i)) = nI ((49) * (cY s) + i) from nI_addE (nI_mulE (rfl) (rfl)) (rfl)]
    refine XP_last rfl rfl (show (49) * (cY s) + i < 833 by omega) rfl (by omega) ?_
    refine XP_n 1 (pc' := 16) (ls' := [.ref (99), .int (qP q), .int (nI (no)), .int (nI (i) + nI (1)), xj, xj, xj, xj, xj, xj, xj]) (st' := []) (M' := (I, (rw2 J1 131 ((49) * (cY s) + i) (lN (0))), Rx R, N, G)) rfl ?_
    rw [show nI (i) + nI (1) = nI (i + 1) from nI_addE (rfl) rfl]
    refine XP_n 1 (pc' := 2) (ls' := [.ref (99), .int (qP q), .int (nI (no)), .int (nI (i + 1)), xj, xj, xj, xj, xj, xj, xj]) (st' := []) (M' := (I, (rw2 J1 131 ((49) * (cY s) + i) (lN (0))), Rx R, N, G)) rfl ?_
    refine ih (i + 1) _ (by omega) (OnlyJ.w hJ1 (by simp)) (fun j hj => ?_)
    by_cases e : j = i
    · subst e
      rw [rw2_at]
    · rw [rw2_nj _ _ _ (by omega)]
      exact h0 j (by omega)
theorem l_M_b6 (hS : St s I) (hW : Wf s) {q no y dd : Nat} (hq : q ≤ cP s) (hy : y < cY s) (hd : dd ≤ 3 * y) (hR : ∀ y', 0 ≤ y' → y' ≤ cY s → ∀ d', d' ≤ 3 * y' → J 131 (49 * y' + d') = lN (pL s q (s 99 3) no (cY s - y') d')) {w7 w8 w9 w10 : Value}
    (kk : ∀ I1, Only [125, 126] I I1 → XP X (d + 4) k_M_bestOf 155 [.ref (99), .int (qP q), .int (nI (no)), .int (nI (dd)), .int (nI (y)), .int (gB s y), .int (nI (pA s q (s 99 3) no y dd)), w7, w8, w9, w10] [] (I1, J, Rx R, N, G) Q) :
    ∀ (n u : Nat) (I1 : Nat → Nat → Int32), u + n = pA s q (s 99 3) no y dd → Only [125, 126] I I1 → XP X (d + 4) k_M_bestOf 120 [.ref (99), .int (qP q), .int (nI (no)), .int (nI (dd)), .int (nI (y)), .int (gB s y), .int (nI (u)), w7, w8, w9, w10] [] (I1, J, Rx R, N, G) Q := by
  have hw := hW.w.2
  have hy16 := hW.y.2.2
  have hpa := pA_le s q (s 99 3) no y dd
  have key := pL_y s q (s 99 3) no hy dd
  have kA : pY s q (s 99 3) y dd (pA s q (s 99 3) no y dd) + pL s q (s 99 3) no (cY s - (y + 1)) (dd + pA s q (s 99 3) no y dd) = pL s q (s 99 3) no (cY s - y) dd := by
    rw [key]
    exact argV_eq (fun up => pY s q (s 99 3) y dd up + pL s q (s 99 3) no (cY s - (y + 1)) (dd + up)) (mst s no y dd)
  have kL : ∀ u, u < pA s q (s 99 3) no y dd → pL s q (s 99 3) no (cY s - y) dd < pY s q (s 99 3) y dd u + pL s q (s 99 3) no (cY s - (y + 1)) (dd + u) := fun u h => by
    rw [key]
    exact argV_lt (fun up => pY s q (s 99 3) y dd up + pL s q (s 99 3) no (cY s - (y + 1)) (dd + up)) (mst s no y dd) u h
  have hLy := pL_b hW q (s 99 3) no (cY s - y) dd (by omega)
  intro n
  induction n with
  | zero =>
    rintro u I1 hu hO1
    have hS1 : St s I1 := St_only hS hO1 (by decide +kernel)
    obtain rfl : u = pA s q (s 99 3) no y dd := by omega
    have hLb := pL_b hW q (s 99 3) no (cY s - (y + 1)) (dd + pA s q (s 99 3) no y dd) (by omega)
    generalize pA s q (s 99 3) no y dd = u at *
    refine XP_n 4 (pc' := 124) (ls' := [.ref (99), .int (qP q), .int (nI (no)), .int (nI (dd)), .int (nI (y)), .int (gB s y), .int (nI (u)), w7, w8, w9, w10]) (st' := [.ref (99), .int (nI (y)), .int (qP q), .ref (99)]) (M' := (I1, J, Rx R, N, G)) rfl ?_
    refine XP_geti hS1 rfl rfl rfl ?_
    rw [hW.w.1]
    refine XP_n 4 (pc' := 129) (ls' := [.ref (99), .int (qP q), .int (nI (no)), .int (nI (dd)), .int (nI (y)), .int (gB s y), .int (nI (u)), w7, w8, w9, w10]) (st' := [.int (gB s y), .int (nI (u)), .int ((nI (cW s)) + (nI (dd))), .int (nI (y)), .int (qP q), .ref (99)]) (M' := (I1, J, Rx R, N, G)) rfl ?_
    rw [show (nI (cW s)) + (nI (dd)) = nI (cW s + dd) from nI_addE (rfl) (rfl)]
    refine XP_call rfl (rfl) (m_year hS1 hW hq (by omega) (by omega) (by omega)) ?_
    rintro v22 M22 ⟨rfl, I22, rfl, hO22⟩
    have hS22 : St s I22 := St_only hS1 hO22 (by decide +kernel)
    have hn22 : Only [125, 126] I I22 := Only.c hO1 hO22 (by simp)
    have hy22 := pY_le hW q (s 99 3) (y) (dd) (u)
    refine XP_n 11 (pc' := 141) (ls' := [.ref (99), .int (qP q), .int (nI (no)), .int (nI (dd)), .int (nI (y)), .int (gB s y), .int (nI (u)), w7, w8, w9, w10]) (st' := [.int (((((nI (49)) * (nI (y))) + (nI (49))) + (nI (dd))) + (nI (u))), .ref (131), .long (lN (pY s q (s 99 3) (y) (dd) (u)))]) (M' := (I22, J, Rx R, N, G)) rfl ?_
    rw [show ((((nI (49)) * (nI (y))) + (nI (49))) + (nI (dd))) + (nI (u)) = nI ((49) * (y) + 49 + dd + u) from nI_addE (nI_addE (nI_addE (nI_mulE (rfl) (rfl)) (rfl)) (rfl)) (rfl)]
    refine XP_lraw rfl rfl (show (49) * (y) + 49 + dd + u < 833 by omega) rfl (by omega) ?_
    rw [show J 131 ((49) * (y) + 49 + dd + u) = lN (pL s q (s 99 3) no (cY s - (y + 1)) (dd + u)) from (by rw [show 49 * y + 49 + dd + u = 49 * (y + 1) + (dd + u) by omega]; exact hR _ (by omega) (by omega) _ (by omega))]
    refine XP_n 8 (pc' := 150) (ls' := [.ref (99), .int (qP q), .int (nI (no)), .int (nI (dd)), .int (nI (y)), .int (gB s y), .int (nI (u)), w7, w8, w9, w10]) (st' := [.int (((nI (49)) * (nI (y))) + (nI (dd))), .ref (131), .long ((lN (pY s q (s 99 3) (y) (dd) (u))) + (lN (pL s q (s 99 3) no (cY s - (y + 1)) (dd + u))))]) (M' := (I22, J, Rx R, N, G)) rfl ?_
    rw [show ((nI (49)) * (nI (y))) + (nI (dd)) = nI ((49) * (y) + dd) from nI_addE (nI_mulE (rfl) (rfl)) (rfl)]
    rw [show (lN (pY s q (s 99 3) (y) (dd) (u))) + (lN (pL s q (s 99 3) no (cY s - (y + 1)) (dd + u))) = lN (pY s q (s 99 3) (y) (dd) (u) + (pL s q (s 99 3) no (cY s - (y + 1)) (dd + u))) from lN_addE (rfl) (rfl)]
    refine XP_lraw rfl rfl (show (49) * (y) + dd < 833 by omega) rfl (by omega) ?_
    rw [show J 131 ((49) * (y) + dd) = lN (pL s q (s 99 3) no (cY s - y) dd) from hR _ (by omega) (by omega) _ (by omega)]
    refine XP_lcN (x := pY s q (s 99 3) (y) (dd) (u) + (pL s q (s 99 3) no (cY s - (y + 1)) (dd + u))) (y := pL s q (s 99 3) no (cY s - y) dd) rfl rfl (by omega) (by omega) (fun (b152 : pY s q (s 99 3) (y) (dd) (u) + (pL s q (s 99 3) no (cY s - (y + 1)) (dd + u)) = pL s q (s 99 3) no (cY s - y) dd) => ?_) (fun (b152 : ¬ pY s q (s 99 3) (y) (dd) (u) + (pL s q (s 99 3) no (cY s - (y + 1)) (dd + u)) = pL s q (s 99 3) no (cY s - y) dd) => absurd b152 (by omega))
    exact kk _ hn22
  | succ n ih =>
    rintro u I1 hu hO1
    have hS1 : St s I1 := St_only hS hO1 (by decide +kernel)
    have hlt := kL u (by omega)
    have hLb := pL_b hW q (s 99 3) no (cY s - (y + 1)) (dd + u) (by omega)
    refine XP_n 4 (pc' := 124) (ls' := [.ref (99), .int (qP q), .int (nI (no)), .int (nI (dd)), .int (nI (y)), .int (gB s y), .int (nI (u)), w7, w8, w9, w10]) (st' := [.ref (99), .int (nI (y)), .int (qP q), .ref (99)]) (M' := (I1, J, Rx R, N, G)) rfl ?_
    refine XP_geti hS1 rfl rfl rfl ?_
    rw [hW.w.1]
    refine XP_n 4 (pc' := 129) (ls' := [.ref (99), .int (qP q), .int (nI (no)), .int (nI (dd)), .int (nI (y)), .int (gB s y), .int (nI (u)), w7, w8, w9, w10]) (st' := [.int (gB s y), .int (nI (u)), .int ((nI (cW s)) + (nI (dd))), .int (nI (y)), .int (qP q), .ref (99)]) (M' := (I1, J, Rx R, N, G)) rfl ?_
    rw [show (nI (cW s)) + (nI (dd)) = nI (cW s + dd) from nI_addE (rfl) (rfl)]
    refine XP_call rfl (rfl) (m_year hS1 hW hq (by omega) (by omega) (by omega)) ?_
    rintro v23 M23 ⟨rfl, I23, rfl, hO23⟩
    have hS23 : St s I23 := St_only hS1 hO23 (by decide +kernel)
    have hn23 : Only [125, 126] I I23 := Only.c hO1 hO23 (by simp)
    have hy23 := pY_le hW q (s 99 3) (y) (dd) (u)
    refine XP_n 11 (pc' := 141) (ls' := [.ref (99), .int (qP q), .int (nI (no)), .int (nI (dd)), .int (nI (y)), .int (gB s y), .int (nI (u)), w7, w8, w9, w10]) (st' := [.int (((((nI (49)) * (nI (y))) + (nI (49))) + (nI (dd))) + (nI (u))), .ref (131), .long (lN (pY s q (s 99 3) (y) (dd) (u)))]) (M' := (I23, J, Rx R, N, G)) rfl ?_
    rw [show ((((nI (49)) * (nI (y))) + (nI (49))) + (nI (dd))) + (nI (u)) = nI ((49) * (y) + 49 + dd + u) from nI_addE (nI_addE (nI_addE (nI_mulE (rfl) (rfl)) (rfl)) (rfl)) (rfl)]
    refine XP_lraw rfl rfl (show (49) * (y) + 49 + dd + u < 833 by omega) rfl (by omega) ?_
    rw [show J 131 ((49) * (y) + 49 + dd + u) = lN (pL s q (s 99 3) no (cY s - (y + 1)) (dd + u)) from (by rw [show 49 * y + 49 + dd + u = 49 * (y + 1) + (dd + u) by omega]; exact hR _ (by omega) (by omega) _ (by omega))]
    refine XP_n 8 (pc' := 150) (ls' := [.ref (99), .int (qP q), .int (nI (no)), .int (nI (dd)), .int (nI (y)), .int (gB s y), .int (nI (u)), w7, w8, w9, w10]) (st' := [.int (((nI (49)) * (nI (y))) + (nI (dd))), .ref (131), .long ((lN (pY s q (s 99 3) (y) (dd) (u))) + (lN (pL s q (s 99 3) no (cY s - (y + 1)) (dd + u))))]) (M' := (I23, J, Rx R, N, G)) rfl ?_
    rw [show ((nI (49)) * (nI (y))) + (nI (dd)) = nI ((49) * (y) + dd) from nI_addE (nI_mulE (rfl) (rfl)) (rfl)]
    rw [show (lN (pY s q (s 99 3) (y) (dd) (u))) + (lN (pL s q (s 99 3) no (cY s - (y + 1)) (dd + u))) = lN (pY s q (s 99 3) (y) (dd) (u) + (pL s q (s 99 3) no (cY s - (y + 1)) (dd + u))) from lN_addE (rfl) (rfl)]
    refine XP_lraw rfl rfl (show (49) * (y) + dd < 833 by omega) rfl (by omega) ?_
    rw [show J 131 ((49) * (y) + dd) = lN (pL s q (s 99 3) no (cY s - y) dd) from hR _ (by omega) (by omega) _ (by omega)]
    refine XP_lcN (x := pY s q (s 99 3) (y) (dd) (u) + (pL s q (s 99 3) no (cY s - (y + 1)) (dd + u))) (y := pL s q (s 99 3) no (cY s - y) dd) rfl rfl (by omega) (by omega) (fun (b152 : pY s q (s 99 3) (y) (dd) (u) + (pL s q (s 99 3) no (cY s - (y + 1)) (dd + u)) = pL s q (s 99 3) no (cY s - y) dd) => absurd b152 (by omega)) (fun (b152 : ¬ pY s q (s 99 3) (y) (dd) (u) + (pL s q (s 99 3) no (cY s - (y + 1)) (dd + u)) = pL s q (s 99 3) no (cY s - y) dd) => ?_)
    refine XP_n 1 (pc' := 154) (ls' := [.ref (99), .int (qP q), .int (nI (no)), .int (nI (dd)), .int (nI (y)), .int (gB s y), .int (nI (u) + nI (1)), w7, w8, w9, w10]) (st' := []) (M' := (I23, J, Rx R, N, G)) rfl ?_
    rw [show nI (u) + nI (1) = nI (u + 1) from nI_addE (rfl) rfl]
    refine XP_n 1 (pc' := 120) (ls' := [.ref (99), .int (qP q), .int (nI (no)), .int (nI (dd)), .int (nI (y)), .int (gB s y), .int (nI (u + 1)), w7, w8, w9, w10]) (st' := []) (M' := (I23, J, Rx R, N, G)) rfl ?_
    exact ih (u + 1) _ (by omega) hn23
theorem l_M_b5 {s I0 : Nat → Nat → Int32} {J0 : Nat → Nat → Int64} (hS0 : St s I0) (hW : Wf s) {q no : Nat} (hq : q ≤ cP s) (hJ : OnlyJ [131] J0 J) (hR : ∀ y', 0 ≤ y' → y' ≤ cY s → ∀ d', d' ≤ 3 * y' → J 131 (49 * y' + d') = lN (pL s q (s 99 3) no (cY s - y') d')) :
    ∀ (n i : Nat) (I1 : Nat → Nat → Int32) (w5 w6 w7 w8 w9 w10 : Value), i + n = cY s → Only [125, 126, 132] I0 I1 → (∀ y, y < i → I1 132 y = nI (pU s q (s 99 3) no y)) → XP X (d + 4) k_M_bestOf 110 [.ref (99), .int (qP q), .int (nI (no)), .int (nI (pD s q (s 99 3) no i)), .int (nI (i)), w5, w6, w7, w8, w9, w10] [] (I1, J, Rx R, N, G) (fun v M' => v = some (.long (lN (pBest s q (s 99 3) no))) ∧ ∃ I' J', M' = (I', J', Rx R, N, G) ∧ Only [125, 126, 132] I0 I' ∧ OnlyJ [131] J0 J' ∧ ∀ y, y < cY s → I' 132 y = nI (pU s q (s 99 3) no y)) := by
  have hy16 := hW.y.2.2
  have hw := hW.w.2
  intro n
  induction n with
  | zero =>
    rintro i I1 w5 w6 w7 w8 w9 w10 hi hO1 hP
    obtain rfl : i = cY s := by omega
    have hdl := pD_le hW q (s 99 3) no (cY s)
    have hS1 : St s I1 := St_only hS0 hO1 (by decide +kernel)
    refine XP_n 2 (pc' := 112) (ls' := [.ref (99), .int (qP q), .int (nI (no)), .int (nI (pD s q (s 99 3) no (cY s))), .int (nI (cY s)), w5, w6, w7, w8, w9, w10]) (st' := [.ref (99), .int (nI (cY s))]) (M' := (I1, J, Rx R, N, G)) rfl ?_
    refine XP_geti hS1 rfl rfl rfl ?_
    rw [hW.y.1]
    refine XP_icN (x := cY s) (y := cY s) rfl (by omega) (by omega) (fun (b113 : cY s ≤ cY s) => ?_) (fun (b113 : cY s < cY s) => absurd b113 (by omega))
    refine XP_n 3 (pc' := 169) (ls' := [.ref (99), .int (qP q), .int (nI (no)), .int (nI (pD s q (s 99 3) no (cY s))), .int (nI (cY s)), w5, w6, w7, w8, w9, w10]) (st' := [.int (nI (0)), .ref (131)]) (M' := (I1, J, Rx R, N, G)) rfl ?_
    refine XP_lraw rfl rfl (show 0 < 833 by omega) rfl (by omega) ?_
    rw [show J 131 0 = lN (pBest s q (s 99 3) no) from hR 0 (by omega) (by omega) 0 (by omega)]
    exact XP_ret rfl ⟨rfl, _, _, rfl, hO1, hJ, hP⟩
  | succ n ih =>
    rintro i I1 w5 w6 w7 w8 w9 w10 hi hO1 hP
    have hS1 : St s I1 := St_only hS0 hO1 (by decide +kernel)
    have hdl := pD_le hW q (s 99 3) no i
    have hpa := pA_le s q (s 99 3) no i (pD s q (s 99 3) no i)
    refine XP_n 2 (pc' := 112) (ls' := [.ref (99), .int (qP q), .int (nI (no)), .int (nI (pD s q (s 99 3) no i)), .int (nI (i)), w5, w6, w7, w8, w9, w10]) (st' := [.ref (99), .int (nI (i))]) (M' := (I1, J, Rx R, N, G)) rfl ?_
    refine XP_geti hS1 rfl rfl rfl ?_
    rw [hW.y.1]
    refine XP_icN (x := i) (y := cY s) rfl (by omega) (by omega) (fun (b113 : cY s ≤ i) => absurd b113 (by omega)) (fun (b113 : i < cY s) => ?_)
    refine XP_n 2 (pc' := 116) (ls' := [.ref (99), .int (qP q), .int (nI (no)), .int (nI (pD s q (s 99 3) no i)), .int (nI (i)), w5, w6, w7, w8, w9, w10]) (st' := [.int (nI (i)), .ref (99)]) (M' := (I1, J, Rx R, N, G)) rfl ?_
    refine XP_call rfl (rfl) (m_bt hS1 hW (by omega)) ?_
    rintro v24 M24 ⟨rfl, I24, rfl, hO24⟩
    have hS24 : St s I24 := St_only hS1 hO24 (by decide +kernel)
    have hn24 : Only [125, 126, 132] I0 I24 := Only.c hO1 hO24 (by simp)
    refine XP_n 3 (pc' := 120) (ls' := [.ref (99), .int (qP q), .int (nI (no)), .int (nI (pD s q (s 99 3) no i)), .int (nI (i)), .int (gB s i), .int (nI (0)), w7, w8, w9, w10]) (st' := []) (M' := (I24, J, Rx R, N, G)) rfl ?_
    refine l_M_b6 hS24 hW hq (by omega) (by omega) hR ?_ _ 0 _ (Nat.zero_add _) Only.rf
    intro Ib hOb
    refine XP_n 4 (pc' := 159) (ls' := [.ref (99), .int (qP q), .int (nI (no)), .int (nI (pD s q (s 99 3) no i)), .int (nI (i)), .int (gB s i), .int (nI (pA s q (s 99 3) no i (pD s q (s 99 3) no i))), w7, w8, w9, w10]) (st' := [.int (nI (pA s q (s 99 3) no i (pD s q (s 99 3) no i))), .int (nI (i)), .ref (132)]) (M' := (Ib, J, Rx R, N, G)) rfl ?_
    refine XP_iast rfl rfl (show i < 16 by omega) rfl (by omega) ?_
    refine XP_n 4 (pc' := 164) (ls' := [.ref (99), .int (qP q), .int (nI (no)), .int ((nI (pD s q (s 99 3) no i)) + (nI (pA s q (s 99 3) no i (pD s q (s 99 3) no i)))), .int (nI (i)), .int (gB s i), .int (nI (pA s q (s 99 3) no i (pD s q (s 99 3) no i))), w7, w8, w9, w10]) (st' := []) (M' := ((rw2 Ib 132 i (nI (pA s q (s 99 3) no i (pD s q (s 99 3) no i)))), J, Rx R, N, G)) rfl ?_
    rw [show (nI (pD s q (s 99 3) no i)) + (nI (pA s q (s 99 3) no i (pD s q (s 99 3) no i))) = nI (pD s q (s 99 3) no i + (pA s q (s 99 3) no i (pD s q (s 99 3) no i))) from nI_addE (rfl) (rfl)]
    refine XP_n 1 (pc' := 165) (ls' := [.ref (99), .int (qP q), .int (nI (no)), .int (nI (pD s q (s 99 3) no i + (pA s q (s 99 3) no i (pD s q (s 99 3) no i)))), .int (nI (i) + nI (1)), .int (gB s i), .int (nI (pA s q (s 99 3) no i (pD s q (s 99 3) no i))), w7, w8, w9, w10]) (st' := []) (M' := ((rw2 Ib 132 i (nI (pA s q (s 99 3) no i (pD s q (s 99 3) no i)))), J, Rx R, N, G)) rfl ?_
    rw [show nI (i) + nI (1) = nI (i + 1) from nI_addE (rfl) rfl]
    refine XP_n 1 (pc' := 110) (ls' := [.ref (99), .int (qP q), .int (nI (no)), .int (nI (pD s q (s 99 3) no i + (pA s q (s 99 3) no i (pD s q (s 99 3) no i)))), .int (nI (i + 1)), .int (gB s i), .int (nI (pA s q (s 99 3) no i (pD s q (s 99 3) no i))), w7, w8, w9, w10]) (st' := []) (M' := ((rw2 Ib 132 i (nI (pA s q (s 99 3) no i (pD s q (s 99 3) no i)))), J, Rx R, N, G)) rfl ?_
    refine ih (i + 1) _ _ _ _ _ _ _ (by omega) (Only.w (Only.c hn24 hOb (by simp)) (by simp)) (fun y' h => ?_)
    by_cases e : y' = i
    · subst e
      rw [rw2_at]
      rfl
    · rw [rw2_nj _ _ _ e, hOb 132 (by simp), hO24 132 (by simp)]
      exact hP y' (by omega)
theorem m_best (hS : St s I) (hW : Wf s) {q no : Nat} (hq : q ≤ cP s) (hno : no ≤ 16) : TP X (d + 4) n_M_bestOf [.ref 99, .int (qP q), .int (nI no)] (I, J, Rx R, N, G) (fun v M' => v = some (.long (lN (pBest s q (s 99 3) no))) ∧ ∃ I' J', M' = (I', J', Rx R, N, G) ∧ Only [125, 126, 132] I I' ∧ OnlyJ [131] J J' ∧ ∀ y, y < cY s → I' 132 y = nI (pU s q (s 99 3) no y)) := by
  unfold TP
  show XP X _ k_M_bestOf 0 [.ref (99), .int (qP q), .int (nI (no)), xj, xj, xj, xj, xj, xj, xj, xj] [] _ _
  refine XP_n 2 (pc' := 2) (ls' := [.ref (99), .int (qP q), .int (nI (no)), .int (nI (0)), xj, xj, xj, xj, xj, xj, xj]) (st' := []) (M' := (I, J, Rx R, N, G)) rfl ?_
  refine l_M_b1 hS hW hq hno ?_ 49 0 _ (by omega) OnlyJ.rf (fun j h => absurd h (by omega))
  intro I1 J1 x3 w4 w5 w6 w7 w8 w9 w10 hO1 hJ1 hR
  refine XP_n 4 (pc' := 110) (ls' := [.ref (99), .int (qP q), .int (nI (no)), .int (nI (0)), .int (nI (0)), w5, w6, w7, w8, w9, w10]) (st' := []) (M' := (I1, J1, Rx R, N, G)) rfl ?_
  exact l_M_b5 hS hW hq hJ1 hR (cY s) 0 I1 _ _ _ _ _ _ (by omega) (hO1.sub (by simp)) (fun y h => absurd h (by omega))
end
