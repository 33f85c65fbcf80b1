/-! plans, the class: one year's choice -/
theorem rx33 (R : Nat → Nat → Option Nat) {y : Nat} (h : y < 17) : Rx R 33 y = some (34 + y) := by
  have e : ∀ y, y < 17 → rS 33 y = some (34 + y) := by decide +kernel
  unfold Rx
  rw [e y h]
theorem rx51 (R : Nat → Nat → Option Nat) {y : Nat} (h : y < 16) : Rx R 51 y = some (52 + y) := by
  have e : ∀ y, y < 16 → rS 51 y = some (52 + y) := by decide +kernel
  unfold Rx
  rw [e y h]
theorem rx26 (R : Nat → Nat → Option Nat) {y : Nat} (h : y < 4) : Rx R 26 y = some (27 + y) := by
  have e : ∀ y, y < 4 → rS 26 y = some (27 + y) := by decide +kernel
  unfold Rx
  rw [e y h]
theorem rx22 (R : Nat → Nat → Option Nat) {y : Nat} (h : y < 5) : Rx R 22 y = some (68 + 2 * y) := by
  have e : ∀ y, y < 5 → rS 22 y = some (68 + 2 * y) := by decide +kernel
  unfold Rx
  rw [e y h]
theorem a34 {y : Nat} (h : y < 17) : isA (34 + y) 1 = true := (by decide +kernel : ∀ y, y < 17 → isA (34 + y) 1 = true) y h
theorem a52 {y : Nat} (h : y < 16) : isA (52 + y) 0 = true := (by decide +kernel : ∀ y, y < 16 → isA (52 + y) 0 = true) y h
theorem a27 {y : Nat} (h : y < 4) : isA (27 + y) 1 = true := (by decide +kernel : ∀ y, y < 4 → isA (27 + y) 1 = true) y h
theorem l34 (N : Nat → Nat) {y : Nat} (h : y < 17) : alen N (34 + y) = 49 := by
  have e : ∀ y, y < 17 → slen (34 + y) = 49 := by decide +kernel
  unfold alen
  rw [blt_t (by omega)]
  exact e y h
theorem l52 (N : Nat → Nat) {y : Nat} (h : y < 16) : alen N (52 + y) = 49 := by
  have e : ∀ y, y < 16 → slen (52 + y) = 49 := by decide +kernel
  unfold alen
  rw [blt_t (by omega)]
  exact e y h
theorem l27 (N : Nat → Nat) {y : Nat} (h : y < 4) : alen N (27 + y) = 784 := by
  have e : ∀ y, y < 4 → slen (27 + y) = 784 := by decide +kernel
  unfold alen
  rw [blt_t (by omega)]
  exact e y h
theorem nI_min {a b : Nat} (ha : a < 2147483648) (hb : b < 2147483648) : (if nI b < nI a then nI b else nI a) = nI (min a b) := by
  by_cases h : b < a
  · rw [if_pos ((nI_ltI hb ha).mpr h), Nat.min_eq_right (by omega)]
  · rw [if_neg (fun z => h ((nI_ltI hb ha).mp z)), Nat.min_eq_left (by omega)]
theorem nI_max {a b : Nat} (ha : a < 2147483648) (hb : b < 2147483648) : (if nI a < nI b then nI b else nI a) = nI (max a b) := by
  by_cases h : a < b
  · rw [if_pos ((nI_ltI ha hb).mpr h), Nat.max_eq_right (by omega)]
  · rw [if_neg (fun z => h ((nI_ltI ha hb).mp z)), Nat.max_eq_left (by omega)]
theorem fr_le (s : Nat → Nat → Int32) {y : Nat} (h : y ≤ 16) : fr s y ≤ 48 ∧ fr s y ≤ 99 - cW s ∧ fr s y ≤ fr s (y + 1) := by
  unfold fr
  omega
section
variable {X : hX} {d : Nat} {s I : Nat → Nat → Int32} {J : Nat → Nat → Int64} {R : Nat → Nat → Option Nat} {N : Nat → Nat} {G : hG} {Q : Option Value → hM → Prop}
theorem c_fr (hS : St s I) (hW : Wf s) {y : Nat} (hy : y ≤ 16) : TP X d n_Planner_furthest [.ref 21, .int (nI y)] (I, J, Rx R, N, G) (Ret (.int (nI (fr s y))) (I, J, Rx R, N, G)) := by
  have hw := hW.w.2
  unfold TP
  show XP X _ k_Planner_furthest 0 [.ref (21), .int (nI (y))] [] _ _
  refine XP_n 6 (pc' := 6) (ls' := [.ref (21), .int (nI (y))]) (st' := [.ref (1), .int (nI (99)), .int ((nI (3)) * (nI (y)))]) (M' := (I, J, Rx R, N, G)) rfl ?_
  rw [show (nI (3)) * (nI (y)) = nI ((3) * (y)) from nI_mulE (rfl) (rfl)]
  refine XP_geti hS rfl rfl rfl ?_
  rw [hW.w.1]
  refine XP_n 1 (pc' := 8) (ls' := [.ref (21), .int (nI (y))]) (st' := [.int ((nI (99)) - (nI (cW s))), .int (nI ((3) * (y)))]) (M' := (I, J, Rx R, N, G)) rfl ?_
  rw [show (nI (99)) - (nI (cW s)) = nI (99 - (cW s)) from nI_subE (rfl) (rfl) (by omega)]
  refine XP_n 1 (pc' := 9) (ls' := [.ref (21), .int (nI (y))]) (st' := [.int ((if nI (99 - (cW s)) < nI ((3) * (y)) then nI (99 - (cW s)) else nI ((3) * (y))))]) (M' := (I, J, Rx R, N, G)) rfl ?_
  rw [show (if nI (99 - (cW s)) < nI ((3) * (y)) then nI (99 - (cW s)) else nI ((3) * (y))) = nI (fr s y) from nI_min (by omega) (by omega)]
  exact XP_ret rfl ⟨rfl, rfl⟩
theorem l_ch (hS : St s I) (hW : Wf s) (hL : Lk s R N) {q no y dd : Nat} {br : Int32} (hy : y < cY s) (hd : dd ≤ fr s y) (hno : no ≤ 16) (h9 : I 21 9 = nI no) (h10 : I 21 10 = br) (hJ11 : J 21 11 = lN (pSc s q)) (hB : I 25 y = gB s y) (hWd : ∀ d', d' ≤ fr s (y + 1) → J 32 d' = lN (hY s q y d')) (hL1 : ∀ d', d' ≤ fr s (y + 1) → J (34 + (y + 1)) d' = lN (pL s q br no (cY s - (y + 1)) d')) : ∀ (n u : Nat) (a b : Nat) (I1 : Nat → Nat → Int32) (w8 w9 w10 w11 : Value), 1 ≤ u → u + n = mst s no y dd + 1 → Only [oT (cLw s) + 3, oT (cLw s) + 2] I I1 → a = argV (fun up => pY s q br y dd up + pL s q br no (cY s - (y + 1)) (dd + up)) (u - 1) → b = minV (fun up => pY s q br y dd up + pL s q br no (cY s - (y + 1)) (dd + up)) (u - 1) →
    XP X (d + 4) k_Planner_choose 22 [.ref 21, .int (nI y), .int (nI dd), .int (nI (mst s no y dd)), .int (nI a), .long (lN b), xj, .int (nI u), w8, w9, w10, w11] [] (I1, J, Rx R, N, G) (fun v M' => v = none ∧ ∃ I', M' = (I', rw2 J (34 + y) dd (lN (pL s q br no (cY s - y) dd)), Rx R, N, G) ∧ Only [52 + y, oT (cLw s) + 3, oT (cLw s) + 2] I I' ∧ I' (52 + y) dd = nI (pA s q br no y dd) ∧ ∀ j, ¬ j = dd → I' (52 + y) j = I (52 + y) j) := by
  have hw := hW.w.2
  have hy16 := hW.y.2.2
  have hm := mst_le s no y dd
  have hf := fr_le s (show y ≤ 16 by omega)
  have hf1 := fr_le s (show y + 1 ≤ 16 by omega)
  have hmf := mst_fr (s := s) (no := no) hd
  have hmf2 : mst s no y dd ≤ fr s (y + 1) - dd := by rw [hmf]; exact Nat.min_le_right _ _
  have hp0 := pSc_le hW q
  intro n
  induction n with
  | zero =>
    rintro u a b I1 w8 w9 w10 w11 hu1 hu hO1 ha hb
    have hS1 : St s I1 := St_only hS hO1 (lw_scr hW)
    obtain rfl : u = mst s no y dd + 1 := by omega
    rw [Nat.add_sub_cancel] at ha hb
    have hb2 : b = pL s q br no (cY s - y) dd := by rw [hb, pL_y s q br no hy dd]
    have ha2 : a = pA s q br no y dd := ha
    have hpa := pA_le s q br no y dd
    refine XP_n 2 (pc' := 24) (ls' := [.ref (21), .int (nI (y)), .int (nI (dd)), .int (nI (mst s no y dd)), .int (nI (a)), .long (lN (b)), xj, .int (nI (mst s no y dd + 1)), w8, w9, w10, w11]) (st' := [.int (nI (mst s no y dd)), .int (nI (mst s no y dd + 1))]) (M' := (I1, J, Rx R, N, G)) rfl ?_
    refine XP_icN (x := mst s no y dd + 1) (y := mst s no y dd) rfl (by omega) (by omega) (fun (b24 : mst s no y dd < mst s no y dd + 1) => ?_) (fun (b24 : mst s no y dd + 1 ≤ mst s no y dd) => absurd b24 (by omega))
    refine XP_n 3 (pc' := 86) (ls' := [.ref (21), .int (nI (y)), .int (nI (dd)), .int (nI (mst s no y dd)), .int (nI (a)), .long (lN (b)), xj, .int (nI (mst s no y dd + 1)), w8, w9, w10, w11]) (st' := [.int (nI (y)), .ref (51)]) (M' := (I1, J, Rx R, N, G)) rfl ?_
    refine XP_aaldS (a := 52 + y) rfl rfl (show y < 16 by omega) rfl (by omega) (rx51 R (by omega)) ?_
    refine XP_n 4 (pc' := 91) (ls' := [.ref (21), .int (nI (y)), .int (nI (dd)), .int (nI (mst s no y dd)), .int (nI (a)), .long (lN (b)), xj, .int (nI (mst s no y dd + 1)), w8, w9, w10, w11]) (st' := [.int ((if nI (a) < nI (0) then nI (0) else nI (a))), .int (nI (dd)), .ref (52 + y)]) (M' := (I1, J, Rx R, N, G)) rfl ?_
    rw [show (if nI (a) < nI (0) then nI (0) else nI (a)) = nI (a) from (nI_max (b := 0) (by omega) (by omega)).trans (by rw [Nat.max_eq_left (by omega)])]
    refine XP_iast rfl (a52 (by omega)) (show dd < 49 by omega) (l52 N (by omega)) (by omega) ?_
    refine XP_n 3 (pc' := 95) (ls' := [.ref (21), .int (nI (y)), .int (nI (dd)), .int (nI (mst s no y dd)), .int (nI (a)), .long (lN (b)), xj, .int (nI (mst s no y dd + 1)), w8, w9, w10, w11]) (st' := [.int (nI (y)), .ref (33)]) (M' := ((rw2 I1 (52 + y) dd (nI (a))), J, Rx R, N, G)) rfl ?_
    refine XP_aaldS (a := 34 + y) rfl rfl (show y < 17 by omega) rfl (by omega) (rx33 R (by omega)) ?_
    refine XP_n 2 (pc' := 98) (ls' := [.ref (21), .int (nI (y)), .int (nI (dd)), .int (nI (mst s no y dd)), .int (nI (a)), .long (lN (b)), xj, .int (nI (mst s no y dd + 1)), w8, w9, w10, w11]) (st' := [.long (lN (b)), .int (nI (dd)), .ref (34 + y)]) (M' := ((rw2 I1 (52 + y) dd (nI (a))), J, Rx R, N, G)) rfl ?_
    refine XP_last rfl (a34 (by omega)) (show dd < 49 by omega) (l34 N (by omega)) (by omega) ?_
    refine XP_ret rfl ⟨rfl, _, by rw [hb2], ?_, ?_, ?_⟩
    · exact Only.w (hO1.sub (by simp)) (by simp)
    · rw [rw2_at, ha2]
    · intro j hj
      rw [rw2_nj _ _ _ hj]
      exact congrFun (hO1 (52 + y) (by have := oT_rg (cLw s); simp; omega)) j
  | succ n ih =>
    rintro u a b I1 w8 w9 w10 w11 hu1 hu hO1 ha hb
    have hS1 : St s I1 := St_only hS hO1 (lw_scr hW)
    have hB1 : I1 25 y = gB s y := (congrFun (hO1 25 (by have := oT_ge (cLw s); simp; omega)) y).trans hB
    have h10 : I1 21 10 = br := (congrFun (hO1 21 (by have := oT_ge (cLw s); simp; omega)) 10).trans h10
    have hYb := hY_le hW (q := q) y (dd + u)
    have hLb := pL_b hW q br no (cY s - (y + 1)) (dd + u) (by omega)
    have hab : a ≤ 3 := by
      have := argV_le (fun up => pY s q br y dd up + pL s q br no (cY s - (y + 1)) (dd + up)) (u - 1)
      omega
    have hbb : b ≤ 170000000000 := by
      rw [hb]
      refine minV_bd _ (fun z _ => ?_)
      have h1 := pY_le hW q br y dd z
      have h2 := pL_b hW q br no (cY s - (y + 1)) (dd + z) (by omega)
      show pY s q br y dd z + _ ≤ _
      omega
    have ea : argV (fun up => pY s q br y dd up + pL s q br no (cY s - (y + 1)) (dd + up)) (u + 1 - 1) = (if pY s q br y dd u + pL s q br no (cY s - (y + 1)) (dd + u) < minV (fun up => pY s q br y dd up + pL s q br no (cY s - (y + 1)) (dd + up)) (u - 1) then u else argV (fun up => pY s q br y dd up + pL s q br no (cY s - (y + 1)) (dd + up)) (u - 1)) := by
      rw [show u + 1 - 1 = (u - 1) + 1 by omega]
      show (if _ then _ else _) = _
      rw [show u - 1 + 1 = u by omega]
    have eb : minV (fun up => pY s q br y dd up + pL s q br no (cY s - (y + 1)) (dd + up)) (u + 1 - 1) = (if pY s q br y dd u + pL s q br no (cY s - (y + 1)) (dd + u) < minV (fun up => pY s q br y dd up + pL s q br no (cY s - (y + 1)) (dd + up)) (u - 1) then pY s q br y dd u + pL s q br no (cY s - (y + 1)) (dd + u) else minV (fun up => pY s q br y dd up + pL s q br no (cY s - (y + 1)) (dd + up)) (u - 1)) := by
      rw [show u + 1 - 1 = (u - 1) + 1 by omega]
      show (if _ then _ else _) = _
      rw [show u - 1 + 1 = u by omega]
    rw [← hb] at ea eb
    rw [← ha] at ea
    have hpY : pY s q br y dd u = pSc s q * nCost s br u (cW s + dd) y (gB s y) + hY s q y (dd + u) := rfl
    have hpb : pSc s q * nCost s br u (cW s + dd) y (gB s y) ≤ 396000 * 9999 := Nat.mul_le_mul hp0 (nCost_ok br u (cW s + dd) y (gB s y)).2
    rw [hpY] at ea eb
    refine XP_n 2 (pc' := 24) (ls' := [.ref (21), .int (nI (y)), .int (nI (dd)), .int (nI (mst s no y dd)), .int (nI (a)), .long (lN (b)), xj, .int (nI (u)), w8, w9, w10, w11]) (st' := [.int (nI (mst s no y dd)), .int (nI (u))]) (M' := (I1, J, Rx R, N, G)) rfl ?_
    refine XP_icN (x := u) (y := mst s no y dd) rfl (by omega) (by omega) (fun (b24 : mst s no y dd < u) => absurd b24 (by omega)) (fun (b24 : u ≤ mst s no y dd) => ?_)
    refine XP_n 4 (pc' := 29) (ls' := [.ref (21), .int (nI (y)), .int (nI (dd)), .int (nI (mst s no y dd)), .int (nI (a)), .long (lN (b)), xj, .int (nI (u)), w8, w9, w10, w11]) (st' := [.int (nI (49)), .int ((nI (dd)) + (nI (u)))]) (M' := (I1, J, Rx R, N, G)) rfl ?_
    rw [show (nI (dd)) + (nI (u)) = nI (dd + u) from nI_addE (rfl) (rfl)]
    refine XP_icN (x := dd + u) (y := 49) rfl (by omega) (by omega) (fun (b29 : 49 ≤ dd + u) => absurd b29 (by omega)) (fun (b29 : dd + u < 49) => ?_)
    refine XP_n 2 (pc' := 32) (ls' := [.ref (21), .int (nI (y)), .int (nI (dd)), .int (nI (mst s no y dd)), .int (nI (a)), .long (lN (b)), xj, .int (nI (u)), w8, w9, w10, w11]) (st' := [.long (J 21 11)]) (M' := (I1, J, Rx R, N, G)) rfl ?_
    rw [hJ11]
    refine XP_n 5 (pc' := 37) (ls' := [.ref (21), .int (nI (y)), .int (nI (dd)), .int (nI (mst s no y dd)), .int (nI (a)), .long (lN (b)), xj, .int (nI (u)), w8, w9, w10, w11]) (st' := [.ref (1), .int (nI (u)), .ref (1), .long (lN (pSc s q))]) (M' := (I1, J, Rx R, N, G)) rfl ?_
    refine XP_geti hS1 rfl rfl rfl ?_
    rw [hW.w.1]
    refine XP_n 6 (pc' := 44) (ls' := [.ref (21), .int (nI (y)), .int (nI (dd)), .int (nI (mst s no y dd)), .int (nI (a)), .long (lN (b)), xj, .int (nI (u)), w8, w9, w10, w11]) (st' := [.int (nI (y)), .ref (25), .int (nI (y)), .int ((nI (cW s)) + (nI (dd))), .int (nI (u)), .ref (1), .long (lN (pSc s q))]) (M' := (I1, J, Rx R, N, G)) rfl ?_
    rw [show (nI (cW s)) + (nI (dd)) = nI (cW s + dd) from nI_addE (rfl) (rfl)]
    refine XP_iraw rfl rfl (show y < 17 by omega) rfl (by omega) ?_
    rw [show I1 25 y = gB s y from hB1]
    refine XP_n 2 (pc' := 47) (ls' := [.ref (21), .int (nI (y)), .int (nI (dd)), .int (nI (mst s no y dd)), .int (nI (a)), .long (lN (b)), xj, .int (nI (u)), w8, w9, w10, w11]) (st' := [.int (I1 21 10), .int (gB s y), .int (nI (y)), .int (nI (cW s + dd)), .int (nI (u)), .ref (1), .long (lN (pSc s q))]) (M' := (I1, J, Rx R, N, G)) rfl ?_
    rw [h10]
    refine XP_call rfl (rfl) (c_cost hS1 hW hL _ _ _ _ _) ?_
    rintro v21 M21 ⟨rfl, I21, rfl, hO21⟩
    have hS21 : St s I21 := St_only hS1 hO21 (lw_scr hW)
    have hn21 : Only [oT (cLw s) + 3, oT (cLw s) + 2] I I21 := Only.c hO1 hO21 (by simp)
    rw [(nCost_ok (s := s) (br) (u) (cW s + dd) (y) (gB s y)).1]
    have hc21 := (nCost_ok (s := s) (br) (u) (cW s + dd) (y) (gB s y)).2
    refine XP_n 3 (pc' := 51) (ls' := [.ref (21), .int (nI (y)), .int (nI (dd)), .int (nI (mst s no y dd)), .int (nI (a)), .long (lN (b)), xj, .int (nI (u)), .long ((lN (pSc s q)) * ((nI (nCost s (br) (u) (cW s + dd) (y) (gB s y))).toInt64)), xj, w10, w11]) (st' := []) (M' := (I21, J, Rx R, N, G)) rfl ?_
    rw [show (lN (pSc s q)) * ((nI (nCost s (br) (u) (cW s + dd) (y) (gB s y))).toInt64) = lN ((pSc s q) * (nCost s (br) (u) (cW s + dd) (y) (gB s y))) from lN_mulE (rfl) (nI_lE (rfl) (by omega))]
    refine XP_n 6 (pc' := 57) (ls' := [.ref (21), .int (nI (y)), .int (nI (dd)), .int (nI (mst s no y dd)), .int (nI (a)), .long (lN (b)), xj, .int (nI (u)), .long (lN ((pSc s q) * (nCost s (br) (u) (cW s + dd) (y) (gB s y)))), xj, w10, w11]) (st' := [.int ((nI (dd)) + (nI (u))), .ref (32), .long (lN ((pSc s q) * (nCost s (br) (u) (cW s + dd) (y) (gB s y))))]) (M' := (I21, J, Rx R, N, G)) rfl ?_
    rw [show (nI (dd)) + (nI (u)) = nI (dd + u) from nI_addE (rfl) (rfl)]
    refine XP_lraw rfl rfl (show dd + u < 49 by omega) rfl (by omega) ?_
    rw [show J 32 (dd + u) = lN (hY s q y (dd + u)) from hWd _ (by omega)]
    refine XP_n 6 (pc' := 64) (ls' := [.ref (21), .int (nI (y)), .int (nI (dd)), .int (nI (mst s no y dd)), .int (nI (a)), .long (lN (b)), xj, .int (nI (u)), .long (lN ((pSc s q) * (nCost s (br) (u) (cW s + dd) (y) (gB s y)))), xj, w10, w11]) (st' := [.int ((nI (y)) + (nI (1))), .ref (33), .long ((lN ((pSc s q) * (nCost s (br) (u) (cW s + dd) (y) (gB s y)))) + (lN (hY s q y (dd + u))))]) (M' := (I21, J, Rx R, N, G)) rfl ?_
    rw [show (nI (y)) + (nI (1)) = nI (y + 1) from nI_addE (rfl) (rfl)]
    rw [show (lN ((pSc s q) * (nCost s (br) (u) (cW s + dd) (y) (gB s y)))) + (lN (hY s q y (dd + u))) = lN ((pSc s q) * (nCost s (br) (u) (cW s + dd) (y) (gB s y)) + (hY s q y (dd + u))) from lN_addE (rfl) (rfl)]
    refine XP_aaldS (a := 34 + (y + 1)) rfl rfl (show y + 1 < 17 by omega) rfl (by omega) (rx33 R (by omega)) ?_
    refine XP_n 3 (pc' := 68) (ls' := [.ref (21), .int (nI (y)), .int (nI (dd)), .int (nI (mst s no y dd)), .int (nI (a)), .long (lN (b)), xj, .int (nI (u)), .long (lN ((pSc s q) * (nCost s (br) (u) (cW s + dd) (y) (gB s y)))), xj, w10, w11]) (st' := [.int ((nI (dd)) + (nI (u))), .ref (34 + (y + 1)), .long (lN ((pSc s q) * (nCost s (br) (u) (cW s + dd) (y) (gB s y)) + (hY s q y (dd + u))))]) (M' := (I21, J, Rx R, N, G)) rfl ?_
    rw [show (nI (dd)) + (nI (u)) = nI (dd + u) from nI_addE (rfl) (rfl)]
    refine XP_lraw rfl (a34 (by omega)) (show dd + u < 49 by omega) (l34 N (by omega)) (by omega) ?_
    rw [show J (34 + (y + 1)) (dd + u) = lN (pL s q br no (cY s - (y + 1)) (dd + u)) from hL1 _ (by omega)]
    refine XP_n 2 (pc' := 71) (ls' := [.ref (21), .int (nI (y)), .int (nI (dd)), .int (nI (mst s no y dd)), .int (nI (a)), .long (lN (b)), xj, .int (nI (u)), .long (lN ((pSc s q) * (nCost s (br) (u) (cW s + dd) (y) (gB s y)))), xj, .long ((lN ((pSc s q) * (nCost s (br) (u) (cW s + dd) (y) (gB s y)) + (hY s q y (dd + u)))) + (lN (pL s q br no (cY s - (y + 1)) (dd + u)))), xj]) (st' := []) (M' := (I21, J, Rx R, N, G)) rfl ?_
    rw [show (lN ((pSc s q) * (nCost s (br) (u) (cW s + dd) (y) (gB s y)) + (hY s q y (dd + u)))) + (lN (pL s q br no (cY s - (y + 1)) (dd + u))) = lN ((pSc s q) * (nCost s (br) (u) (cW s + dd) (y) (gB s y)) + (hY s q y (dd + u)) + (pL s q br no (cY s - (y + 1)) (dd + u))) from lN_addE (rfl) (rfl)]
    refine XP_n 1 (pc' := 72) (ls' := [.ref (21), .int (nI (y)), .int (nI (dd)), .int (nI (mst s no y dd)), .int (nI (a)), .long (lN (b)), xj, .int (nI (u)), .long (lN ((pSc s q) * (nCost s (br) (u) (cW s + dd) (y) (gB s y)))), xj, .long (lN ((pSc s q) * (nCost s (br) (u) (cW s + dd) (y) (gB s y)) + (hY s q y (dd + u)) + (pL s q br no (cY s - (y + 1)) (dd + u)))), xj]) (st' := [.int (nI (a))]) (M' := (I21, J, Rx R, N, G)) rfl ?_
    refine XP_ifN (x := a)  rfl (by omega) (fun (b72 : a < 0) => absurd b72 (by omega)) (fun (b72 : 0 ≤ a) => ?_)
    refine XP_n 2 (pc' := 75) (ls' := [.ref (21), .int (nI (y)), .int (nI (dd)), .int (nI (mst s no y dd)), .int (nI (a)), .long (lN (b)), xj, .int (nI (u)), .long (lN ((pSc s q) * (nCost s (br) (u) (cW s + dd) (y) (gB s y)))), xj, .long (lN ((pSc s q) * (nCost s (br) (u) (cW s + dd) (y) (gB s y)) + (hY s q y (dd + u)) + (pL s q br no (cY s - (y + 1)) (dd + u)))), xj]) (st' := [.long (lN (b)), .long (lN ((pSc s q) * (nCost s (br) (u) (cW s + dd) (y) (gB s y)) + (hY s q y (dd + u)) + (pL s q br no (cY s - (y + 1)) (dd + u))))]) (M' := (I21, J, Rx R, N, G)) rfl ?_
    refine XP_lcN (x := (pSc s q) * (nCost s (br) (u) (cW s + dd) (y) (gB s y)) + (hY s q y (dd + u)) + (pL s q br no (cY s - (y + 1)) (dd + u))) (y := b) rfl rfl (by omega) (by omega) (fun (b76 : b ≤ (pSc s q) * (nCost s (br) (u) (cW s + dd) (y) (gB s y)) + (hY s q y (dd + u)) + (pL s q br no (cY s - (y + 1)) (dd + u))) => ?_) (fun (b76 : (pSc s q) * (nCost s (br) (u) (cW s + dd) (y) (gB s y)) + (hY s q y (dd + u)) + (pL s q br no (cY s - (y + 1)) (dd + u)) < b) => ?_)
    · refine XP_n 1 (pc' := 82) (ls' := [.ref (21), .int (nI (y)), .int (nI (dd)), .int (nI (mst s no y dd)), .int (nI (a)), .long (lN (b)), xj, .int (nI (u) + nI (1)), .long (lN ((pSc s q) * (nCost s (br) (u) (cW s + dd) (y) (gB s y)))), xj, .long (lN ((pSc s q) * (nCost s (br) (u) (cW s + dd) (y) (gB s y)) + (hY s q y (dd + u)) + (pL s q br no (cY s - (y + 1)) (dd + u)))), xj]) (st' := []) (M' := (I21, J, Rx R, N, G)) rfl ?_
      rw [show nI (u) + nI (1) = nI (u + 1) from nI_addE (rfl) rfl]
      refine XP_n 1 (pc' := 22) (ls' := [.ref (21), .int (nI (y)), .int (nI (dd)), .int (nI (mst s no y dd)), .int (nI (a)), .long (lN (b)), xj, .int (nI (u + 1)), .long (lN ((pSc s q) * (nCost s (br) (u) (cW s + dd) (y) (gB s y)))), xj, .long (lN ((pSc s q) * (nCost s (br) (u) (cW s + dd) (y) (gB s y)) + (hY s q y (dd + u)) + (pL s q br no (cY s - (y + 1)) (dd + u)))), xj]) (st' := []) (M' := (I21, J, Rx R, N, G)) rfl ?_
      exact ih (u + 1) _ _ _ _ _ _ _ (by omega) (by omega) hn21 (by rw [ea, if_neg (by omega)]) (by rw [eb, if_neg (by omega)])
    · refine XP_n 5 (pc' := 82) (ls' := [.ref (21), .int (nI (y)), .int (nI (dd)), .int (nI (mst s no y dd)), .int (nI (u)), .long (lN ((pSc s q) * (nCost s (br) (u) (cW s + dd) (y) (gB s y)) + (hY s q y (dd + u)) + (pL s q br no (cY s - (y + 1)) (dd + u)))), xj, .int (nI (u) + nI (1)), .long (lN ((pSc s q) * (nCost s (br) (u) (cW s + dd) (y) (gB s y)))), xj, .long (lN ((pSc s q) * (nCost s (br) (u) (cW s + dd) (y) (gB s y)) + (hY s q y (dd + u)) + (pL s q br no (cY s - (y + 1)) (dd + u)))), xj]) (st' := []) (M' := (I21, J, Rx R, N, G)) rfl ?_
      rw [show nI (u) + nI (1) = nI (u + 1) from nI_addE (rfl) rfl]
      refine XP_n 1 (pc' := 22) (ls' := [.ref (21), .int (nI (y)), .int (nI (dd)), .int (nI (mst s no y dd)), .int (nI (u)), .long (lN ((pSc s q) * (nCost s (br) (u) (cW s + dd) (y) (gB s y)) + (hY s q y (dd + u)) + (pL s q br no (cY s - (y + 1)) (dd + u)))), xj, .int (nI (u + 1)), .long (lN ((pSc s q) * (nCost s (br) (u) (cW s + dd) (y) (gB s y)))), xj, .long (lN ((pSc s q) * (nCost s (br) (u) (cW s + dd) (y) (gB s y)) + (hY s q y (dd + u)) + (pL s q br no (cY s - (y + 1)) (dd + u)))), xj]) (st' := []) (M' := (I21, J, Rx R, N, G)) rfl ?_
      exact ih (u + 1) _ _ _ _ _ _ _ (by omega) (by omega) hn21 (by rw [ea, if_pos (by omega)]) (by rw [eb, if_pos (by omega)])
theorem c_choose (hS : St s I) (hW : Wf s) (hL : Lk s R N) {q no y dd : Nat} {br : Int32} (hy : y < cY s) (hd : dd ≤ fr s y) (hno : no ≤ 16) (h9 : I 21 9 = nI no) (h10 : I 21 10 = br) (hJ11 : J 21 11 = lN (pSc s q)) (hB : I 25 y = gB s y) (hWd : ∀ d', d' ≤ fr s (y + 1) → J 32 d' = lN (hY s q y d')) (hL1 : ∀ d', d' ≤ fr s (y + 1) → J (34 + (y + 1)) d' = lN (pL s q br no (cY s - (y + 1)) d')) : TP X (d + 4) n_Planner_choose [.ref 21, .int (nI y), .int (nI dd)] (I, J, Rx R, N, G) (fun v M' => v = none ∧ ∃ I', M' = (I', rw2 J (34 + y) dd (lN (pL s q br no (cY s - y) dd)), Rx R, N, G) ∧ Only [52 + y, oT (cLw s) + 3, oT (cLw s) + 2] I I' ∧ I' (52 + y) dd = nI (pA s q br no y dd) ∧ ∀ j, ¬ j = dd → I' (52 + y) j = I (52 + y) j) := by
  have hw := hW.w.2
  have hy16 := hW.y.2.2
  have hm := mst_le s no y dd
  have hf := fr_le s (show y ≤ 16 by omega)
  have hf1 := fr_le s (show y + 1 ≤ 16 by omega)
  have hmf := mst_fr (s := s) (no := no) hd
  have hmf2 : mst s no y dd ≤ fr s (y + 1) - dd := by rw [hmf]; exact Nat.min_le_right _ _
  have hp0 := pSc_le hW q
  have k16 : XP X (d + 4) k_Planner_choose 16 [.ref 21, .int (nI y), .int (nI dd), .int (nI (mst s no y dd)), xj, xj, xj, xj, xj, xj, xj, xj] [] (I, J, Rx R, N, G) (fun v M' => v = none ∧ ∃ I', M' = (I', rw2 J (34 + y) dd (lN (pL s q br no (cY s - y) dd)), Rx R, N, G) ∧ Only [52 + y, oT (cLw s) + 3, oT (cLw s) + 2] I I' ∧ I' (52 + y) dd = nI (pA s q br no y dd) ∧ ∀ j, ¬ j = dd → I' (52 + y) j = I (52 + y) j) := by
    have hB1 := hB
    have hLb := pL_b hW q br no (cY s - (y + 1)) (dd + 0) (by omega)
    have hYb := hY_le hW (q := q) y (dd + 0)
    refine XP_n 6 (pc' := 22) (ls' := [.ref (21), .int (nI (y)), .int (nI (dd)), .int (nI (mst s no y dd)), .int (cI (-1)), .long (lN (0)), xj, .int (nI (0)), xj, xj, xj, xj]) (st' := []) (M' := (I, J, Rx R, N, G)) rfl ?_
    refine XP_n 2 (pc' := 24) (ls' := [.ref (21), .int (nI (y)), .int (nI (dd)), .int (nI (mst s no y dd)), .int (cI (-1)), .long (lN (0)), xj, .int (nI (0)), xj, xj, xj, xj]) (st' := [.int (nI (mst s no y dd)), .int (nI (0))]) (M' := (I, J, Rx R, N, G)) rfl ?_
    refine XP_icN (x := 0) (y := mst s no y dd) rfl (by omega) (by omega) (fun (b24 : mst s no y dd < 0) => absurd b24 (by omega)) (fun (b24 : 0 ≤ mst s no y dd) => ?_)
    refine XP_n 4 (pc' := 29) (ls' := [.ref (21), .int (nI (y)), .int (nI (dd)), .int (nI (mst s no y dd)), .int (cI (-1)), .long (lN (0)), xj, .int (nI (0)), xj, xj, xj, xj]) (st' := [.int (nI (49)), .int ((nI (dd)) + (nI (0)))]) (M' := (I, J, Rx R, N, G)) rfl ?_
    rw [show (nI (dd)) + (nI (0)) = nI (dd + 0) from nI_addE (rfl) (rfl)]
    refine XP_icN (x := dd + 0) (y := 49) rfl (by omega) (by omega) (fun (b29 : 49 ≤ dd + 0) => absurd b29 (by omega)) (fun (b29 : dd + 0 < 49) => ?_)
    refine XP_n 2 (pc' := 32) (ls' := [.ref (21), .int (nI (y)), .int (nI (dd)), .int (nI (mst s no y dd)), .int (cI (-1)), .long (lN (0)), xj, .int (nI (0)), xj, xj, xj, xj]) (st' := [.long (J 21 11)]) (M' := (I, J, Rx R, N, G)) rfl ?_
    rw [hJ11]
    refine XP_n 5 (pc' := 37) (ls' := [.ref (21), .int (nI (y)), .int (nI (dd)), .int (nI (mst s no y dd)), .int (cI (-1)), .long (lN (0)), xj, .int (nI (0)), xj, xj, xj, xj]) (st' := [.ref (1), .int (nI (0)), .ref (1), .long (lN (pSc s q))]) (M' := (I, J, Rx R, N, G)) rfl ?_
    refine XP_geti hS rfl rfl rfl ?_
    rw [hW.w.1]
    refine XP_n 6 (pc' := 44) (ls' := [.ref (21), .int (nI (y)), .int (nI (dd)), .int (nI (mst s no y dd)), .int (cI (-1)), .long (lN (0)), xj, .int (nI (0)), xj, xj, xj, xj]) (st' := [.int (nI (y)), .ref (25), .int (nI (y)), .int ((nI (cW s)) + (nI (dd))), .int (nI (0)), .ref (1), .long (lN (pSc s q))]) (M' := (I, J, Rx R, N, G)) rfl ?_
    rw [show (nI (cW s)) + (nI (dd)) = nI (cW s + dd) from nI_addE (rfl) (rfl)]
    refine XP_iraw rfl rfl (show y < 17 by omega) rfl (by omega) ?_
    rw [show I 25 y = gB s y from hB1]
    refine XP_n 2 (pc' := 47) (ls' := [.ref (21), .int (nI (y)), .int (nI (dd)), .int (nI (mst s no y dd)), .int (cI (-1)), .long (lN (0)), xj, .int (nI (0)), xj, xj, xj, xj]) (st' := [.int (I 21 10), .int (gB s y), .int (nI (y)), .int (nI (cW s + dd)), .int (nI (0)), .ref (1), .long (lN (pSc s q))]) (M' := (I, J, Rx R, N, G)) rfl ?_
    rw [h10]
    refine XP_call rfl (rfl) (c_cost hS hW hL _ _ _ _ _) ?_
    rintro v22 M22 ⟨rfl, I22, rfl, hO22⟩
    have hS22 : St s I22 := St_only hS hO22 (lw_scr hW)
    have hn22 : Only [oT (cLw s) + 3, oT (cLw s) + 2] I I22 := Only.c Only.rf hO22 (by simp)
    rw [(nCost_ok (s := s) (br) (0) (cW s + dd) (y) (gB s y)).1]
    have hc22 := (nCost_ok (s := s) (br) (0) (cW s + dd) (y) (gB s y)).2
    refine XP_n 3 (pc' := 51) (ls' := [.ref (21), .int (nI (y)), .int (nI (dd)), .int (nI (mst s no y dd)), .int (cI (-1)), .long (lN (0)), xj, .int (nI (0)), .long ((lN (pSc s q)) * ((nI (nCost s (br) (0) (cW s + dd) (y) (gB s y))).toInt64)), xj, xj, xj]) (st' := []) (M' := (I22, J, Rx R, N, G)) rfl ?_
    rw [show (lN (pSc s q)) * ((nI (nCost s (br) (0) (cW s + dd) (y) (gB s y))).toInt64) = lN ((pSc s q) * (nCost s (br) (0) (cW s + dd) (y) (gB s y))) from lN_mulE (rfl) (nI_lE (rfl) (by omega))]
    refine XP_n 6 (pc' := 57) (ls' := [.ref (21), .int (nI (y)), .int (nI (dd)), .int (nI (mst s no y dd)), .int (cI (-1)), .long (lN (0)), xj, .int (nI (0)), .long (lN ((pSc s q) * (nCost s (br) (0) (cW s + dd) (y) (gB s y)))), xj, xj, xj]) (st' := [.int ((nI (dd)) + (nI (0))), .ref (32), .long (lN ((pSc s q) * (nCost s (br) (0) (cW s + dd) (y) (gB s y))))]) (M' := (I22, J, Rx R, N, G)) rfl ?_
    rw [show (nI (dd)) + (nI (0)) = nI (dd + 0) from nI_addE (rfl) (rfl)]
    refine XP_lraw rfl rfl (show dd + 0 < 49 by omega) rfl (by omega) ?_
    rw [show J 32 (dd + 0) = lN (hY s q y (dd + 0)) from hWd _ (by omega)]
    refine XP_n 6 (pc' := 64) (ls' := [.ref (21), .int (nI (y)), .int (nI (dd)), .int (nI (mst s no y dd)), .int (cI (-1)), .long (lN (0)), xj, .int (nI (0)), .long (lN ((pSc s q) * (nCost s (br) (0) (cW s + dd) (y) (gB s y)))), xj, xj, xj]) (st' := [.int ((nI (y)) + (nI (1))), .ref (33), .long ((lN ((pSc s q) * (nCost s (br) (0) (cW s + dd) (y) (gB s y)))) + (lN (hY s q y (dd + 0))))]) (M' := (I22, J, Rx R, N, G)) rfl ?_
    rw [show (nI (y)) + (nI (1)) = nI (y + 1) from nI_addE (rfl) (rfl)]
    rw [show (lN ((pSc s q) * (nCost s (br) (0) (cW s + dd) (y) (gB s y)))) + (lN (hY s q y (dd + 0))) = lN ((pSc s q) * (nCost s (br) (0) (cW s + dd) (y) (gB s y)) + (hY s q y (dd + 0))) from lN_addE (rfl) (rfl)]
    refine XP_aaldS (a := 34 + (y + 1)) rfl rfl (show y + 1 < 17 by omega) rfl (by omega) (rx33 R (by omega)) ?_
    refine XP_n 3 (pc' := 68) (ls' := [.ref (21), .int (nI (y)), .int (nI (dd)), .int (nI (mst s no y dd)), .int (cI (-1)), .long (lN (0)), xj, .int (nI (0)), .long (lN ((pSc s q) * (nCost s (br) (0) (cW s + dd) (y) (gB s y)))), xj, xj, xj]) (st' := [.int ((nI (dd)) + (nI (0))), .ref (34 + (y + 1)), .long (lN ((pSc s q) * (nCost s (br) (0) (cW s + dd) (y) (gB s y)) + (hY s q y (dd + 0))))]) (M' := (I22, J, Rx R, N, G)) rfl ?_
    rw [show (nI (dd)) + (nI (0)) = nI (dd + 0) from nI_addE (rfl) (rfl)]
    refine XP_lraw rfl (a34 (by omega)) (show dd + 0 < 49 by omega) (l34 N (by omega)) (by omega) ?_
    rw [show J (34 + (y + 1)) (dd + 0) = lN (pL s q br no (cY s - (y + 1)) (dd + 0)) from hL1 _ (by omega)]
    refine XP_n 2 (pc' := 71) (ls' := [.ref (21), .int (nI (y)), .int (nI (dd)), .int (nI (mst s no y dd)), .int (cI (-1)), .long (lN (0)), xj, .int (nI (0)), .long (lN ((pSc s q) * (nCost s (br) (0) (cW s + dd) (y) (gB s y)))), xj, .long ((lN ((pSc s q) * (nCost s (br) (0) (cW s + dd) (y) (gB s y)) + (hY s q y (dd + 0)))) + (lN (pL s q br no (cY s - (y + 1)) (dd + 0)))), xj]) (st' := []) (M' := (I22, J, Rx R, N, G)) rfl ?_
    rw [show (lN ((pSc s q) * (nCost s (br) (0) (cW s + dd) (y) (gB s y)) + (hY s q y (dd + 0)))) + (lN (pL s q br no (cY s - (y + 1)) (dd + 0))) = lN ((pSc s q) * (nCost s (br) (0) (cW s + dd) (y) (gB s y)) + (hY s q y (dd + 0)) + (pL s q br no (cY s - (y + 1)) (dd + 0))) from lN_addE (rfl) (rfl)]
    refine XP_n 1 (pc' := 72) (ls' := [.ref (21), .int (nI (y)), .int (nI (dd)), .int (nI (mst s no y dd)), .int (cI (-1)), .long (lN (0)), xj, .int (nI (0)), .long (lN ((pSc s q) * (nCost s (br) (0) (cW s + dd) (y) (gB s y)))), xj, .long (lN ((pSc s q) * (nCost s (br) (0) (cW s + dd) (y) (gB s y)) + (hY s q y (dd + 0)) + (pL s q br no (cY s - (y + 1)) (dd + 0)))), xj]) (st' := [.int (cI (-1))]) (M' := (I22, J, Rx R, N, G)) rfl ?_
    refine XP_ifD rfl (fun (b72 : cI (-1) < 0) => ?_) (fun (b72 : 0 ≤ cI (-1)) => absurd b72 (by decide))
    have n72 := Int32.not_le.mpr b72
    refine XP_n 5 (pc' := 82) (ls' := [.ref (21), .int (nI (y)), .int (nI (dd)), .int (nI (mst s no y dd)), .int (nI (0)), .long (lN ((pSc s q) * (nCost s (br) (0) (cW s + dd) (y) (gB s y)) + (hY s q y (dd + 0)) + (pL s q br no (cY s - (y + 1)) (dd + 0)))), xj, .int (nI (0) + nI (1)), .long (lN ((pSc s q) * (nCost s (br) (0) (cW s + dd) (y) (gB s y)))), xj, .long (lN ((pSc s q) * (nCost s (br) (0) (cW s + dd) (y) (gB s y)) + (hY s q y (dd + 0)) + (pL s q br no (cY s - (y + 1)) (dd + 0)))), xj]) (st' := []) (M' := (I22, J, Rx R, N, G)) rfl ?_
    rw [show nI (0) + nI (1) = nI (0 + 1) from nI_addE (rfl) rfl]
    refine XP_n 1 (pc' := 22) (ls' := [.ref (21), .int (nI (y)), .int (nI (dd)), .int (nI (mst s no y dd)), .int (nI (0)), .long (lN ((pSc s q) * (nCost s (br) (0) (cW s + dd) (y) (gB s y)) + (hY s q y (dd + 0)) + (pL s q br no (cY s - (y + 1)) (dd + 0)))), xj, .int (nI (0 + 1)), .long (lN ((pSc s q) * (nCost s (br) (0) (cW s + dd) (y) (gB s y)))), xj, .long (lN ((pSc s q) * (nCost s (br) (0) (cW s + dd) (y) (gB s y)) + (hY s q y (dd + 0)) + (pL s q br no (cY s - (y + 1)) (dd + 0)))), xj]) (st' := []) (M' := (I22, J, Rx R, N, G)) rfl ?_
    exact l_ch hS hW hL hy hd hno h9 h10 hJ11 hB hWd hL1 (mst s no y dd) 1 _ _ _ _ _ _ _ (by omega) (by omega) hn22 rfl rfl
  unfold TP
  show XP X _ k_Planner_choose 0 [.ref (21), .int (nI (y)), .int (nI (dd)), xj, xj, xj, xj, xj, xj, xj, xj, xj] [] _ _
  refine XP_n 3 (pc' := 3) (ls' := [.ref (21), .int (nI (y)), .int (nI (dd)), xj, xj, xj, xj, xj, xj, xj, xj, xj]) (st' := [.int (I 21 9), .int (nI (y))]) (M' := (I, J, Rx R, N, G)) rfl ?_
  rw [h9]
  refine XP_icN (x := y) (y := no) rfl (by omega) (by omega) (fun (b3 : no ≤ y) => ?_) (fun (b3 : y < no) => ?_)
  · refine XP_n 5 (pc' := 11) (ls' := [.ref (21), .int (nI (y)), .int (nI (dd)), xj, xj, xj, xj, xj, xj, xj, xj, xj]) (st' := [.int ((nI (y)) + (nI (1))), .ref (21), .int (nI (3))]) (M' := (I, J, Rx R, N, G)) rfl ?_
    rw [show (nI (y)) + (nI (1)) = nI (y + 1) from nI_addE (rfl) (rfl)]
    refine XP_pure rfl rfl (c_fr hS hW (by omega)) ?_
    refine XP_n 2 (pc' := 14) (ls' := [.ref (21), .int (nI (y)), .int (nI (dd)), xj, xj, xj, xj, xj, xj, xj, xj, xj]) (st' := [.int ((nI (fr s (y + 1))) - (nI (dd))), .int (nI (3))]) (M' := (I, J, Rx R, N, G)) rfl ?_
    rw [show (nI (fr s (y + 1))) - (nI (dd)) = nI (fr s (y + 1) - dd) from nI_subE (rfl) (rfl) (by omega)]
    refine XP_n 1 (pc' := 15) (ls' := [.ref (21), .int (nI (y)), .int (nI (dd)), xj, xj, xj, xj, xj, xj, xj, xj, xj]) (st' := [.int ((if nI (fr s (y + 1) - dd) < nI (3) then nI (fr s (y + 1) - dd) else nI (3)))]) (M' := (I, J, Rx R, N, G)) rfl ?_
    rw [show (if nI (fr s (y + 1) - dd) < nI (3) then nI (fr s (y + 1) - dd) else nI (3)) = nI (mst s no y dd) from (nI_min (by omega) (by omega)).trans (by rw [hmf]; first | rw [if_neg (by omega)] | rw [if_pos (by omega)])]
    refine XP_n 1 (pc' := 16) (ls' := [.ref (21), .int (nI (y)), .int (nI (dd)), .int (nI (mst s no y dd)), xj, xj, xj, xj, xj, xj, xj, xj]) (st' := []) (M' := (I, J, Rx R, N, G)) rfl ?_
    exact k16
  · refine XP_n 6 (pc' := 11) (ls' := [.ref (21), .int (nI (y)), .int (nI (dd)), xj, xj, xj, xj, xj, xj, xj, xj, xj]) (st' := [.int ((nI (y)) + (nI (1))), .ref (21), .int (nI (0))]) (M' := (I, J, Rx R, N, G)) rfl ?_
    rw [show (nI (y)) + (nI (1)) = nI (y + 1) from nI_addE (rfl) (rfl)]
    refine XP_pure rfl rfl (c_fr hS hW (by omega)) ?_
    refine XP_n 2 (pc' := 14) (ls' := [.ref (21), .int (nI (y)), .int (nI (dd)), xj, xj, xj, xj, xj, xj, xj, xj, xj]) (st' := [.int ((nI (fr s (y + 1))) - (nI (dd))), .int (nI (0))]) (M' := (I, J, Rx R, N, G)) rfl ?_
    rw [show (nI (fr s (y + 1))) - (nI (dd)) = nI (fr s (y + 1) - dd) from nI_subE (rfl) (rfl) (by omega)]
    refine XP_n 1 (pc' := 15) (ls' := [.ref (21), .int (nI (y)), .int (nI (dd)), xj, xj, xj, xj, xj, xj, xj, xj, xj]) (st' := [.int ((if nI (fr s (y + 1) - dd) < nI (0) then nI (fr s (y + 1) - dd) else nI (0)))]) (M' := (I, J, Rx R, N, G)) rfl ?_
    rw [show (if nI (fr s (y + 1) - dd) < nI (0) then nI (fr s (y + 1) - dd) else nI (0)) = nI (mst s no y dd) from (nI_min (by omega) (by omega)).trans (by rw [hmf]; first | rw [if_neg (by omega)] | rw [if_pos (by omega)])]
    refine XP_n 1 (pc' := 16) (ls' := [.ref (21), .int (nI (y)), .int (nI (dd)), .int (nI (mst s no y dd)), xj, xj, xj, xj, xj, xj, xj, xj]) (st' := []) (M' := (I, J, Rx R, N, G)) rfl ?_
    exact k16
end
