/-! plans, the class: what a year's walls let through -/
def wpT (s : Nat → Nat → Int32) (q y dd : Nat) (o : Nat) : Nat := if q = 0 then rWt s o * nHarm s (nLv s o y) (cW s + dd) y (gB s y) else if o = q - 1 then nHarm s (nLv s o y) (cW s + dd) y (gB s y) else 0
theorem wp_end {s : Nat → Nat → Int32} {q : Nat} (hq : q ≤ cP s) (y dd : Nat) : sumN (wpT s q y dd) (cP s) = hY s q y dd := by
  unfold hY
  by_cases h : q = 0
  · rw [if_pos h]
    exact sumN_congr (fun i _ => by unfold wpT; rw [if_pos h])
  · rw [if_neg h, sumN_1 (p := q - 1) (fun i _ hi => by unfold wpT; rw [if_neg h, if_neg hi]) (by omega)]
    unfold wpT
    rw [if_neg h, if_pos rfl]
theorem wp_le {s : Nat → Nat → Int32} (hW : Wf s) {q : Nat} (y dd : Nat) {i : Nat} (hi : i ≤ cP s) : sumN (wpT s q y dd) i ≤ 396 * 9999000 := by
  have h4 := hW.p.2
  have h1 := sumN_le (f := wpT s q y dd) (c := 99 * 9999000) (n := i) (fun o ho => by
    have hh := (nHarm_ok hW (nLv s o y) (cW s + dd) y (gB s y)).2
    unfold wpT
    split
    · exact Nat.mul_le_mul (hW.pw (by omega)).2.2 hh
    · split <;> omega)
  have h5 : i * (99 * 9999000) ≤ 4 * (99 * 9999000) := Nat.mul_le_mul_right _ (by omega)
  exact Nat.le_trans h1 (Nat.le_trans h5 (by decide))
section
variable {X : hX} {d : Nat} {s I : Nat → Nat → Int32} {J : Nat → Nat → Int64} {R : Nat → Nat → Option Nat} {N : Nat → Nat} {G : hG} {Q : Option Value → hM → Prop}
theorem l_whA (hS : St s I) (hW : Wf s) {q y : Nat} (hq : q ≤ cP s) (hy : y < cY s) (hH : ∀ o, o < cP s → q = 0 ∨ o = q - 1 → ∀ d', d' ≤ fr s (y + 1) → J (27 + o) (y * 49 + d') = lN (nHarm s (nLv s o y) (cW s + d') y (gB s y))) {dd : Nat} {J0 : Nat → Nat → Int64} (hdd : dd ≤ fr s (y + 1)) (h0 : q = 0) (kk : ∀ (J1 : Nat → Nat → Int64) (w5 w6 : Value), OnlyJ [32] J J1 → J1 32 dd = lN (hY s q y dd) → (∀ j, ¬ j = dd → J1 32 j = J0 32 j) → XP X (d + 1) k_Planner_weighHarms 67 [.ref 21, .int (qP q), .int (nI y), .int (nI dd), .int (nI (cP s)), w5, w6] [] (I, J1, Rx R, N, G) Q) :
    ∀ (n i : Nat) (J1 : Nat → Nat → Int64) (w5 w6 : Value), i + n = cP s → OnlyJ [32] J J1 → J1 32 dd = lN (sumN (wpT s q y dd) i) → (∀ j, ¬ j = dd → J1 32 j = J0 32 j) → XP X (d + 1) k_Planner_weighHarms 19 [.ref (21), .int (cI (-1)), .int (nI (y)), .int (nI (dd)), .int (nI (i)), w5, w6] [] (I, J1, Rx R, N, G) Q := by
  have hy16 := hW.y.2.2
  have hp4 := hW.p.2
  have hf1 := fr_le s (show y + 1 ≤ 16 by omega)
  intro n
  induction n with
  | zero =>
    rintro i J1 w5 w6 hi hO1 hw hk
    obtain rfl : i = cP s := by omega
    refine XP_n 3 (pc' := 22) (ls' := [.ref (21), .int (cI (-1)), .int (nI (y)), .int (nI (dd)), .int (nI (cP s)), w5, w6]) (st' := [.ref (1), .int (nI (cP s))]) (M' := (I, J1, Rx R, N, G)) rfl ?_
    refine XP_geti hS rfl rfl rfl ?_
    rw [hW.p.1]
    refine XP_icN (x := cP s) (y := cP s) rfl (by omega) (by omega) (fun (b23 : cP s ≤ cP s) => ?_) (fun (b23 : cP s < cP s) => absurd b23 (by omega))
    subst h0; exact kk _ _ _ hO1 (by rw [hw, wp_end hq]) hk
  | succ n ih =>
    rintro i J1 w5 w6 hi hO1 hw hk
    have hwl := wp_le hW (q := q) y dd (show i ≤ cP s by omega)
    have hhl := (nHarm_ok hW (nLv s i y) (cW s + dd) y (gB s y)).2
    refine XP_n 3 (pc' := 22) (ls' := [.ref (21), .int (cI (-1)), .int (nI (y)), .int (nI (dd)), .int (nI (i)), w5, w6]) (st' := [.ref (1), .int (nI (i))]) (M' := (I, J1, Rx R, N, G)) rfl ?_
    refine XP_geti hS rfl rfl rfl ?_
    rw [hW.p.1]
    refine XP_icN (x := i) (y := cP s) rfl (by omega) (by omega) (fun (b23 : cP s ≤ i) => absurd b23 (by omega)) (fun (b23 : i < cP s) => ?_)
    refine XP_n 4 (pc' := 28) (ls' := [.ref (21), .int (cI (-1)), .int (nI (y)), .int (nI (dd)), .int (nI (i)), w5, w6]) (st' := [.int (nI (4)), .int (nI (i))]) (M' := (I, J1, Rx R, N, G)) rfl ?_
    refine XP_icN (x := i) (y := 4) rfl (by omega) (by omega) (fun (b28 : 4 ≤ i) => absurd b28 (by omega)) (fun (b28 : i < 4) => ?_)
    refine XP_n 1 (pc' := 30) (ls' := [.ref (21), .int (cI (-1)), .int (nI (y)), .int (nI (dd)), .int (nI (i)), w5, w6]) (st' := [.int (cI (-1))]) (M' := (I, J1, Rx R, N, G)) rfl ?_
    refine XP_ifD rfl (fun (b30 : cI (-1) < 0) => ?_) (fun (b30 : 0 ≤ cI (-1)) => absurd b30 (by decide))
    have n30 := Int32.not_le.mpr b30
    refine XP_n 1 (pc' := 35) (ls' := [.ref (21), .int (cI (-1)), .int (nI (y)), .int (nI (dd)), .int (nI (i)), w5, w6]) (st' := [.int (cI (-1))]) (M' := (I, J1, Rx R, N, G)) rfl ?_
    refine XP_ifD rfl (fun (b35 : 0 ≤ cI (-1)) => absurd b35 (by decide)) (fun (b35 : cI (-1) < 0) => ?_)
    have n35 := Int32.not_le.mpr b35
    refine XP_n 5 (pc' := 41) (ls' := [.ref (21), .int (cI (-1)), .int (nI (y)), .int (nI (dd)), .int (nI (i)), w5, w6]) (st' := [.int ((nI (1)) <<< ((nI (i)) &&& 31)), .ref (1)]) (M' := (I, J1, Rx R, N, G)) rfl ?_
    refine XP_pure rfl rfl (c_wOne hS hW (show i < cP s by omega)) ?_
    have hrw := (hW.pw (show i < cP s by omega)).2
    refine XP_n 3 (pc' := 46) (ls' := [.ref (21), .int (cI (-1)), .int (nI (y)), .int (nI (dd)), .int (nI (i)), .long ((nI (rWt s i)).toInt64), xj]) (st' := []) (M' := (I, J1, Rx R, N, G)) rfl ?_
    rw [show (nI (rWt s i)).toInt64 = lN (rWt s i) from nI_lE (rfl) (by omega)]
    refine XP_n 4 (pc' := 50) (ls' := [.ref (21), .int (cI (-1)), .int (nI (y)), .int (nI (dd)), .int (nI (i)), .long (lN (rWt s i)), xj]) (st' := [.int (nI (dd)), .ref (32), .int (nI (dd)), .ref (32)]) (M' := (I, J1, Rx R, N, G)) rfl ?_
    refine XP_lraw rfl rfl (show dd < 49 by omega) rfl (by omega) ?_
    rw [show J1 32 dd = lN (sumN (wpT s q y dd) i) from hw]
    refine XP_n 4 (pc' := 55) (ls' := [.ref (21), .int (cI (-1)), .int (nI (y)), .int (nI (dd)), .int (nI (i)), .long (lN (rWt s i)), xj]) (st' := [.int (nI (i)), .ref (26), .long (lN (rWt s i)), .long (lN (sumN (wpT s q y dd) i)), .int (nI (dd)), .ref (32)]) (M' := (I, J1, Rx R, N, G)) rfl ?_
    refine XP_aaldS (a := 27 + i) rfl rfl (show i < 4 by omega) rfl (by omega) (rx26 R (by omega)) ?_
    refine XP_n 5 (pc' := 61) (ls' := [.ref (21), .int (cI (-1)), .int (nI (y)), .int (nI (dd)), .int (nI (i)), .long (lN (rWt s i)), xj]) (st' := [.int (((nI (y)) * (nI (49))) + (nI (dd))), .ref (27 + i), .long (lN (rWt s i)), .long (lN (sumN (wpT s q y dd) i)), .int (nI (dd)), .ref (32)]) (M' := (I, J1, Rx R, N, G)) rfl ?_
    rw [show ((nI (y)) * (nI (49))) + (nI (dd)) = nI ((y) * (49) + dd) from nI_addE (nI_mulE (rfl) (rfl)) (rfl)]
    refine XP_lraw rfl (a27 (by omega)) (show (y) * (49) + dd < 784 by omega) (l27 N (by omega)) (by omega) ?_
    rw [show J1 (27 + i) ((y) * (49) + dd) = lN (nHarm s (nLv s i y) (cW s + dd) y (gB s y)) from (by rw [show J1 (27 + i) (y * 49 + dd) = J (27 + i) (y * 49 + dd) from congrFun (hO1 (27 + i) (by simp; omega)) _]; exact hH i (by omega) (by omega) dd hdd)]
    refine XP_n 2 (pc' := 64) (ls' := [.ref (21), .int (cI (-1)), .int (nI (y)), .int (nI (dd)), .int (nI (i)), .long (lN (rWt s i)), xj]) (st' := [.long ((lN (sumN (wpT s q y dd) i)) + ((lN (rWt s i)) * (lN (nHarm s (nLv s i y) (cW s + dd) y (gB s y))))), .int (nI (dd)), .ref (32)]) (M' := (I, J1, Rx R, N, G)) rfl ?_
    rw [show (lN (sumN (wpT s q y dd) i)) + ((lN (rWt s i)) * (lN (nHarm s (nLv s i y) (cW s + dd) y (gB s y)))) = lN (sumN (wpT s q y dd) i + ((rWt s i) * (nHarm s (nLv s i y) (cW s + dd) y (gB s y)))) from lN_addE (rfl) (lN_mulE (rfl) (rfl))]
    refine XP_last rfl rfl (show dd < 49 by omega) rfl (by omega) ?_
    refine XP_n 1 (pc' := 66) (ls' := [.ref (21), .int (cI (-1)), .int (nI (y)), .int (nI (dd)), .int (nI (i) + nI (1)), .long (lN (rWt s i)), xj]) (st' := []) (M' := (I, (rw2 J1 32 dd (lN (sumN (wpT s q y dd) i + ((rWt s i) * (nHarm s (nLv s i y) (cW s + dd) y (gB s y)))))), Rx R, N, G)) rfl ?_
    rw [show nI (i) + nI (1) = nI (i + 1) from nI_addE (rfl) rfl]
    refine XP_n 1 (pc' := 19) (ls' := [.ref (21), .int (cI (-1)), .int (nI (y)), .int (nI (dd)), .int (nI (i + 1)), .long (lN (rWt s i)), xj]) (st' := []) (M' := (I, (rw2 J1 32 dd (lN (sumN (wpT s q y dd) i + ((rWt s i) * (nHarm s (nLv s i y) (cW s + dd) y (gB s y)))))), Rx R, N, G)) rfl ?_
    exact ih (i + 1) _ _ _ (by omega) (OnlyJ.w hO1 (by simp)) (by rw [rw2_at]; congr 1; show _ = sumN (wpT s q y dd) i + wpT s q y dd i; congr 1; exact Eq.symm (by unfold wpT; rw [if_pos (by omega)])) (fun j hj => by rw [rw2_nj _ _ _ hj]; exact hk j hj)
theorem l_whP (hS : St s I) (hW : Wf s) {q y : Nat} (hq : q ≤ cP s) (hy : y < cY s) (hH : ∀ o, o < cP s → q = 0 ∨ o = q - 1 → ∀ d', d' ≤ fr s (y + 1) → J (27 + o) (y * 49 + d') = lN (nHarm s (nLv s o y) (cW s + d') y (gB s y))) {dd : Nat} {J0 : Nat → Nat → Int64} (hdd : dd ≤ fr s (y + 1)) (h0 : ¬ q = 0) (kk : ∀ (J1 : Nat → Nat → Int64) (w5 w6 : Value), OnlyJ [32] J J1 → J1 32 dd = lN (hY s q y dd) → (∀ j, ¬ j = dd → J1 32 j = J0 32 j) → XP X (d + 1) k_Planner_weighHarms 67 [.ref 21, .int (qP q), .int (nI y), .int (nI dd), .int (nI (cP s)), w5, w6] [] (I, J1, Rx R, N, G) Q) :
    ∀ (n i : Nat) (J1 : Nat → Nat → Int64) (w5 w6 : Value), i + n = cP s → OnlyJ [32] J J1 → J1 32 dd = lN (sumN (wpT s q y dd) i) → (∀ j, ¬ j = dd → J1 32 j = J0 32 j) → XP X (d + 1) k_Planner_weighHarms 19 [.ref (21), .int (nI (q - 1)), .int (nI (y)), .int (nI (dd)), .int (nI (i)), w5, w6] [] (I, J1, Rx R, N, G) Q := by
  have hy16 := hW.y.2.2
  have hp4 := hW.p.2
  have hf1 := fr_le s (show y + 1 ≤ 16 by omega)
  intro n
  induction n with
  | zero =>
    rintro i J1 w5 w6 hi hO1 hw hk
    obtain rfl : i = cP s := by omega
    refine XP_n 3 (pc' := 22) (ls' := [.ref (21), .int (nI (q - 1)), .int (nI (y)), .int (nI (dd)), .int (nI (cP s)), w5, w6]) (st' := [.ref (1), .int (nI (cP s))]) (M' := (I, J1, Rx R, N, G)) rfl ?_
    refine XP_geti hS rfl rfl rfl ?_
    rw [hW.p.1]
    refine XP_icN (x := cP s) (y := cP s) rfl (by omega) (by omega) (fun (b23 : cP s ≤ cP s) => ?_) (fun (b23 : cP s < cP s) => absurd b23 (by omega))
    have kk := kk; unfold qP at kk; rw [if_neg h0] at kk; exact kk _ _ _ hO1 (by rw [hw, wp_end hq]) hk
  | succ n ih =>
    rintro i J1 w5 w6 hi hO1 hw hk
    have hwl := wp_le hW (q := q) y dd (show i ≤ cP s by omega)
    have hhl := (nHarm_ok hW (nLv s i y) (cW s + dd) y (gB s y)).2
    refine XP_n 3 (pc' := 22) (ls' := [.ref (21), .int (nI (q - 1)), .int (nI (y)), .int (nI (dd)), .int (nI (i)), w5, w6]) (st' := [.ref (1), .int (nI (i))]) (M' := (I, J1, Rx R, N, G)) rfl ?_
    refine XP_geti hS rfl rfl rfl ?_
    rw [hW.p.1]
    refine XP_icN (x := i) (y := cP s) rfl (by omega) (by omega) (fun (b23 : cP s ≤ i) => absurd b23 (by omega)) (fun (b23 : i < cP s) => ?_)
    refine XP_n 4 (pc' := 28) (ls' := [.ref (21), .int (nI (q - 1)), .int (nI (y)), .int (nI (dd)), .int (nI (i)), w5, w6]) (st' := [.int (nI (4)), .int (nI (i))]) (M' := (I, J1, Rx R, N, G)) rfl ?_
    refine XP_icN (x := i) (y := 4) rfl (by omega) (by omega) (fun (b28 : 4 ≤ i) => absurd b28 (by omega)) (fun (b28 : i < 4) => ?_)
    refine XP_n 1 (pc' := 30) (ls' := [.ref (21), .int (nI (q - 1)), .int (nI (y)), .int (nI (dd)), .int (nI (i)), w5, w6]) (st' := [.int (nI (q - 1))]) (M' := (I, J1, Rx R, N, G)) rfl ?_
    refine XP_ifN (x := q - 1)  rfl (by omega) (fun (b30 : q - 1 < 0) => absurd b30 (by omega)) (fun (b30 : 0 ≤ q - 1) => ?_)
    refine XP_n 2 (pc' := 33) (ls' := [.ref (21), .int (nI (q - 1)), .int (nI (y)), .int (nI (dd)), .int (nI (i)), w5, w6]) (st' := [.int (nI (q - 1)), .int (nI (i))]) (M' := (I, J1, Rx R, N, G)) rfl ?_
    refine XP_icN (x := i) (y := q - 1) rfl (by omega) (by omega) (fun (b33 : ¬ i = q - 1) => ?_) (fun (b33 : i = q - 1) => ?_)
    · refine XP_n 1 (pc' := 66) (ls' := [.ref (21), .int (nI (q - 1)), .int (nI (y)), .int (nI (dd)), .int (nI (i) + nI (1)), w5, w6]) (st' := []) (M' := (I, J1, Rx R, N, G)) rfl ?_
      rw [show nI (i) + nI (1) = nI (i + 1) from nI_addE (rfl) rfl]
      refine XP_n 1 (pc' := 19) (ls' := [.ref (21), .int (nI (q - 1)), .int (nI (y)), .int (nI (dd)), .int (nI (i + 1)), w5, w6]) (st' := []) (M' := (I, J1, Rx R, N, G)) rfl ?_
      exact ih (i + 1) _ _ _ (by omega) hO1 (by rw [hw]; show _ = lN (sumN (wpT s q y dd) i + wpT s q y dd i); rw [show wpT s q y dd i = 0 by unfold wpT; rw [if_neg (by omega), if_neg (by omega)]]; rfl) hk
    · refine XP_n 1 (pc' := 35) (ls' := [.ref (21), .int (nI (q - 1)), .int (nI (y)), .int (nI (dd)), .int (nI (i)), w5, w6]) (st' := [.int (nI (q - 1))]) (M' := (I, J1, Rx R, N, G)) rfl ?_
      refine XP_ifN (x := q - 1)  rfl (by omega) (fun (b35 : 0 ≤ q - 1) => ?_) (fun (b35 : q - 1 < 0) => absurd b35 (by omega))
      refine XP_n 6 (pc' := 50) (ls' := [.ref (21), .int (nI (q - 1)), .int (nI (y)), .int (nI (dd)), .int (nI (i)), .long (lN (1)), xj]) (st' := [.int (nI (dd)), .ref (32), .int (nI (dd)), .ref (32)]) (M' := (I, J1, Rx R, N, G)) rfl ?_
      refine XP_lraw rfl rfl (show dd < 49 by omega) rfl (by omega) ?_
      rw [show J1 32 dd = lN (sumN (wpT s q y dd) i) from hw]
      refine XP_n 4 (pc' := 55) (ls' := [.ref (21), .int (nI (q - 1)), .int (nI (y)), .int (nI (dd)), .int (nI (i)), .long (lN (1)), xj]) (st' := [.int (nI (i)), .ref (26), .long (lN (1)), .long (lN (sumN (wpT s q y dd) i)), .int (nI (dd)), .ref (32)]) (M' := (I, J1, Rx R, N, G)) rfl ?_
      refine XP_aaldS (a := 27 + i) rfl rfl (show i < 4 by omega) rfl (by omega) (rx26 R (by omega)) ?_
      refine XP_n 5 (pc' := 61) (ls' := [.ref (21), .int (nI (q - 1)), .int (nI (y)), .int (nI (dd)), .int (nI (i)), .long (lN (1)), xj]) (st' := [.int (((nI (y)) * (nI (49))) + (nI (dd))), .ref (27 + i), .long (lN (1)), .long (lN (sumN (wpT s q y dd) i)), .int (nI (dd)), .ref (32)]) (M' := (I, J1, Rx R, N, G)) rfl ?_
      rw [show ((nI (y)) * (nI (49))) + (nI (dd)) = nI ((y) * (49) + dd) from nI_addE (nI_mulE (rfl) (rfl)) (rfl)]
      refine XP_lraw rfl (a27 (by omega)) (show (y) * (49) + dd < 784 by omega) (l27 N (by omega)) (by omega) ?_
      rw [show J1 (27 + i) ((y) * (49) + dd) = lN (nHarm s (nLv s i y) (cW s + dd) y (gB s y)) from (by rw [show J1 (27 + i) (y * 49 + dd) = J (27 + i) (y * 49 + dd) from congrFun (hO1 (27 + i) (by simp; omega)) _]; exact hH i (by omega) (by omega) dd hdd)]
      refine XP_n 2 (pc' := 64) (ls' := [.ref (21), .int (nI (q - 1)), .int (nI (y)), .int (nI (dd)), .int (nI (i)), .long (lN (1)), xj]) (st' := [.long ((lN (sumN (wpT s q y dd) i)) + ((lN (1)) * (lN (nHarm s (nLv s i y) (cW s + dd) y (gB s y))))), .int (nI (dd)), .ref (32)]) (M' := (I, J1, Rx R, N, G)) rfl ?_
      rw [show (lN (sumN (wpT s q y dd) i)) + ((lN (1)) * (lN (nHarm s (nLv s i y) (cW s + dd) y (gB s y)))) = lN (sumN (wpT s q y dd) i + ((1) * (nHarm s (nLv s i y) (cW s + dd) y (gB s y)))) from lN_addE (rfl) (lN_mulE (rfl) (rfl))]
      refine XP_last rfl rfl (show dd < 49 by omega) rfl (by omega) ?_
      refine XP_n 1 (pc' := 66) (ls' := [.ref (21), .int (nI (q - 1)), .int (nI (y)), .int (nI (dd)), .int (nI (i) + nI (1)), .long (lN (1)), xj]) (st' := []) (M' := (I, (rw2 J1 32 dd (lN (sumN (wpT s q y dd) i + ((1) * (nHarm s (nLv s i y) (cW s + dd) y (gB s y)))))), Rx R, N, G)) rfl ?_
      rw [show nI (i) + nI (1) = nI (i + 1) from nI_addE (rfl) rfl]
      refine XP_n 1 (pc' := 19) (ls' := [.ref (21), .int (nI (q - 1)), .int (nI (y)), .int (nI (dd)), .int (nI (i + 1)), .long (lN (1)), xj]) (st' := []) (M' := (I, (rw2 J1 32 dd (lN (sumN (wpT s q y dd) i + ((1) * (nHarm s (nLv s i y) (cW s + dd) y (gB s y)))))), Rx R, N, G)) rfl ?_
      exact ih (i + 1) _ _ _ (by omega) (OnlyJ.w hO1 (by simp)) (by rw [rw2_at]; congr 1; show _ = sumN (wpT s q y dd) i + wpT s q y dd i; congr 1; exact Eq.symm (by unfold wpT; rw [if_neg (by omega), if_pos (by omega)]; omega)) (fun j hj => by rw [rw2_nj _ _ _ hj]; exact hk j hj)
theorem l_wh (hS : St s I) (hW : Wf s) {q y : Nat} (hq : q ≤ cP s) (hy : y < cY s) (hH : ∀ o, o < cP s → q = 0 ∨ o = q - 1 → ∀ d', d' ≤ fr s (y + 1) → J (27 + o) (y * 49 + d') = lN (nHarm s (nLv s o y) (cW s + d') y (gB s y))) {dd : Nat} {J0 : Nat → Nat → Int64} (hdd : dd ≤ fr s (y + 1)) (kk : ∀ (J1 : Nat → Nat → Int64) (w5 w6 : Value), OnlyJ [32] J J1 → J1 32 dd = lN (hY s q y dd) → (∀ j, ¬ j = dd → J1 32 j = J0 32 j) → XP X (d + 1) k_Planner_weighHarms 67 [.ref 21, .int (qP q), .int (nI y), .int (nI dd), .int (nI (cP s)), w5, w6] [] (I, J1, Rx R, N, G) Q) (J1 : Nat → Nat → Int64) (w5 w6 : Value) (hO1 : OnlyJ [32] J J1) (hw : J1 32 dd = lN 0) (hk : ∀ j, ¬ j = dd → J1 32 j = J0 32 j) : XP X (d + 1) k_Planner_weighHarms 19 [.ref 21, .int (qP q), .int (nI y), .int (nI dd), .int (nI 0), w5, w6] [] (I, J1, Rx R, N, G) Q := by
  by_cases h0 : q = 0
  · have := l_whA hS hW hq hy hH hdd h0 kk (cP s) 0 J1 w5 w6 (by omega) hO1 hw hk
    subst h0
    exact this
  · have := l_whP hS hW hq hy hH hdd h0 kk (cP s) 0 J1 w5 w6 (by omega) hO1 hw hk
    unfold qP
    rw [if_neg h0]
    exact this
theorem l_wh2 (hS : St s I) (hW : Wf s) {q y : Nat} (hq : q ≤ cP s) (hy : y < cY s) (hH : ∀ o, o < cP s → q = 0 ∨ o = q - 1 → ∀ d', d' ≤ fr s (y + 1) → J (27 + o) (y * 49 + d') = lN (nHarm s (nLv s o y) (cW s + d') y (gB s y))) : ∀ (n dd : Nat) (J1 : Nat → Nat → Int64) (w4 w5 w6 : Value), dd + n = fr s (y + 1) + 1 → OnlyJ [32] J J1 → (∀ d', d' < dd → J1 32 d' = lN (hY s q y d')) → XP X (d + 1) k_Planner_weighHarms 2 [.ref 21, .int (qP q), .int (nI y), .int (nI dd), w4, w5, w6] [] (I, J1, Rx R, N, G) (fun v M' => v = none ∧ ∃ J', M' = (I, J', Rx R, N, G) ∧ OnlyJ [32] J J' ∧ ∀ d', d' ≤ fr s (y + 1) → J' 32 d' = lN (hY s q y d')) := by
  have hy16 := hW.y.2.2
  have hp4 := hW.p.2
  have hf1 := fr_le s (show y + 1 ≤ 16 by omega)
  intro n
  induction n with
  | zero =>
    rintro dd J1 w4 w5 w6 hd hO1 hk
    refine XP_n 5 (pc' := 7) (ls' := [.ref (21), .int (qP q), .int (nI (y)), .int (nI (dd)), w4, w5, w6]) (st' := [.int ((nI (y)) + (nI (1))), .ref (21), .int (nI (dd))]) (M' := (I, J1, Rx R, N, G)) rfl ?_
    rw [show (nI (y)) + (nI (1)) = nI (y + 1) from nI_addE (rfl) (rfl)]
    refine XP_pure rfl rfl (c_fr hS hW (by omega)) ?_
    refine XP_icN (x := dd) (y := fr s (y + 1)) rfl (by omega) (by omega) (fun (b8 : fr s (y + 1) < dd) => ?_) (fun (b8 : dd ≤ fr s (y + 1)) => absurd b8 (by omega))
    exact XP_ret rfl ⟨rfl, _, rfl, hO1, fun d' h => hk d' (by omega)⟩
  | succ n ih =>
    rintro dd J1 w4 w5 w6 hd hO1 hk
    refine XP_n 5 (pc' := 7) (ls' := [.ref (21), .int (qP q), .int (nI (y)), .int (nI (dd)), w4, w5, w6]) (st' := [.int ((nI (y)) + (nI (1))), .ref (21), .int (nI (dd))]) (M' := (I, J1, Rx R, N, G)) rfl ?_
    rw [show (nI (y)) + (nI (1)) = nI (y + 1) from nI_addE (rfl) (rfl)]
    refine XP_pure rfl rfl (c_fr hS hW (by omega)) ?_
    refine XP_icN (x := dd) (y := fr s (y + 1)) rfl (by omega) (by omega) (fun (b8 : fr s (y + 1) < dd) => absurd b8 (by omega)) (fun (b8 : dd ≤ fr s (y + 1)) => ?_)
    refine XP_n 2 (pc' := 11) (ls' := [.ref (21), .int (qP q), .int (nI (y)), .int (nI (dd)), w4, w5, w6]) (st' := [.int (nI (49)), .int (nI (dd))]) (M' := (I, J1, Rx R, N, G)) rfl ?_
    refine XP_icN (x := dd) (y := 49) rfl (by omega) (by omega) (fun (b11 : 49 ≤ dd) => absurd b11 (by omega)) (fun (b11 : dd < 49) => ?_)
    refine XP_n 4 (pc' := 16) (ls' := [.ref (21), .int (qP q), .int (nI (y)), .int (nI (dd)), w4, w5, w6]) (st' := [.long (lN (0)), .int (nI (dd)), .ref (32)]) (M' := (I, J1, Rx R, N, G)) rfl ?_
    refine XP_last rfl rfl (show dd < 49 by omega) rfl (by omega) ?_
    refine XP_n 2 (pc' := 19) (ls' := [.ref (21), .int (qP q), .int (nI (y)), .int (nI (dd)), .int (nI (0)), w5, w6]) (st' := []) (M' := (I, (rw2 J1 32 dd (lN (0))), Rx R, N, G)) rfl ?_
    refine l_wh hS hW hq hy hH (J0 := J1) (by omega) ?_ _ _ _ (OnlyJ.w hO1 (by simp)) (rw2_at _ _ _ _) (fun j hj => rw2_nj _ _ _ hj)
    intro Jb w5 w6 hOb hwb hkb
    refine XP_n 1 (pc' := 68) (ls' := [.ref (21), .int (qP q), .int (nI (y)), .int (nI (dd) + nI (1)), .int (nI (cP s)), w5, w6]) (st' := []) (M' := (I, Jb, Rx R, N, G)) rfl ?_
    rw [show nI (dd) + nI (1) = nI (dd + 1) from nI_addE (rfl) rfl]
    refine XP_n 1 (pc' := 2) (ls' := [.ref (21), .int (qP q), .int (nI (y)), .int (nI (dd + 1)), .int (nI (cP s)), w5, w6]) (st' := []) (M' := (I, Jb, Rx R, N, G)) rfl ?_
    exact ih (dd + 1) _ _ _ _ (by omega) hOb (fun d' h => by
      by_cases e : d' = dd
      · subst e
        exact hwb
      · rw [hkb d' e]
        exact hk d' (by omega))
theorem c_weigh (hS : St s I) (hW : Wf s) {q y : Nat} (hq : q ≤ cP s) (hy : y < cY s) (hH : ∀ o, o < cP s → q = 0 ∨ o = q - 1 → ∀ d', d' ≤ fr s (y + 1) → J (27 + o) (y * 49 + d') = lN (nHarm s (nLv s o y) (cW s + d') y (gB s y))) : TP X (d + 1) n_Planner_weighHarms [.ref 21, .int (qP q), .int (nI y)] (I, J, Rx R, N, G) (fun v M' => v = none ∧ ∃ J', M' = (I, J', Rx R, N, G) ∧ OnlyJ [32] J J' ∧ ∀ d', d' ≤ fr s (y + 1) → J' 32 d' = lN (hY s q y d')) := by
  unfold TP
  show XP X _ k_Planner_weighHarms 0 [.ref (21), .int (qP q), .int (nI (y)), xj, xj, xj, xj] [] _ _
  refine XP_n 2 (pc' := 2) (ls' := [.ref (21), .int (qP q), .int (nI (y)), .int (nI (0)), xj, xj, xj]) (st' := []) (M' := (I, J, Rx R, N, G)) rfl ?_
  exact l_wh2 hS hW hq hy hH (fr s (y + 1) + 1) 0 _ _ _ _ (by omega) OnlyJ.rf (fun d' h => absurd h (by omega))
end
