/-! faces: rests, together -/
def tRB (s : Nat → Nat → Int32) (p y up m : Nat) : Bool := tRs s p y up m (cT s)
section
variable {X : hX} {d : Nat} {s I : Nat → Nat → Int32} {J : Nat → Nat → Int64} {R : Nat → Nat → Option Nat} {N : Nat → Nat} {G : hG}
theorem l_H_rests (hW : Wf s) {p y up : Nat} (hp : p < cP s) (hup : up ≤ 30) (hy : y < cY s) (hlv : nLv s p y ≤ 150) : ∀ (n i : Nat) (I : Nat → Nat → Int32), i + n = 2 ^ cT s → Inv s R N I J → I 80 5 = nI (nLv s p y) → I 80 6 = nI y → I 80 7 = nI up → XP X (d + 8) k_H_rests 18 [.ref (0), .int (nI (p)), .int (nI (y)), .int (nI (up)), .int (nI (mkN (tRB s p y up) (i))), .int (nI (i))] [] (I, J, Rx R, N, G) (QP s R N G (.int (nI (mkN (tRB s p y up) (2 ^ cT s))))) := by
  have ht3 := hW.t.2
  have hpu9 := hW.pu.2
  have hp4 := hW.p.2
  have hy16 := hW.y.2
  have h2p : 1 ≤ 2 ^ cT s ∧ 2 ^ cT s ≤ 8 ∧ (0 < cT s → 2 ≤ 2 ^ cT s) := tN_le hW
  intro n
  induction n with
  | zero =>
    rintro i I hi hI h5 h6 h7
    obtain rfl : i = 2 ^ cT s := by omega
    refine XP_n 3 (pc' := 21) (ls' := [.ref (0), .int (nI (p)), .int (nI (y)), .int (nI (up)), .int (nI (mkN (tRB s p y up) (2 ^ cT s))), .int (nI (2 ^ cT s))]) (st' := [.ref (80), .int (nI (2 ^ cT s))]) (M' := (I, J, Rx R, N, G)) rfl ?_
    refine XP_pure rfl rfl (c_allT hI.1 hW) ?_
    refine XP_icN (x := 2 ^ cT s) (y := 2 ^ cT s - 1) rfl (by omega) (by omega) (fun (b22 : 2 ^ cT s - 1 < 2 ^ cT s) => ?_) (fun (b22 : 2 ^ cT s ≤ 2 ^ cT s - 1) => absurd b22 (by omega))
    refine XP_n 1 (pc' := 37) (ls' := [.ref (0), .int (nI (p)), .int (nI (y)), .int (nI (up)), .int (nI (mkN (tRB s p y up) (2 ^ cT s))), .int (nI (2 ^ cT s))]) (st' := [.int (nI (mkN (tRB s p y up) (2 ^ cT s)))]) (M' := (I, J, Rx R, N, G)) rfl ?_
    exact XP_ret rfl ⟨rfl, _, _, rfl, hI⟩
  | succ n ih =>
    rintro i I hi hI h5 h6 h7
    cases hb : tRB s p y up i with
    | true =>
      refine XP_n 3 (pc' := 21) (ls' := [.ref (0), .int (nI (p)), .int (nI (y)), .int (nI (up)), .int (nI (mkN (tRB s p y up) (i))), .int (nI (i))]) (st' := [.ref (80), .int (nI (i))]) (M' := (I, J, Rx R, N, G)) rfl ?_
      refine XP_pure rfl rfl (c_allT hI.1 hW) ?_
      refine XP_icN (x := i) (y := 2 ^ cT s - 1) rfl (by omega) (by omega) (fun (b22 : 2 ^ cT s - 1 < i) => absurd b22 (by omega)) (fun (b22 : i ≤ 2 ^ cT s - 1) => ?_)
      refine XP_n 3 (pc' := 26) (ls' := [.ref (0), .int (nI (p)), .int (nI (y)), .int (nI (up)), .int (nI (mkN (tRB s p y up) (i))), .int (nI (i))]) (st' := [.int (nI (i)), .ref (80)]) (M' := (I, J, Rx R, N, G)) rfl ?_
      refine XP_call rfl rfl (c_isRest hI (show i < 2 ^ cT s by omega) (by omega) hup hy hlv h5 h6 h7) ?_
      rintro v21 M21 ⟨rfl, I21, rfl, hI21, hO21⟩
      have f21_80_5 : I21 80 5 = nI (nLv s p y) := (congrFun (hO21 80 (by have := oT_ge (cLw s); simp; omega)) 5).trans h5
      have f21_80_6 : I21 80 6 = nI (y) := (congrFun (hO21 80 (by have := oT_ge (cLw s); simp; omega)) 6).trans h6
      have f21_80_7 : I21 80 7 = nI (up) := (congrFun (hO21 80 (by have := oT_ge (cLw s); simp; omega)) 7).trans h7
      rw [show tRs s p y up i (cT s) = true from hb, show Bool.toNat true = 1 from rfl]
      refine XP_ifN (x := 1)  rfl (by omega) (fun (b27 : 1 = 0) => absurd b27 (by omega)) (fun (b27 : ¬ 1 = 0) => ?_)
      refine XP_n 6 (pc' := 34) (ls' := [.ref (0), .int (nI (p)), .int (nI (y)), .int (nI (up)), .int ((nI (mkN (tRB s p y up) (i))) ||| ((nI (1)) <<< ((nI (i)) &&& 31))), .int (nI (i))]) (st' := []) (M' := (I21, J, Rx R, N, G)) rfl ?_
      rw [show (nI (mkN (tRB s p y up) (i))) ||| ((nI (1)) <<< ((nI (i)) &&& 31)) = nI (mkN (tRB s p y up) (i) + 2 ^ i) from b_or i (by omega) _ (mkN_lt _ i)]
      refine XP_n 1 (pc' := 35) (ls' := [.ref (0), .int (nI (p)), .int (nI (y)), .int (nI (up)), .int (nI (mkN (tRB s p y up) (i) + 2 ^ i)), .int (nI (i) + nI (1))]) (st' := []) (M' := (I21, J, Rx R, N, G)) rfl ?_
      rw [show nI (i) + nI (1) = nI (i + 1) from nI_addE (rfl) rfl]
      refine XP_n 1 (pc' := 18) (ls' := [.ref (0), .int (nI (p)), .int (nI (y)), .int (nI (up)), .int (nI (mkN (tRB s p y up) (i) + 2 ^ i)), .int (nI (i + 1))]) (st' := []) (M' := (I21, J, Rx R, N, G)) rfl ?_
      have e : mkN (tRB s p y up) (i + 1) = mkN (tRB s p y up) i + 2 ^ i := by simp [mkN, sumN, hb]
      have ih2 := ih (i + 1) _ (by omega) hI21 f21_80_5 f21_80_6 f21_80_7
      rw [e] at ih2
      exact ih2
    | false =>
      refine XP_n 3 (pc' := 21) (ls' := [.ref (0), .int (nI (p)), .int (nI (y)), .int (nI (up)), .int (nI (mkN (tRB s p y up) (i))), .int (nI (i))]) (st' := [.ref (80), .int (nI (i))]) (M' := (I, J, Rx R, N, G)) rfl ?_
      refine XP_pure rfl rfl (c_allT hI.1 hW) ?_
      refine XP_icN (x := i) (y := 2 ^ cT s - 1) rfl (by omega) (by omega) (fun (b22 : 2 ^ cT s - 1 < i) => absurd b22 (by omega)) (fun (b22 : i ≤ 2 ^ cT s - 1) => ?_)
      refine XP_n 3 (pc' := 26) (ls' := [.ref (0), .int (nI (p)), .int (nI (y)), .int (nI (up)), .int (nI (mkN (tRB s p y up) (i))), .int (nI (i))]) (st' := [.int (nI (i)), .ref (80)]) (M' := (I, J, Rx R, N, G)) rfl ?_
      refine XP_call rfl rfl (c_isRest hI (show i < 2 ^ cT s by omega) (by omega) hup hy hlv h5 h6 h7) ?_
      rintro v22 M22 ⟨rfl, I22, rfl, hI22, hO22⟩
      have f22_80_5 : I22 80 5 = nI (nLv s p y) := (congrFun (hO22 80 (by have := oT_ge (cLw s); simp; omega)) 5).trans h5
      have f22_80_6 : I22 80 6 = nI (y) := (congrFun (hO22 80 (by have := oT_ge (cLw s); simp; omega)) 6).trans h6
      have f22_80_7 : I22 80 7 = nI (up) := (congrFun (hO22 80 (by have := oT_ge (cLw s); simp; omega)) 7).trans h7
      rw [show tRs s p y up i (cT s) = false from hb, show Bool.toNat false = 0 from rfl]
      refine XP_ifN (x := 0)  rfl (by omega) (fun (b27 : 0 = 0) => ?_) (fun (b27 : ¬ 0 = 0) => absurd b27 (by omega))
      refine XP_n 1 (pc' := 35) (ls' := [.ref (0), .int (nI (p)), .int (nI (y)), .int (nI (up)), .int (nI (mkN (tRB s p y up) (i))), .int (nI (i) + nI (1))]) (st' := []) (M' := (I22, J, Rx R, N, G)) rfl ?_
      rw [show nI (i) + nI (1) = nI (i + 1) from nI_addE (rfl) rfl]
      refine XP_n 1 (pc' := 18) (ls' := [.ref (0), .int (nI (p)), .int (nI (y)), .int (nI (up)), .int (nI (mkN (tRB s p y up) (i))), .int (nI (i + 1))]) (st' := []) (M' := (I22, J, Rx R, N, G)) rfl ?_
      have e : mkN (tRB s p y up) (i + 1) = mkN (tRB s p y up) i := by simp [mkN, sumN, hb]
      have ih2 := ih (i + 1) _ (by omega) hI22 f22_80_5 f22_80_6 f22_80_7
      rw [e] at ih2
      exact ih2
theorem l_M_rest {Q : Option Value → hM → Prop} (hW : Wf s) {p y up : Nat} (hp : p < cP s) (hup : up ≤ 30) (hy : y < cY s) (hlv : nLv s p y ≤ 150) {m : Nat} (hm : m < 2 ^ cT s) {ms : Int32} (kk : ∀ I J, Inv s R N I J → XP X (d + 6) k_M_rests 54 [.ref (99), .int (nI (p)), .int (nI (y)), .int (nI (up)), .int (ms), .int (nI (m)), .int (nI ((tRB s p y up m).toNat)), .int (nI (cT s))] [] (I, J, Rx R, N, G) Q) : ∀ (n i : Nat) (I : Nat → Nat → Int32) (J : Nat → Nat → Int64), i + n = cT s → Inv s R N I J → XP X (d + 6) k_M_rests 22 [.ref (99), .int (nI (p)), .int (nI (y)), .int (nI (up)), .int (ms), .int (nI (m)), .int (nI ((tRs s p y up m i).toNat)), .int (nI (i))] [] (I, J, Rx R, N, G) Q := by
  have ht3 := hW.t.2
  have hpu9 := hW.pu.2
  have hp4 := hW.p.2
  have hy16 := hW.y.2
  have h2p : 1 ≤ 2 ^ cT s ∧ 2 ^ cT s ≤ 8 ∧ (0 < cT s → 2 ≤ 2 ^ cT s) := tN_le hW
  intro n
  induction n with
  | zero =>
    rintro i I J hi hI
    obtain rfl : i = cT s := by omega
    refine XP_n 2 (pc' := 24) (ls' := [.ref (99), .int (nI (p)), .int (nI (y)), .int (nI (up)), .int (ms), .int (nI (m)), .int (nI ((tRs s p y up m (cT s)).toNat)), .int (nI (cT s))]) (st' := [.ref (99), .int (nI (cT s))]) (M' := (I, J, Rx R, N, G)) rfl ?_
    refine XP_geti hI.1 rfl rfl rfl ?_
    rw [hW.t.1]
    refine XP_icN (x := cT s) (y := cT s) rfl (by omega) (by omega) (fun (b25 : cT s ≤ cT s) => ?_) (fun (b25 : cT s < cT s) => absurd b25 (by omega))
    exact kk _ _ hI
  | succ n ih =>
    rintro i I J hi hI
    have hxb := xb_lt ht3 hm (show i < cT s by omega)
    have es : tRs s p y up m (i + 1) = (tRs s p y up m i && decide (tPay s p y up m i ≤ tPay s p y up (xb m i) i)) := rfl
    cases hb : tRs s p y up m i with
    | true =>
      show XP X (d + 6) k_M_rests 22 [.ref (99), .int (nI (p)), .int (nI (y)), .int (nI (up)), .int (ms), .int (nI (m)), .int (nI (1)), .int (nI (i))] [] _ _
      refine XP_n 2 (pc' := 24) (ls' := [.ref (99), .int (nI (p)), .int (nI (y)), .int (nI (up)), .int (ms), .int (nI (m)), .int (nI (1)), .int (nI (i))]) (st' := [.ref (99), .int (nI (i))]) (M' := (I, J, Rx R, N, G)) rfl ?_
      refine XP_geti hI.1 rfl rfl rfl ?_
      rw [hW.t.1]
      refine XP_icN (x := i) (y := cT s) rfl (by omega) (by omega) (fun (b25 : cT s ≤ i) => absurd b25 (by omega)) (fun (b25 : i < cT s) => ?_)
      refine XP_n 11 (pc' := 37) (ls' := [.ref (99), .int (nI (p)), .int (nI (y)), .int (nI (up)), .int (ms), .int (nI (m)), .int (nI (1)), .int (nI (i))]) (st' := [.int ((nI (m)) ^^^ ((nI (1)) <<< ((nI (i)) &&& 31))), .int (nI (up)), .int (nI (y)), .int (nI (p)), .int (nI (i)), .ref (99), .int (nI (1))]) (M' := (I, J, Rx R, N, G)) rfl ?_
      rw [show (nI (m)) ^^^ ((nI (1)) <<< ((nI (i)) &&& 31)) = nI (xb m i) from b_xb (show m < 8 by omega) (show i < 3 by omega)]
      refine XP_call rfl (rfl) (m_paysOf hI (show xb m i < 8 by omega) (show i < cT s by omega) hup hy hp) ?_
      rintro v23 M23 ⟨rfl, I23, J23, rfl, hI23⟩
      have htp23 := tPay_le hW p y up (xb m i) (i)
      refine XP_n 6 (pc' := 44) (ls' := [.ref (99), .int (nI (p)), .int (nI (y)), .int (nI (up)), .int (ms), .int (nI (m)), .int (nI (1)), .int (nI (i))]) (st' := [.int (nI (m)), .int (nI (up)), .int (nI (y)), .int (nI (p)), .int (nI (i)), .ref (99), .long (lN (tPay s p y up (xb m i) i)), .int (nI (1))]) (M' := (I23, J23, Rx R, N, G)) rfl ?_
      refine XP_call rfl (rfl) (m_paysOf hI23 (show m < 8 by omega) (show i < cT s by omega) hup hy hp) ?_
      rintro v24 M24 ⟨rfl, I24, J24, rfl, hI24⟩
      have htp24 := tPay_le hW p y up (m) (i)
      refine XP_lcN (x := tPay s p y up (xb m i) i) (y := tPay s p y up m i) rfl rfl (by omega) (by omega) (fun (b46 : tPay s p y up (xb m i) i < tPay s p y up m i) => ?_) (fun (b46 : tPay s p y up m i ≤ tPay s p y up (xb m i) i) => ?_)
      · refine XP_n 3 (pc' := 52) (ls' := [.ref (99), .int (nI (p)), .int (nI (y)), .int (nI (up)), .int (ms), .int (nI (m)), .int ((nI (1)) &&& (nI (0))), .int (nI (i))]) (st' := []) (M' := (I24, J24, Rx R, N, G)) rfl ?_
        rw [show (nI (1)) &&& (nI (0)) = nI (0) from by decide]
        refine XP_n 1 (pc' := 53) (ls' := [.ref (99), .int (nI (p)), .int (nI (y)), .int (nI (up)), .int (ms), .int (nI (m)), .int (nI (0)), .int (nI (i) + nI (1))]) (st' := []) (M' := (I24, J24, Rx R, N, G)) rfl ?_
        rw [show nI (i) + nI (1) = nI (i + 1) from nI_addE (rfl) rfl]
        refine XP_n 1 (pc' := 22) (ls' := [.ref (99), .int (nI (p)), .int (nI (y)), .int (nI (up)), .int (ms), .int (nI (m)), .int (nI (0)), .int (nI (i + 1))]) (st' := []) (M' := (I24, J24, Rx R, N, G)) rfl ?_
        have ih2 := ih (i + 1) _ _ (by omega) hI24
        first
          | (rw [es, hb, decide_eq_true (show tPay s p y up m i ≤ tPay s p y up (xb m i) i by omega)] at ih2; exact ih2)
          | (rw [es, hb, decide_eq_false (show ¬ tPay s p y up m i ≤ tPay s p y up (xb m i) i by omega)] at ih2; exact ih2)
      · refine XP_n 4 (pc' := 52) (ls' := [.ref (99), .int (nI (p)), .int (nI (y)), .int (nI (up)), .int (ms), .int (nI (m)), .int ((nI (1)) &&& (nI (1))), .int (nI (i))]) (st' := []) (M' := (I24, J24, Rx R, N, G)) rfl ?_
        rw [show (nI (1)) &&& (nI (1)) = nI (1) from by decide]
        refine XP_n 1 (pc' := 53) (ls' := [.ref (99), .int (nI (p)), .int (nI (y)), .int (nI (up)), .int (ms), .int (nI (m)), .int (nI (1)), .int (nI (i) + nI (1))]) (st' := []) (M' := (I24, J24, Rx R, N, G)) rfl ?_
        rw [show nI (i) + nI (1) = nI (i + 1) from nI_addE (rfl) rfl]
        refine XP_n 1 (pc' := 22) (ls' := [.ref (99), .int (nI (p)), .int (nI (y)), .int (nI (up)), .int (ms), .int (nI (m)), .int (nI (1)), .int (nI (i + 1))]) (st' := []) (M' := (I24, J24, Rx R, N, G)) rfl ?_
        have ih2 := ih (i + 1) _ _ (by omega) hI24
        first
          | (rw [es, hb, decide_eq_true (show tPay s p y up m i ≤ tPay s p y up (xb m i) i by omega)] at ih2; exact ih2)
          | (rw [es, hb, decide_eq_false (show ¬ tPay s p y up m i ≤ tPay s p y up (xb m i) i by omega)] at ih2; exact ih2)
    | false =>
      show XP X (d + 6) k_M_rests 22 [.ref (99), .int (nI (p)), .int (nI (y)), .int (nI (up)), .int (ms), .int (nI (m)), .int (nI (0)), .int (nI (i))] [] _ _
      refine XP_n 2 (pc' := 24) (ls' := [.ref (99), .int (nI (p)), .int (nI (y)), .int (nI (up)), .int (ms), .int (nI (m)), .int (nI (0)), .int (nI (i))]) (st' := [.ref (99), .int (nI (i))]) (M' := (I, J, Rx R, N, G)) rfl ?_
      refine XP_geti hI.1 rfl rfl rfl ?_
      rw [hW.t.1]
      refine XP_icN (x := i) (y := cT s) rfl (by omega) (by omega) (fun (b25 : cT s ≤ i) => absurd b25 (by omega)) (fun (b25 : i < cT s) => ?_)
      refine XP_n 11 (pc' := 37) (ls' := [.ref (99), .int (nI (p)), .int (nI (y)), .int (nI (up)), .int (ms), .int (nI (m)), .int (nI (0)), .int (nI (i))]) (st' := [.int ((nI (m)) ^^^ ((nI (1)) <<< ((nI (i)) &&& 31))), .int (nI (up)), .int (nI (y)), .int (nI (p)), .int (nI (i)), .ref (99), .int (nI (0))]) (M' := (I, J, Rx R, N, G)) rfl ?_
      rw [show (nI (m)) ^^^ ((nI (1)) <<< ((nI (i)) &&& 31)) = nI (xb m i) from b_xb (show m < 8 by omega) (show i < 3 by omega)]
      refine XP_call rfl (rfl) (m_paysOf hI (show xb m i < 8 by omega) (show i < cT s by omega) hup hy hp) ?_
      rintro v25 M25 ⟨rfl, I25, J25, rfl, hI25⟩
      have htp25 := tPay_le hW p y up (xb m i) (i)
      refine XP_n 6 (pc' := 44) (ls' := [.ref (99), .int (nI (p)), .int (nI (y)), .int (nI (up)), .int (ms), .int (nI (m)), .int (nI (0)), .int (nI (i))]) (st' := [.int (nI (m)), .int (nI (up)), .int (nI (y)), .int (nI (p)), .int (nI (i)), .ref (99), .long (lN (tPay s p y up (xb m i) i)), .int (nI (0))]) (M' := (I25, J25, Rx R, N, G)) rfl ?_
      refine XP_call rfl (rfl) (m_paysOf hI25 (show m < 8 by omega) (show i < cT s by omega) hup hy hp) ?_
      rintro v26 M26 ⟨rfl, I26, J26, rfl, hI26⟩
      have htp26 := tPay_le hW p y up (m) (i)
      refine XP_lcN (x := tPay s p y up (xb m i) i) (y := tPay s p y up m i) rfl rfl (by omega) (by omega) (fun (b46 : tPay s p y up (xb m i) i < tPay s p y up m i) => ?_) (fun (b46 : tPay s p y up m i ≤ tPay s p y up (xb m i) i) => ?_)
      · refine XP_n 3 (pc' := 52) (ls' := [.ref (99), .int (nI (p)), .int (nI (y)), .int (nI (up)), .int (ms), .int (nI (m)), .int ((nI (0)) &&& (nI (0))), .int (nI (i))]) (st' := []) (M' := (I26, J26, Rx R, N, G)) rfl ?_
        rw [show (nI (0)) &&& (nI (0)) = nI (0) from by decide]
        refine XP_n 1 (pc' := 53) (ls' := [.ref (99), .int (nI (p)), .int (nI (y)), .int (nI (up)), .int (ms), .int (nI (m)), .int (nI (0)), .int (nI (i) + nI (1))]) (st' := []) (M' := (I26, J26, Rx R, N, G)) rfl ?_
        rw [show nI (i) + nI (1) = nI (i + 1) from nI_addE (rfl) rfl]
        refine XP_n 1 (pc' := 22) (ls' := [.ref (99), .int (nI (p)), .int (nI (y)), .int (nI (up)), .int (ms), .int (nI (m)), .int (nI (0)), .int (nI (i + 1))]) (st' := []) (M' := (I26, J26, Rx R, N, G)) rfl ?_
        have ih2 := ih (i + 1) _ _ (by omega) hI26
        first
          | (rw [es, hb, decide_eq_true (show tPay s p y up m i ≤ tPay s p y up (xb m i) i by omega)] at ih2; exact ih2)
          | (rw [es, hb, decide_eq_false (show ¬ tPay s p y up m i ≤ tPay s p y up (xb m i) i by omega)] at ih2; exact ih2)
      · refine XP_n 4 (pc' := 52) (ls' := [.ref (99), .int (nI (p)), .int (nI (y)), .int (nI (up)), .int (ms), .int (nI (m)), .int ((nI (0)) &&& (nI (1))), .int (nI (i))]) (st' := []) (M' := (I26, J26, Rx R, N, G)) rfl ?_
        rw [show (nI (0)) &&& (nI (1)) = nI (0) from by decide]
        refine XP_n 1 (pc' := 53) (ls' := [.ref (99), .int (nI (p)), .int (nI (y)), .int (nI (up)), .int (ms), .int (nI (m)), .int (nI (0)), .int (nI (i) + nI (1))]) (st' := []) (M' := (I26, J26, Rx R, N, G)) rfl ?_
        rw [show nI (i) + nI (1) = nI (i + 1) from nI_addE (rfl) rfl]
        refine XP_n 1 (pc' := 22) (ls' := [.ref (99), .int (nI (p)), .int (nI (y)), .int (nI (up)), .int (ms), .int (nI (m)), .int (nI (0)), .int (nI (i + 1))]) (st' := []) (M' := (I26, J26, Rx R, N, G)) rfl ?_
        have ih2 := ih (i + 1) _ _ (by omega) hI26
        first
          | (rw [es, hb, decide_eq_true (show tPay s p y up m i ≤ tPay s p y up (xb m i) i by omega)] at ih2; exact ih2)
          | (rw [es, hb, decide_eq_false (show ¬ tPay s p y up m i ≤ tPay s p y up (xb m i) i by omega)] at ih2; exact ih2)
theorem l_M_rests (hW : Wf s) {p y up : Nat} (hp : p < cP s) (hup : up ≤ 30) (hy : y < cY s) (hlv : nLv s p y ≤ 150) : ∀ (n i : Nat) (I : Nat → Nat → Int32) (J : Nat → Nat → Int64) (w6 w7 : Value), i + n = 2 ^ cT s → Inv s R N I J → XP X (d + 6) k_M_rests 12 [.ref (99), .int (nI (p)), .int (nI (y)), .int (nI (up)), .int (nI (mkN (tRB s p y up) (i))), .int (nI (i)), w6, w7] [] (I, J, Rx R, N, G) (QP s R N G (.int (nI (mkN (tRB s p y up) (2 ^ cT s))))) := by
  have ht3 := hW.t.2
  have hpu9 := hW.pu.2
  have hp4 := hW.p.2
  have hy16 := hW.y.2
  have h2p : 1 ≤ 2 ^ cT s ∧ 2 ^ cT s ≤ 8 ∧ (0 < cT s → 2 ≤ 2 ^ cT s) := tN_le hW
  intro n
  induction n with
  | zero =>
    rintro i I J w6 w7 hi hI
    obtain rfl : i = 2 ^ cT s := by omega
    refine XP_n 3 (pc' := 15) (ls' := [.ref (99), .int (nI (p)), .int (nI (y)), .int (nI (up)), .int (nI (mkN (tRB s p y up) (2 ^ cT s))), .int (nI (2 ^ cT s)), w6, w7]) (st' := [.ref (99), .int (nI (1)), .int (nI (2 ^ cT s))]) (M' := (I, J, Rx R, N, G)) rfl ?_
    refine XP_geti hI.1 rfl rfl rfl ?_
    rw [hW.t.1]
    refine XP_n 1 (pc' := 17) (ls' := [.ref (99), .int (nI (p)), .int (nI (y)), .int (nI (up)), .int (nI (mkN (tRB s p y up) (2 ^ cT s))), .int (nI (2 ^ cT s)), w6, w7]) (st' := [.int ((nI (1)) <<< ((nI (cT s)) &&& 31)), .int (nI (2 ^ cT s))]) (M' := (I, J, Rx R, N, G)) rfl ?_
    rw [show (nI (1)) <<< ((nI (cT s)) &&& 31) = nI (2 ^ (cT s)) from b_pw (show cT s < 8 by omega)]
    refine XP_icN (x := 2 ^ cT s) (y := 2 ^ (cT s)) rfl (by omega) (by omega) (fun (b17 : 2 ^ (cT s) ≤ 2 ^ cT s) => ?_) (fun (b17 : 2 ^ cT s < 2 ^ (cT s)) => absurd b17 (by omega))
    refine XP_n 1 (pc' := 67) (ls' := [.ref (99), .int (nI (p)), .int (nI (y)), .int (nI (up)), .int (nI (mkN (tRB s p y up) (2 ^ cT s))), .int (nI (2 ^ cT s)), w6, w7]) (st' := [.int (nI (mkN (tRB s p y up) (2 ^ cT s)))]) (M' := (I, J, Rx R, N, G)) rfl ?_
    exact XP_ret rfl ⟨rfl, _, _, rfl, hI⟩
  | succ n ih =>
    rintro i I J w6 w7 hi hI
    refine XP_n 3 (pc' := 15) (ls' := [.ref (99), .int (nI (p)), .int (nI (y)), .int (nI (up)), .int (nI (mkN (tRB s p y up) (i))), .int (nI (i)), w6, w7]) (st' := [.ref (99), .int (nI (1)), .int (nI (i))]) (M' := (I, J, Rx R, N, G)) rfl ?_
    refine XP_geti hI.1 rfl rfl rfl ?_
    rw [hW.t.1]
    refine XP_n 1 (pc' := 17) (ls' := [.ref (99), .int (nI (p)), .int (nI (y)), .int (nI (up)), .int (nI (mkN (tRB s p y up) (i))), .int (nI (i)), w6, w7]) (st' := [.int ((nI (1)) <<< ((nI (cT s)) &&& 31)), .int (nI (i))]) (M' := (I, J, Rx R, N, G)) rfl ?_
    rw [show (nI (1)) <<< ((nI (cT s)) &&& 31) = nI (2 ^ (cT s)) from b_pw (show cT s < 8 by omega)]
    refine XP_icN (x := i) (y := 2 ^ (cT s)) rfl (by omega) (by omega) (fun (b17 : 2 ^ (cT s) ≤ i) => absurd b17 (by omega)) (fun (b17 : i < 2 ^ (cT s)) => ?_)
    refine XP_n 4 (pc' := 22) (ls' := [.ref (99), .int (nI (p)), .int (nI (y)), .int (nI (up)), .int (nI (mkN (tRB s p y up) (i))), .int (nI (i)), .int (nI (1)), .int (nI (0))]) (st' := []) (M' := (I, J, Rx R, N, G)) rfl ?_
    refine l_M_rest hW hp hup hy hlv (show i < 2 ^ cT s by omega) ?_ (cT s) 0 _ _ (by omega) hI
    intro Ib Jb hIb
    cases hb : tRB s p y up i with
    | true =>
      show XP X (d + 6) k_M_rests 54 [.ref (99), .int (nI (p)), .int (nI (y)), .int (nI (up)), .int (nI (mkN (tRB s p y up) (i))), .int (nI (i)), .int (nI (1)), .int (nI (cT s))] [] _ _
      refine XP_n 2 (pc' := 56) (ls' := [.ref (99), .int (nI (p)), .int (nI (y)), .int (nI (up)), .int (nI (mkN (tRB s p y up) (i))), .int (nI (i)), .int (nI (1)), .int (nI (cT s))]) (st' := [.int (nI (1)), .int (nI (mkN (tRB s p y up) (i)))]) (M' := (Ib, Jb, Rx R, N, G)) rfl ?_
      refine XP_ifN (x := 1)  rfl (by omega) (fun (b56 : 1 = 0) => absurd b56 (by omega)) (fun (b56 : ¬ 1 = 0) => ?_)
      refine XP_n 6 (pc' := 64) (ls' := [.ref (99), .int (nI (p)), .int (nI (y)), .int (nI (up)), .int ((nI (mkN (tRB s p y up) (i))) ||| ((nI (1)) <<< ((nI (i)) &&& 31))), .int (nI (i)), .int (nI (1)), .int (nI (cT s))]) (st' := []) (M' := (Ib, Jb, Rx R, N, G)) rfl ?_
      rw [show (nI (mkN (tRB s p y up) (i))) ||| ((nI (1)) <<< ((nI (i)) &&& 31)) = nI (mkN (tRB s p y up) (i) + 2 ^ i) from b_or i (by omega) _ (mkN_lt _ i)]
      refine XP_n 1 (pc' := 65) (ls' := [.ref (99), .int (nI (p)), .int (nI (y)), .int (nI (up)), .int (nI (mkN (tRB s p y up) (i) + 2 ^ i)), .int (nI (i) + nI (1)), .int (nI (1)), .int (nI (cT s))]) (st' := []) (M' := (Ib, Jb, Rx R, N, G)) rfl ?_
      rw [show nI (i) + nI (1) = nI (i + 1) from nI_addE (rfl) rfl]
      refine XP_n 1 (pc' := 12) (ls' := [.ref (99), .int (nI (p)), .int (nI (y)), .int (nI (up)), .int (nI (mkN (tRB s p y up) (i) + 2 ^ i)), .int (nI (i + 1)), .int (nI (1)), .int (nI (cT s))]) (st' := []) (M' := (Ib, Jb, Rx R, N, G)) rfl ?_
      have e : mkN (tRB s p y up) (i + 1) = mkN (tRB s p y up) i + 2 ^ i := by simp [mkN, sumN, hb]
      have ih2 := ih (i + 1) _ _ (.int (nI (1))) (.int (nI (cT s))) (by omega) hIb
      rw [e] at ih2
      exact ih2
    | false =>
      show XP X (d + 6) k_M_rests 54 [.ref (99), .int (nI (p)), .int (nI (y)), .int (nI (up)), .int (nI (mkN (tRB s p y up) (i))), .int (nI (i)), .int (nI (0)), .int (nI (cT s))] [] _ _
      refine XP_n 2 (pc' := 56) (ls' := [.ref (99), .int (nI (p)), .int (nI (y)), .int (nI (up)), .int (nI (mkN (tRB s p y up) (i))), .int (nI (i)), .int (nI (0)), .int (nI (cT s))]) (st' := [.int (nI (0)), .int (nI (mkN (tRB s p y up) (i)))]) (M' := (Ib, Jb, Rx R, N, G)) rfl ?_
      refine XP_ifN (x := 0)  rfl (by omega) (fun (b56 : 0 = 0) => ?_) (fun (b56 : ¬ 0 = 0) => absurd b56 (by omega))
      refine XP_n 3 (pc' := 64) (ls' := [.ref (99), .int (nI (p)), .int (nI (y)), .int (nI (up)), .int ((nI (mkN (tRB s p y up) (i))) ||| (nI (0))), .int (nI (i)), .int (nI (0)), .int (nI (cT s))]) (st' := []) (M' := (Ib, Jb, Rx R, N, G)) rfl ?_
      rw [show (nI (mkN (tRB s p y up) (i))) ||| (nI (0)) = nI (mkN (tRB s p y up) (i)) from or_0 _]
      refine XP_n 1 (pc' := 65) (ls' := [.ref (99), .int (nI (p)), .int (nI (y)), .int (nI (up)), .int (nI (mkN (tRB s p y up) (i))), .int (nI (i) + nI (1)), .int (nI (0)), .int (nI (cT s))]) (st' := []) (M' := (Ib, Jb, Rx R, N, G)) rfl ?_
      rw [show nI (i) + nI (1) = nI (i + 1) from nI_addE (rfl) rfl]
      refine XP_n 1 (pc' := 12) (ls' := [.ref (99), .int (nI (p)), .int (nI (y)), .int (nI (up)), .int (nI (mkN (tRB s p y up) (i))), .int (nI (i + 1)), .int (nI (0)), .int (nI (cT s))]) (st' := []) (M' := (Ib, Jb, Rx R, N, G)) rfl ?_
      have e : mkN (tRB s p y up) (i + 1) = mkN (tRB s p y up) i := by simp [mkN, sumN, hb]
      have ih2 := ih (i + 1) _ _ (.int (nI (0))) (.int (nI (cT s))) (by omega) hIb
      rw [e] at ih2
      exact ih2
theorem f_rests (hI : Inv s R N I J) (p : Int32) (y : Int32) (up : Int32) : ∃ v, TP X (d + 12) n_H_rests [.ref 0, .int p, .int y, .int up] (I, J, Rx R, N, G) (QP s R N G (.int v)) ∧ ∀ I J, Inv s R N I J → TP X (d + 12) n_M_rests [.ref 99, .int p, .int y, .int up] (I, J, Rx R, N, G) (QP s R N G (.int v)) := by
  have hI0 := hI
  obtain ⟨hS, hW, hL, hC, hch⟩ := hI0
  have hy16 := hW.y.2
  have hp4 := hW.p.2
  have hs6 := hW.ns.2
  have hr8 := hW.r.2
  have hst8 := hW.st.2
  have ht3 := hW.t.2
  have hw60 := hW.w.2
  have hcwa := cWA_le hW
  have hpu9 := hW.pu.2
  have h2p : 1 ≤ 2 ^ cT s ∧ 2 ^ cT s ≤ 8 ∧ (0 < cT s → 2 ≤ 2 ^ cT s) := tN_le hW
  by_cases g0 : inN (p) (cP s)
  rotate_left
  · skip
    refine ⟨cI (-2), ?_, fun I J hI => ?_⟩
    · unfold TP
      show XP X _ k_H_rests 0 [.ref (0), .int (p), .int (y), .int (up), xj, xj] [] _ _
      refine XP_n 4 (pc' := 4) (ls' := [.ref (0), .int (p), .int (y), .int (up), xj, xj]) (st' := [.int (up), .int (y), .int (p), .ref (0)]) (M' := (I, J, Rx R, N, G)) rfl ?_
      refine XP_pure rfl rfl (c_rzF hI (fun z => g0 z.1)) ?_
      refine XP_ifN (x := 0)  rfl (by omega) (fun (b5 : ¬ 0 = 0) => absurd b5 (by omega)) (fun (b5 : 0 = 0) => ?_)
      refine XP_n 1 (pc' := 7) (ls' := [.ref (0), .int (p), .int (y), .int (up), xj, xj]) (st' := [.int (cI (-2))]) (M' := (I, J, Rx R, N, G)) rfl ?_
      exact XP_ret rfl ⟨rfl, _, _, rfl, hI⟩
    · unfold TP
      show XP X _ k_M_rests 0 [.ref (99), .int (p), .int (y), .int (up), xj, xj, xj, xj] [] _ _
      refine XP_n 4 (pc' := 4) (ls' := [.ref (99), .int (p), .int (y), .int (up), xj, xj, xj, xj]) (st' := [.int (up), .int (y), .int (p), .ref (99)]) (M' := (I, J, Rx R, N, G)) rfl ?_
      refine XP_pure rfl rfl (m_rzF hI (fun z => g0 z.1)) ?_
      refine XP_ifN (x := 0)  rfl (by omega) (fun (b5 : ¬ 0 = 0) => absurd b5 (by omega)) (fun (b5 : 0 = 0) => ?_)
      refine XP_n 1 (pc' := 7) (ls' := [.ref (99), .int (p), .int (y), .int (up), xj, xj, xj, xj]) (st' := [.int (cI (-2))]) (M' := (I, J, Rx R, N, G)) rfl ?_
      exact XP_ret rfl ⟨rfl, _, _, rfl, hI⟩
  obtain ⟨pn, hpn, rfl, ep⟩ := inN_nat g0 (by omega)
  by_cases g1 : inN (y) (cY s)
  rotate_left
  · skip
    refine ⟨cI (-2), ?_, fun I J hI => ?_⟩
    · unfold TP
      show XP X _ k_H_rests 0 [.ref (0), .int (nI (pn)), .int (y), .int (up), xj, xj] [] _ _
      refine XP_n 4 (pc' := 4) (ls' := [.ref (0), .int (nI (pn)), .int (y), .int (up), xj, xj]) (st' := [.int (up), .int (y), .int (nI (pn)), .ref (0)]) (M' := (I, J, Rx R, N, G)) rfl ?_
      refine XP_pure rfl rfl (c_rzF hI (fun z => g1 z.2.1)) ?_
      refine XP_ifN (x := 0)  rfl (by omega) (fun (b5 : ¬ 0 = 0) => absurd b5 (by omega)) (fun (b5 : 0 = 0) => ?_)
      refine XP_n 1 (pc' := 7) (ls' := [.ref (0), .int (nI (pn)), .int (y), .int (up), xj, xj]) (st' := [.int (cI (-2))]) (M' := (I, J, Rx R, N, G)) rfl ?_
      exact XP_ret rfl ⟨rfl, _, _, rfl, hI⟩
    · unfold TP
      show XP X _ k_M_rests 0 [.ref (99), .int (nI (pn)), .int (y), .int (up), xj, xj, xj, xj] [] _ _
      refine XP_n 4 (pc' := 4) (ls' := [.ref (99), .int (nI (pn)), .int (y), .int (up), xj, xj, xj, xj]) (st' := [.int (up), .int (y), .int (nI (pn)), .ref (99)]) (M' := (I, J, Rx R, N, G)) rfl ?_
      refine XP_pure rfl rfl (m_rzF hI (fun z => g1 z.2.1)) ?_
      refine XP_ifN (x := 0)  rfl (by omega) (fun (b5 : ¬ 0 = 0) => absurd b5 (by omega)) (fun (b5 : 0 = 0) => ?_)
      refine XP_n 1 (pc' := 7) (ls' := [.ref (99), .int (nI (pn)), .int (y), .int (up), xj, xj, xj, xj]) (st' := [.int (cI (-2))]) (M' := (I, J, Rx R, N, G)) rfl ?_
      exact XP_ret rfl ⟨rfl, _, _, rfl, hI⟩
  obtain ⟨yn, hyn, rfl, ey⟩ := inN_nat g1 (by omega)
  by_cases g2 : iv 1 30 (up)
  rotate_left
  · skip
    refine ⟨cI (-2), ?_, fun I J hI => ?_⟩
    · unfold TP
      show XP X _ k_H_rests 0 [.ref (0), .int (nI (pn)), .int (nI (yn)), .int (up), xj, xj] [] _ _
      refine XP_n 4 (pc' := 4) (ls' := [.ref (0), .int (nI (pn)), .int (nI (yn)), .int (up), xj, xj]) (st' := [.int (up), .int (nI (yn)), .int (nI (pn)), .ref (0)]) (M' := (I, J, Rx R, N, G)) rfl ?_
      refine XP_pure rfl rfl (c_rzF hI (fun z => g2 z.2.2)) ?_
      refine XP_ifN (x := 0)  rfl (by omega) (fun (b5 : ¬ 0 = 0) => absurd b5 (by omega)) (fun (b5 : 0 = 0) => ?_)
      refine XP_n 1 (pc' := 7) (ls' := [.ref (0), .int (nI (pn)), .int (nI (yn)), .int (up), xj, xj]) (st' := [.int (cI (-2))]) (M' := (I, J, Rx R, N, G)) rfl ?_
      exact XP_ret rfl ⟨rfl, _, _, rfl, hI⟩
    · unfold TP
      show XP X _ k_M_rests 0 [.ref (99), .int (nI (pn)), .int (nI (yn)), .int (up), xj, xj, xj, xj] [] _ _
      refine XP_n 4 (pc' := 4) (ls' := [.ref (99), .int (nI (pn)), .int (nI (yn)), .int (up), xj, xj, xj, xj]) (st' := [.int (up), .int (nI (yn)), .int (nI (pn)), .ref (99)]) (M' := (I, J, Rx R, N, G)) rfl ?_
      refine XP_pure rfl rfl (m_rzF hI (fun z => g2 z.2.2)) ?_
      refine XP_ifN (x := 0)  rfl (by omega) (fun (b5 : ¬ 0 = 0) => absurd b5 (by omega)) (fun (b5 : 0 = 0) => ?_)
      refine XP_n 1 (pc' := 7) (ls' := [.ref (99), .int (nI (pn)), .int (nI (yn)), .int (up), xj, xj, xj, xj]) (st' := [.int (cI (-2))]) (M' := (I, J, Rx R, N, G)) rfl ?_
      exact XP_ret rfl ⟨rfl, _, _, rfl, hI⟩
  obtain ⟨upn, hupn0, hupn, rfl, eup⟩ := iv_nat g2 (by omega) (by omega)
  refine ⟨nI (mkN (tRB s pn yn upn) (2 ^ cT s)), ?_, fun I J hI => ?_⟩
  · have hy := hyn
    have hp := hpn
    have hup := hupn
    have hlv := (nLv_ok hW hpn (show yn ≤ 15 by omega)).2
    unfold TP
    show XP X _ k_H_rests 0 [.ref (0), .int (nI (pn)), .int (nI (yn)), .int (nI (upn)), xj, xj] [] _ _
    refine XP_n 4 (pc' := 4) (ls' := [.ref (0), .int (nI (pn)), .int (nI (yn)), .int (nI (upn)), xj, xj]) (st' := [.int (nI (upn)), .int (nI (yn)), .int (nI (pn)), .ref (0)]) (M' := (I, J, Rx R, N, G)) rfl ?_
    refine XP_pure rfl rfl (c_rzT hI ⟨g0, g1, g2⟩) ?_
    refine XP_ifN (x := 1)  rfl (by omega) (fun (b5 : ¬ 1 = 0) => ?_) (fun (b5 : 1 = 0) => absurd b5 (by omega))
    refine XP_n 5 (pc' := 13) (ls' := [.ref (0), .int (nI (pn)), .int (nI (yn)), .int (nI (upn)), xj, xj]) (st' := [.int (nI (upn)), .int (nI (yn)), .int (nI (pn)), .ref (80)]) (M' := (I, J, Rx R, N, G)) rfl ?_
    refine XP_call rfl rfl (c_look hI (show pn < cP s by omega) (show yn < cY s by omega) (up := upn)) ?_
    rintro v27 M27 ⟨rfl, I27, rfl, hI27, h5_27, h6_27, h7_27⟩
    refine XP_n 4 (pc' := 18) (ls' := [.ref (0), .int (nI (pn)), .int (nI (yn)), .int (nI (upn)), .int (nI (0)), .int (nI (0))]) (st' := []) (M' := (I27, J, Rx R, N, G)) rfl ?_
    exact l_H_rests (d := d + 4) hW hp hup hy hlv (2 ^ cT s) 0 _ (by omega) hI27 h5_27 h6_27 h7_27
  · have hy := hyn
    have hp := hpn
    have hup := hupn
    have hlv := (nLv_ok hW hpn (show yn ≤ 15 by omega)).2
    unfold TP
    show XP X _ k_M_rests 0 [.ref (99), .int (nI (pn)), .int (nI (yn)), .int (nI (upn)), xj, xj, xj, xj] [] _ _
    refine XP_n 4 (pc' := 4) (ls' := [.ref (99), .int (nI (pn)), .int (nI (yn)), .int (nI (upn)), xj, xj, xj, xj]) (st' := [.int (nI (upn)), .int (nI (yn)), .int (nI (pn)), .ref (99)]) (M' := (I, J, Rx R, N, G)) rfl ?_
    refine XP_pure rfl rfl (m_rzT hI ⟨g0, g1, g2⟩) ?_
    refine XP_ifN (x := 1)  rfl (by omega) (fun (b5 : ¬ 1 = 0) => ?_) (fun (b5 : 1 = 0) => absurd b5 (by omega))
    refine XP_n 4 (pc' := 12) (ls' := [.ref (99), .int (nI (pn)), .int (nI (yn)), .int (nI (upn)), .int (nI (0)), .int (nI (0)), xj, xj]) (st' := []) (M' := (I, J, Rx R, N, G)) rfl ?_
    exact l_M_rests (d := d + 6) hW hp hup hy hlv (2 ^ cT s) 0 _ _ _ _ (by omega) hI
theorem l_H_tog (hW : Wf s) {p y up : Nat} (hp : p < cP s) (hup : up ≤ 30) (hy : y < cY s) (hlv : nLv s p y ≤ 150) : ∀ (n i : Nat) (I : Nat → Nat → Int32), i + 1 + n = 2 ^ cT s → Inv s R N I J → I 80 5 = nI (nLv s p y) → I 80 6 = nI y → I 80 7 = nI up → XP X (d + 8) k_H_together 18 [.ref (0), .int (nI (p)), .int (nI (y)), .int (nI (up)), .int (nI (argV (tAll s p y up) (i))), .int (nI (i + 1))] [] (I, J, Rx R, N, G) (QP s R N G (.int (nI (argV (tAll s p y up) (2 ^ cT s - 1))))) := by
  have ht3 := hW.t.2
  have hpu9 := hW.pu.2
  have hp4 := hW.p.2
  have hy16 := hW.y.2
  have h2p : 1 ≤ 2 ^ cT s ∧ 2 ^ cT s ≤ 8 ∧ (0 < cT s → 2 ≤ 2 ^ cT s) := tN_le hW
  intro n
  induction n with
  | zero =>
    rintro i I hi hI h5 h6 h7
    obtain rfl : i = 2 ^ cT s - 1 := by omega
    have hal := argV_le (tAll s p y up) (2 ^ cT s - 1)
    refine XP_n 3 (pc' := 21) (ls' := [.ref (0), .int (nI (p)), .int (nI (y)), .int (nI (up)), .int (nI (argV (tAll s p y up) (2 ^ cT s - 1))), .int (nI (2 ^ cT s - 1 + 1))]) (st' := [.ref (80), .int (nI (2 ^ cT s - 1 + 1))]) (M' := (I, J, Rx R, N, G)) rfl ?_
    refine XP_pure rfl rfl (c_allT hI.1 hW) ?_
    refine XP_icN (x := 2 ^ cT s - 1 + 1) (y := 2 ^ cT s - 1) rfl (by omega) (by omega) (fun (b22 : 2 ^ cT s - 1 < 2 ^ cT s - 1 + 1) => ?_) (fun (b22 : 2 ^ cT s - 1 + 1 ≤ 2 ^ cT s - 1) => absurd b22 (by omega))
    refine XP_n 1 (pc' := 38) (ls' := [.ref (0), .int (nI (p)), .int (nI (y)), .int (nI (up)), .int (nI (argV (tAll s p y up) (2 ^ cT s - 1))), .int (nI (2 ^ cT s - 1 + 1))]) (st' := [.int (nI (argV (tAll s p y up) (2 ^ cT s - 1)))]) (M' := (I, J, Rx R, N, G)) rfl ?_
    exact XP_ret rfl ⟨rfl, _, _, rfl, hI⟩
  | succ n ih =>
    rintro i I hi hI h5 h6 h7
    have hal := argV_le (tAll s p y up) i
    have hae := argV_eq (tAll s p y up) i
    have es : argV (tAll s p y up) (i + 1) = (if tAll s p y up (i + 1) < minV (tAll s p y up) i then i + 1 else argV (tAll s p y up) i) := rfl
    refine XP_n 3 (pc' := 21) (ls' := [.ref (0), .int (nI (p)), .int (nI (y)), .int (nI (up)), .int (nI (argV (tAll s p y up) (i))), .int (nI (i + 1))]) (st' := [.ref (80), .int (nI (i + 1))]) (M' := (I, J, Rx R, N, G)) rfl ?_
    refine XP_pure rfl rfl (c_allT hI.1 hW) ?_
    refine XP_icN (x := i + 1) (y := 2 ^ cT s - 1) rfl (by omega) (by omega) (fun (b22 : 2 ^ cT s - 1 < i + 1) => absurd b22 (by omega)) (fun (b22 : i + 1 ≤ 2 ^ cT s - 1) => ?_)
    refine XP_n 3 (pc' := 26) (ls' := [.ref (0), .int (nI (p)), .int (nI (y)), .int (nI (up)), .int (nI (argV (tAll s p y up) (i))), .int (nI (i + 1))]) (st' := [.int (nI (i + 1)), .ref (80)]) (M' := (I, J, Rx R, N, G)) rfl ?_
    refine XP_call rfl rfl (c_payAll hI (show i + 1 < 8 by omega) hup hy hlv h5 h6 h7) ?_
    rintro v28 M28 ⟨rfl, I28, rfl, hI28, hO28⟩
    have f28_80_5 : I28 80 5 = nI (nLv s p y) := (congrFun (hO28 80 (by have := oT_ge (cLw s); simp; omega)) 5).trans h5
    have f28_80_6 : I28 80 6 = nI (y) := (congrFun (hO28 80 (by have := oT_ge (cLw s); simp; omega)) 6).trans h6
    have f28_80_7 : I28 80 7 = nI (up) := (congrFun (hO28 80 (by have := oT_ge (cLw s); simp; omega)) 7).trans h7
    have htp28 := tAll_le hW p y up (i + 1)
    refine XP_n 3 (pc' := 30) (ls' := [.ref (0), .int (nI (p)), .int (nI (y)), .int (nI (up)), .int (nI (argV (tAll s p y up) (i))), .int (nI (i + 1))]) (st' := [.int (nI (argV (tAll s p y up) (i))), .ref (80), .long (lN (tAll s p y up (i + 1)))]) (M' := (I28, J, Rx R, N, G)) rfl ?_
    refine XP_call rfl rfl (c_payAll hI28 (show argV (tAll s p y up) (i) < 8 by omega) hup hy hlv f28_80_5 f28_80_6 f28_80_7) ?_
    rintro v29 M29 ⟨rfl, I29, rfl, hI29, hO29⟩
    have f29_80_5 : I29 80 5 = nI (nLv s p y) := (congrFun (hO29 80 (by have := oT_ge (cLw s); simp; omega)) 5).trans f28_80_5
    have f29_80_6 : I29 80 6 = nI (y) := (congrFun (hO29 80 (by have := oT_ge (cLw s); simp; omega)) 6).trans f28_80_6
    have f29_80_7 : I29 80 7 = nI (up) := (congrFun (hO29 80 (by have := oT_ge (cLw s); simp; omega)) 7).trans f28_80_7
    have htp29 := tAll_le hW p y up (argV (tAll s p y up) (i))
    refine XP_lcN (x := tAll s p y up (i + 1)) (y := tAll s p y up (argV (tAll s p y up) (i))) rfl rfl (by omega) (by omega) (fun (b32 : tAll s p y up (argV (tAll s p y up) (i)) ≤ tAll s p y up (i + 1)) => ?_) (fun (b32 : tAll s p y up (i + 1) < tAll s p y up (argV (tAll s p y up) (i))) => ?_)
    · refine XP_n 1 (pc' := 36) (ls' := [.ref (0), .int (nI (p)), .int (nI (y)), .int (nI (up)), .int (nI (argV (tAll s p y up) (i))), .int (nI (i + 1) + nI (1))]) (st' := []) (M' := (I29, J, Rx R, N, G)) rfl ?_
      rw [show nI (i + 1) + nI (1) = nI (i + 1 + 1) from nI_addE (rfl) rfl]
      refine XP_n 1 (pc' := 18) (ls' := [.ref (0), .int (nI (p)), .int (nI (y)), .int (nI (up)), .int (nI (argV (tAll s p y up) (i))), .int (nI (i + 1 + 1))]) (st' := []) (M' := (I29, J, Rx R, N, G)) rfl ?_
      have ih2 := ih (i + 1) _ (by omega) hI29 f29_80_5 f29_80_6 f29_80_7
      rw [es, if_neg (by omega)] at ih2
      exact ih2
    · refine XP_n 3 (pc' := 36) (ls' := [.ref (0), .int (nI (p)), .int (nI (y)), .int (nI (up)), .int (nI (i + 1)), .int (nI (i + 1) + nI (1))]) (st' := []) (M' := (I29, J, Rx R, N, G)) rfl ?_
      rw [show nI (i + 1) + nI (1) = nI (i + 1 + 1) from nI_addE (rfl) rfl]
      refine XP_n 1 (pc' := 18) (ls' := [.ref (0), .int (nI (p)), .int (nI (y)), .int (nI (up)), .int (nI (i + 1)), .int (nI (i + 1 + 1))]) (st' := []) (M' := (I29, J, Rx R, N, G)) rfl ?_
      have ih2 := ih (i + 1) _ (by omega) hI29 f29_80_5 f29_80_6 f29_80_7
      rw [es, if_pos (by omega)] at ih2
      exact ih2
theorem l_M_tog1 {Q : Option Value → hM → Prop} (hW : Wf s) {p y up : Nat} (hp : p < cP s) (hup : up ≤ 30) (hy : y < cY s) (hlv : nLv s p y ≤ 150) {m : Nat} (hm : m < 8) {bb : Int32} {low : Int64} (kk : ∀ I J, Inv s R N I J → XP X (d + 6) k_M_together 40 [.ref (99), .int (nI (p)), .int (nI (y)), .int (nI (up)), .int (bb), .long (low), xj, .int (nI (m)), .long (lN (tAll s p y up m)), xj, .int (nI (cT s))] [] (I, J, Rx R, N, G) Q) : ∀ (n i : Nat) (I : Nat → Nat → Int32) (J : Nat → Nat → Int64), i + n = cT s → Inv s R N I J → XP X (d + 6) k_M_together 24 [.ref (99), .int (nI (p)), .int (nI (y)), .int (nI (up)), .int (bb), .long (low), xj, .int (nI (m)), .long (lN (sumN (tPay s p y up m) (i))), xj, .int (nI (i))] [] (I, J, Rx R, N, G) Q := by
  have ht3 := hW.t.2
  have hpu9 := hW.pu.2
  have hp4 := hW.p.2
  have hy16 := hW.y.2
  have h2p : 1 ≤ 2 ^ cT s ∧ 2 ^ cT s ≤ 8 ∧ (0 < cT s → 2 ≤ 2 ^ cT s) := tN_le hW
  intro n
  induction n with
  | zero =>
    rintro i I J hi hI
    obtain rfl : i = cT s := by omega
    refine XP_n 2 (pc' := 26) (ls' := [.ref (99), .int (nI (p)), .int (nI (y)), .int (nI (up)), .int (bb), .long (low), xj, .int (nI (m)), .long (lN (sumN (tPay s p y up m) (cT s))), xj, .int (nI (cT s))]) (st' := [.ref (99), .int (nI (cT s))]) (M' := (I, J, Rx R, N, G)) rfl ?_
    refine XP_geti hI.1 rfl rfl rfl ?_
    rw [hW.t.1]
    refine XP_icN (x := cT s) (y := cT s) rfl (by omega) (by omega) (fun (b27 : cT s ≤ cT s) => ?_) (fun (b27 : cT s < cT s) => absurd b27 (by omega))
    exact kk _ _ hI
  | succ n ih =>
    rintro i I J hi hI
    have hsl := tSum_le hW p y up m (show i ≤ cT s by omega)
    refine XP_n 2 (pc' := 26) (ls' := [.ref (99), .int (nI (p)), .int (nI (y)), .int (nI (up)), .int (bb), .long (low), xj, .int (nI (m)), .long (lN (sumN (tPay s p y up m) (i))), xj, .int (nI (i))]) (st' := [.ref (99), .int (nI (i))]) (M' := (I, J, Rx R, N, G)) rfl ?_
    refine XP_geti hI.1 rfl rfl rfl ?_
    rw [hW.t.1]
    refine XP_icN (x := i) (y := cT s) rfl (by omega) (by omega) (fun (b27 : cT s ≤ i) => absurd b27 (by omega)) (fun (b27 : i < cT s) => ?_)
    refine XP_n 7 (pc' := 35) (ls' := [.ref (99), .int (nI (p)), .int (nI (y)), .int (nI (up)), .int (bb), .long (low), xj, .int (nI (m)), .long (lN (sumN (tPay s p y up m) (i))), xj, .int (nI (i))]) (st' := [.int (nI (m)), .int (nI (up)), .int (nI (y)), .int (nI (p)), .int (nI (i)), .ref (99), .long (lN (sumN (tPay s p y up m) (i)))]) (M' := (I, J, Rx R, N, G)) rfl ?_
    refine XP_call rfl (rfl) (m_paysOf hI (show m < 8 by omega) (show i < cT s by omega) hup hy hp) ?_
    rintro v30 M30 ⟨rfl, I30, J30, rfl, hI30⟩
    have htp30 := tPay_le hW p y up (m) (i)
    refine XP_n 2 (pc' := 38) (ls' := [.ref (99), .int (nI (p)), .int (nI (y)), .int (nI (up)), .int (bb), .long (low), xj, .int (nI (m)), .long ((lN (sumN (tPay s p y up m) (i))) + (lN (tPay s p y up m i))), xj, .int (nI (i))]) (st' := []) (M' := (I30, J30, Rx R, N, G)) rfl ?_
    rw [show (lN (sumN (tPay s p y up m) (i))) + (lN (tPay s p y up m i)) = lN (sumN (tPay s p y up m) (i) + tPay s p y up m i) from lN_addE (rfl) (rfl)]
    refine XP_n 1 (pc' := 39) (ls' := [.ref (99), .int (nI (p)), .int (nI (y)), .int (nI (up)), .int (bb), .long (low), xj, .int (nI (m)), .long (lN (sumN (tPay s p y up m) (i) + tPay s p y up m i)), xj, .int (nI (i) + nI (1))]) (st' := []) (M' := (I30, J30, Rx R, N, G)) rfl ?_
    rw [show nI (i) + nI (1) = nI (i + 1) from nI_addE (rfl) rfl]
    refine XP_n 1 (pc' := 24) (ls' := [.ref (99), .int (nI (p)), .int (nI (y)), .int (nI (up)), .int (bb), .long (low), xj, .int (nI (m)), .long (lN (sumN (tPay s p y up m) (i) + tPay s p y up m i)), xj, .int (nI (i + 1))]) (st' := []) (M' := (I30, J30, Rx R, N, G)) rfl ?_
    exact ih (i + 1) _ _ (by omega) hI30
theorem l_M_tog (hW : Wf s) {p y up : Nat} (hp : p < cP s) (hup : up ≤ 30) (hy : y < cY s) (hlv : nLv s p y ≤ 150) : ∀ (n i : Nat) (I : Nat → Nat → Int32) (J : Nat → Nat → Int64) (w8 w9 w10 : Value), i + 1 + n = 2 ^ cT s → Inv s R N I J → XP X (d + 6) k_M_together 14 [.ref (99), .int (nI (p)), .int (nI (y)), .int (nI (up)), .int (nI (argV (tAll s p y up) (i))), .long (lN (minV (tAll s p y up) (i))), xj, .int (nI (i + 1)), w8, w9, w10] [] (I, J, Rx R, N, G) (QP s R N G (.int (nI (argV (tAll s p y up) (2 ^ cT s - 1))))) := by
  have ht3 := hW.t.2
  have hpu9 := hW.pu.2
  have hp4 := hW.p.2
  have hy16 := hW.y.2
  have h2p : 1 ≤ 2 ^ cT s ∧ 2 ^ cT s ≤ 8 ∧ (0 < cT s → 2 ≤ 2 ^ cT s) := tN_le hW
  intro n
  induction n with
  | zero =>
    rintro i I J w8 w9 w10 hi hI
    obtain rfl : i = 2 ^ cT s - 1 := by omega
    refine XP_n 3 (pc' := 17) (ls' := [.ref (99), .int (nI (p)), .int (nI (y)), .int (nI (up)), .int (nI (argV (tAll s p y up) (2 ^ cT s - 1))), .long (lN (minV (tAll s p y up) (2 ^ cT s - 1))), xj, .int (nI (2 ^ cT s - 1 + 1)), w8, w9, w10]) (st' := [.ref (99), .int (nI (1)), .int (nI (2 ^ cT s - 1 + 1))]) (M' := (I, J, Rx R, N, G)) rfl ?_
    refine XP_geti hI.1 rfl rfl rfl ?_
    rw [hW.t.1]
    refine XP_n 1 (pc' := 19) (ls' := [.ref (99), .int (nI (p)), .int (nI (y)), .int (nI (up)), .int (nI (argV (tAll s p y up) (2 ^ cT s - 1))), .long (lN (minV (tAll s p y up) (2 ^ cT s - 1))), xj, .int (nI (2 ^ cT s - 1 + 1)), w8, w9, w10]) (st' := [.int ((nI (1)) <<< ((nI (cT s)) &&& 31)), .int (nI (2 ^ cT s - 1 + 1))]) (M' := (I, J, Rx R, N, G)) rfl ?_
    rw [show (nI (1)) <<< ((nI (cT s)) &&& 31) = nI (2 ^ (cT s)) from b_pw (show cT s < 8 by omega)]
    refine XP_icN (x := 2 ^ cT s - 1 + 1) (y := 2 ^ (cT s)) rfl (by omega) (by omega) (fun (b19 : 2 ^ (cT s) ≤ 2 ^ cT s - 1 + 1) => ?_) (fun (b19 : 2 ^ cT s - 1 + 1 < 2 ^ (cT s)) => absurd b19 (by omega))
    refine XP_n 1 (pc' := 53) (ls' := [.ref (99), .int (nI (p)), .int (nI (y)), .int (nI (up)), .int (nI (argV (tAll s p y up) (2 ^ cT s - 1))), .long (lN (minV (tAll s p y up) (2 ^ cT s - 1))), xj, .int (nI (2 ^ cT s - 1 + 1)), w8, w9, w10]) (st' := [.int (nI (argV (tAll s p y up) (2 ^ cT s - 1)))]) (M' := (I, J, Rx R, N, G)) rfl ?_
    exact XP_ret rfl ⟨rfl, _, _, rfl, hI⟩
  | succ n ih =>
    rintro i I J w8 w9 w10 hi hI
    have hal := argV_le (tAll s p y up) i
    have hmb : minV (tAll s p y up) i ≤ 60000000 := minV_bd _ (fun u _ => tAll_le hW p y up u)
    have htl := tAll_le hW p y up (i + 1)
    have es : argV (tAll s p y up) (i + 1) = (if tAll s p y up (i + 1) < minV (tAll s p y up) i then i + 1 else argV (tAll s p y up) i) := rfl
    have em : minV (tAll s p y up) (i + 1) = (if tAll s p y up (i + 1) < minV (tAll s p y up) i then tAll s p y up (i + 1) else minV (tAll s p y up) i) := rfl
    refine XP_n 3 (pc' := 17) (ls' := [.ref (99), .int (nI (p)), .int (nI (y)), .int (nI (up)), .int (nI (argV (tAll s p y up) (i))), .long (lN (minV (tAll s p y up) (i))), xj, .int (nI (i + 1)), w8, w9, w10]) (st' := [.ref (99), .int (nI (1)), .int (nI (i + 1))]) (M' := (I, J, Rx R, N, G)) rfl ?_
    refine XP_geti hI.1 rfl rfl rfl ?_
    rw [hW.t.1]
    refine XP_n 1 (pc' := 19) (ls' := [.ref (99), .int (nI (p)), .int (nI (y)), .int (nI (up)), .int (nI (argV (tAll s p y up) (i))), .long (lN (minV (tAll s p y up) (i))), xj, .int (nI (i + 1)), w8, w9, w10]) (st' := [.int ((nI (1)) <<< ((nI (cT s)) &&& 31)), .int (nI (i + 1))]) (M' := (I, J, Rx R, N, G)) rfl ?_
    rw [show (nI (1)) <<< ((nI (cT s)) &&& 31) = nI (2 ^ (cT s)) from b_pw (show cT s < 8 by omega)]
    refine XP_icN (x := i + 1) (y := 2 ^ (cT s)) rfl (by omega) (by omega) (fun (b19 : 2 ^ (cT s) ≤ i + 1) => absurd b19 (by omega)) (fun (b19 : i + 1 < 2 ^ (cT s)) => ?_)
    refine XP_n 4 (pc' := 24) (ls' := [.ref (99), .int (nI (p)), .int (nI (y)), .int (nI (up)), .int (nI (argV (tAll s p y up) (i))), .long (lN (minV (tAll s p y up) (i))), xj, .int (nI (i + 1)), .long (lN (0)), xj, .int (nI (0))]) (st' := []) (M' := (I, J, Rx R, N, G)) rfl ?_
    refine l_M_tog1 hW hp hup hy hlv (show i + 1 < 8 by omega) ?_ (cT s) 0 _ _ (by omega) hI
    intro Ib Jb hIb
    refine XP_n 1 (pc' := 41) (ls' := [.ref (99), .int (nI (p)), .int (nI (y)), .int (nI (up)), .int (nI (argV (tAll s p y up) (i))), .long (lN (minV (tAll s p y up) (i))), xj, .int (nI (i + 1)), .long (lN (tAll s p y up (i + 1))), xj, .int (nI (cT s))]) (st' := [.int (nI (i + 1))]) (M' := (Ib, Jb, Rx R, N, G)) rfl ?_
    refine XP_ifN (x := i + 1)  rfl (by omega) (fun (b41 : i + 1 = 0) => absurd b41 (by omega)) (fun (b41 : ¬ i + 1 = 0) => ?_)
    refine XP_n 2 (pc' := 44) (ls' := [.ref (99), .int (nI (p)), .int (nI (y)), .int (nI (up)), .int (nI (argV (tAll s p y up) (i))), .long (lN (minV (tAll s p y up) (i))), xj, .int (nI (i + 1)), .long (lN (tAll s p y up (i + 1))), xj, .int (nI (cT s))]) (st' := [.long (lN (minV (tAll s p y up) (i))), .long (lN (tAll s p y up (i + 1)))]) (M' := (Ib, Jb, Rx R, N, G)) rfl ?_
    refine XP_lcN (x := tAll s p y up (i + 1)) (y := minV (tAll s p y up) (i)) rfl rfl (by omega) (by omega) (fun (b45 : minV (tAll s p y up) (i) ≤ tAll s p y up (i + 1)) => ?_) (fun (b45 : tAll s p y up (i + 1) < minV (tAll s p y up) (i)) => ?_)
    · refine XP_n 1 (pc' := 51) (ls' := [.ref (99), .int (nI (p)), .int (nI (y)), .int (nI (up)), .int (nI (argV (tAll s p y up) (i))), .long (lN (minV (tAll s p y up) (i))), xj, .int (nI (i + 1) + nI (1)), .long (lN (tAll s p y up (i + 1))), xj, .int (nI (cT s))]) (st' := []) (M' := (Ib, Jb, Rx R, N, G)) rfl ?_
      rw [show nI (i + 1) + nI (1) = nI (i + 1 + 1) from nI_addE (rfl) rfl]
      refine XP_n 1 (pc' := 14) (ls' := [.ref (99), .int (nI (p)), .int (nI (y)), .int (nI (up)), .int (nI (argV (tAll s p y up) (i))), .long (lN (minV (tAll s p y up) (i))), xj, .int (nI (i + 1 + 1)), .long (lN (tAll s p y up (i + 1))), xj, .int (nI (cT s))]) (st' := []) (M' := (Ib, Jb, Rx R, N, G)) rfl ?_
      have ih2 := ih (i + 1) _ _ (.long (lN (tAll s p y up (i + 1)))) xj (.int (nI (cT s))) (by omega) hIb
      rw [es, em, if_neg (by omega), if_neg (by omega)] at ih2
      exact ih2
    · refine XP_n 5 (pc' := 51) (ls' := [.ref (99), .int (nI (p)), .int (nI (y)), .int (nI (up)), .int (nI (i + 1)), .long (lN (tAll s p y up (i + 1))), xj, .int (nI (i + 1) + nI (1)), .long (lN (tAll s p y up (i + 1))), xj, .int (nI (cT s))]) (st' := []) (M' := (Ib, Jb, Rx R, N, G)) rfl ?_
      rw [show nI (i + 1) + nI (1) = nI (i + 1 + 1) from nI_addE (rfl) rfl]
      refine XP_n 1 (pc' := 14) (ls' := [.ref (99), .int (nI (p)), .int (nI (y)), .int (nI (up)), .int (nI (i + 1)), .long (lN (tAll s p y up (i + 1))), xj, .int (nI (i + 1 + 1)), .long (lN (tAll s p y up (i + 1))), xj, .int (nI (cT s))]) (st' := []) (M' := (Ib, Jb, Rx R, N, G)) rfl ?_
      have ih2 := ih (i + 1) _ _ (.long (lN (tAll s p y up (i + 1)))) xj (.int (nI (cT s))) (by omega) hIb
      rw [es, em, if_pos (by omega), if_pos (by omega)] at ih2
      exact ih2
theorem f_together (hI : Inv s R N I J) (p : Int32) (y : Int32) (up : Int32) : ∃ v, TP X (d + 12) n_H_together [.ref 0, .int p, .int y, .int up] (I, J, Rx R, N, G) (QP s R N G (.int v)) ∧ ∀ I J, Inv s R N I J → TP X (d + 12) n_M_together [.ref 99, .int p, .int y, .int up] (I, J, Rx R, N, G) (QP s R N G (.int v)) := by
  have hI0 := hI
  obtain ⟨hS, hW, hL, hC, hch⟩ := hI0
  have hy16 := hW.y.2
  have hp4 := hW.p.2
  have hs6 := hW.ns.2
  have hr8 := hW.r.2
  have hst8 := hW.st.2
  have ht3 := hW.t.2
  have hw60 := hW.w.2
  have hcwa := cWA_le hW
  have hpu9 := hW.pu.2
  have h2p : 1 ≤ 2 ^ cT s ∧ 2 ^ cT s ≤ 8 ∧ (0 < cT s → 2 ≤ 2 ^ cT s) := tN_le hW
  by_cases g0 : inN (p) (cP s)
  rotate_left
  · skip
    refine ⟨cI (-2), ?_, fun I J hI => ?_⟩
    · unfold TP
      show XP X _ k_H_together 0 [.ref (0), .int (p), .int (y), .int (up), xj, xj] [] _ _
      refine XP_n 4 (pc' := 4) (ls' := [.ref (0), .int (p), .int (y), .int (up), xj, xj]) (st' := [.int (up), .int (y), .int (p), .ref (0)]) (M' := (I, J, Rx R, N, G)) rfl ?_
      refine XP_pure rfl rfl (c_rzF hI (fun z => g0 z.1)) ?_
      refine XP_ifN (x := 0)  rfl (by omega) (fun (b5 : ¬ 0 = 0) => absurd b5 (by omega)) (fun (b5 : 0 = 0) => ?_)
      refine XP_n 1 (pc' := 7) (ls' := [.ref (0), .int (p), .int (y), .int (up), xj, xj]) (st' := [.int (cI (-2))]) (M' := (I, J, Rx R, N, G)) rfl ?_
      exact XP_ret rfl ⟨rfl, _, _, rfl, hI⟩
    · unfold TP
      show XP X _ k_M_together 0 [.ref (99), .int (p), .int (y), .int (up), xj, xj, xj, xj, xj, xj, xj] [] _ _
      refine XP_n 4 (pc' := 4) (ls' := [.ref (99), .int (p), .int (y), .int (up), xj, xj, xj, xj, xj, xj, xj]) (st' := [.int (up), .int (y), .int (p), .ref (99)]) (M' := (I, J, Rx R, N, G)) rfl ?_
      refine XP_pure rfl rfl (m_rzF hI (fun z => g0 z.1)) ?_
      refine XP_ifN (x := 0)  rfl (by omega) (fun (b5 : ¬ 0 = 0) => absurd b5 (by omega)) (fun (b5 : 0 = 0) => ?_)
      refine XP_n 1 (pc' := 7) (ls' := [.ref (99), .int (p), .int (y), .int (up), xj, xj, xj, xj, xj, xj, xj]) (st' := [.int (cI (-2))]) (M' := (I, J, Rx R, N, G)) rfl ?_
      exact XP_ret rfl ⟨rfl, _, _, rfl, hI⟩
  obtain ⟨pn, hpn, rfl, ep⟩ := inN_nat g0 (by omega)
  by_cases g1 : inN (y) (cY s)
  rotate_left
  · skip
    refine ⟨cI (-2), ?_, fun I J hI => ?_⟩
    · unfold TP
      show XP X _ k_H_together 0 [.ref (0), .int (nI (pn)), .int (y), .int (up), xj, xj] [] _ _
      refine XP_n 4 (pc' := 4) (ls' := [.ref (0), .int (nI (pn)), .int (y), .int (up), xj, xj]) (st' := [.int (up), .int (y), .int (nI (pn)), .ref (0)]) (M' := (I, J, Rx R, N, G)) rfl ?_
      refine XP_pure rfl rfl (c_rzF hI (fun z => g1 z.2.1)) ?_
      refine XP_ifN (x := 0)  rfl (by omega) (fun (b5 : ¬ 0 = 0) => absurd b5 (by omega)) (fun (b5 : 0 = 0) => ?_)
      refine XP_n 1 (pc' := 7) (ls' := [.ref (0), .int (nI (pn)), .int (y), .int (up), xj, xj]) (st' := [.int (cI (-2))]) (M' := (I, J, Rx R, N, G)) rfl ?_
      exact XP_ret rfl ⟨rfl, _, _, rfl, hI⟩
    · unfold TP
      show XP X _ k_M_together 0 [.ref (99), .int (nI (pn)), .int (y), .int (up), xj, xj, xj, xj, xj, xj, xj] [] _ _
      refine XP_n 4 (pc' := 4) (ls' := [.ref (99), .int (nI (pn)), .int (y), .int (up), xj, xj, xj, xj, xj, xj, xj]) (st' := [.int (up), .int (y), .int (nI (pn)), .ref (99)]) (M' := (I, J, Rx R, N, G)) rfl ?_
      refine XP_pure rfl rfl (m_rzF hI (fun z => g1 z.2.1)) ?_
      refine XP_ifN (x := 0)  rfl (by omega) (fun (b5 : ¬ 0 = 0) => absurd b5 (by omega)) (fun (b5 : 0 = 0) => ?_)
      refine XP_n 1 (pc' := 7) (ls' := [.ref (99), .int (nI (pn)), .int (y), .int (up), xj, xj, xj, xj, xj, xj, xj]) (st' := [.int (cI (-2))]) (M' := (I, J, Rx R, N, G)) rfl ?_
      exact XP_ret rfl ⟨rfl, _, _, rfl, hI⟩
  obtain ⟨yn, hyn, rfl, ey⟩ := inN_nat g1 (by omega)
  by_cases g2 : iv 1 30 (up)
  rotate_left
  · skip
    refine ⟨cI (-2), ?_, fun I J hI => ?_⟩
    · unfold TP
      show XP X _ k_H_together 0 [.ref (0), .int (nI (pn)), .int (nI (yn)), .int (up), xj, xj] [] _ _
      refine XP_n 4 (pc' := 4) (ls' := [.ref (0), .int (nI (pn)), .int (nI (yn)), .int (up), xj, xj]) (st' := [.int (up), .int (nI (yn)), .int (nI (pn)), .ref (0)]) (M' := (I, J, Rx R, N, G)) rfl ?_
      refine XP_pure rfl rfl (c_rzF hI (fun z => g2 z.2.2)) ?_
      refine XP_ifN (x := 0)  rfl (by omega) (fun (b5 : ¬ 0 = 0) => absurd b5 (by omega)) (fun (b5 : 0 = 0) => ?_)
      refine XP_n 1 (pc' := 7) (ls' := [.ref (0), .int (nI (pn)), .int (nI (yn)), .int (up), xj, xj]) (st' := [.int (cI (-2))]) (M' := (I, J, Rx R, N, G)) rfl ?_
      exact XP_ret rfl ⟨rfl, _, _, rfl, hI⟩
    · unfold TP
      show XP X _ k_M_together 0 [.ref (99), .int (nI (pn)), .int (nI (yn)), .int (up), xj, xj, xj, xj, xj, xj, xj] [] _ _
      refine XP_n 4 (pc' := 4) (ls' := [.ref (99), .int (nI (pn)), .int (nI (yn)), .int (up), xj, xj, xj, xj, xj, xj, xj]) (st' := [.int (up), .int (nI (yn)), .int (nI (pn)), .ref (99)]) (M' := (I, J, Rx R, N, G)) rfl ?_
      refine XP_pure rfl rfl (m_rzF hI (fun z => g2 z.2.2)) ?_
      refine XP_ifN (x := 0)  rfl (by omega) (fun (b5 : ¬ 0 = 0) => absurd b5 (by omega)) (fun (b5 : 0 = 0) => ?_)
      refine XP_n 1 (pc' := 7) (ls' := [.ref (99), .int (nI (pn)), .int (nI (yn)), .int (up), xj, xj, xj, xj, xj, xj, xj]) (st' := [.int (cI (-2))]) (M' := (I, J, Rx R, N, G)) rfl ?_
      exact XP_ret rfl ⟨rfl, _, _, rfl, hI⟩
  obtain ⟨upn, hupn0, hupn, rfl, eup⟩ := iv_nat g2 (by omega) (by omega)
  refine ⟨nI (argV (tAll s pn yn upn) (2 ^ cT s - 1)), ?_, fun I J hI => ?_⟩
  · have hy := hyn
    have hp := hpn
    have hup := hupn
    have hlv := (nLv_ok hW hpn (show yn ≤ 15 by omega)).2
    unfold TP
    show XP X _ k_H_together 0 [.ref (0), .int (nI (pn)), .int (nI (yn)), .int (nI (upn)), xj, xj] [] _ _
    refine XP_n 4 (pc' := 4) (ls' := [.ref (0), .int (nI (pn)), .int (nI (yn)), .int (nI (upn)), xj, xj]) (st' := [.int (nI (upn)), .int (nI (yn)), .int (nI (pn)), .ref (0)]) (M' := (I, J, Rx R, N, G)) rfl ?_
    refine XP_pure rfl rfl (c_rzT hI ⟨g0, g1, g2⟩) ?_
    refine XP_ifN (x := 1)  rfl (by omega) (fun (b5 : ¬ 1 = 0) => ?_) (fun (b5 : 1 = 0) => absurd b5 (by omega))
    refine XP_n 5 (pc' := 13) (ls' := [.ref (0), .int (nI (pn)), .int (nI (yn)), .int (nI (upn)), xj, xj]) (st' := [.int (nI (upn)), .int (nI (yn)), .int (nI (pn)), .ref (80)]) (M' := (I, J, Rx R, N, G)) rfl ?_
    refine XP_call rfl rfl (c_look hI (show pn < cP s by omega) (show yn < cY s by omega) (up := upn)) ?_
    rintro v31 M31 ⟨rfl, I31, rfl, hI31, h5_31, h6_31, h7_31⟩
    refine XP_n 4 (pc' := 18) (ls' := [.ref (0), .int (nI (pn)), .int (nI (yn)), .int (nI (upn)), .int (nI (0)), .int (nI (1))]) (st' := []) (M' := (I31, J, Rx R, N, G)) rfl ?_
    exact l_H_tog (d := d + 4) hW hp hup hy hlv (2 ^ cT s - 1) 0 _ (by omega) hI31 h5_31 h6_31 h7_31
  · have hy := hyn
    have hp := hpn
    have hup := hupn
    have hlv := (nLv_ok hW hpn (show yn ≤ 15 by omega)).2
    unfold TP
    show XP X _ k_M_together 0 [.ref (99), .int (nI (pn)), .int (nI (yn)), .int (nI (upn)), xj, xj, xj, xj, xj, xj, xj] [] _ _
    refine XP_n 4 (pc' := 4) (ls' := [.ref (99), .int (nI (pn)), .int (nI (yn)), .int (nI (upn)), xj, xj, xj, xj, xj, xj, xj]) (st' := [.int (nI (upn)), .int (nI (yn)), .int (nI (pn)), .ref (99)]) (M' := (I, J, Rx R, N, G)) rfl ?_
    refine XP_pure rfl rfl (m_rzT hI ⟨g0, g1, g2⟩) ?_
    refine XP_ifN (x := 1)  rfl (by omega) (fun (b5 : ¬ 1 = 0) => ?_) (fun (b5 : 1 = 0) => absurd b5 (by omega))
    refine XP_n 6 (pc' := 14) (ls' := [.ref (99), .int (nI (pn)), .int (nI (yn)), .int (nI (upn)), .int (nI (0)), .long (lN (0)), xj, .int (nI (0)), xj, xj, xj]) (st' := []) (M' := (I, J, Rx R, N, G)) rfl ?_
    refine XP_n 3 (pc' := 17) (ls' := [.ref (99), .int (nI (pn)), .int (nI (yn)), .int (nI (upn)), .int (nI (0)), .long (lN (0)), xj, .int (nI (0)), xj, xj, xj]) (st' := [.ref (99), .int (nI (1)), .int (nI (0))]) (M' := (I, J, Rx R, N, G)) rfl ?_
    refine XP_geti hI.1 rfl rfl rfl ?_
    rw [hW.t.1]
    refine XP_n 1 (pc' := 19) (ls' := [.ref (99), .int (nI (pn)), .int (nI (yn)), .int (nI (upn)), .int (nI (0)), .long (lN (0)), xj, .int (nI (0)), xj, xj, xj]) (st' := [.int ((nI (1)) <<< ((nI (cT s)) &&& 31)), .int (nI (0))]) (M' := (I, J, Rx R, N, G)) rfl ?_
    rw [show (nI (1)) <<< ((nI (cT s)) &&& 31) = nI (2 ^ (cT s)) from b_pw (show cT s < 8 by omega)]
    refine XP_icN (x := 0) (y := 2 ^ (cT s)) rfl (by omega) (by omega) (fun (b19 : 2 ^ (cT s) ≤ 0) => absurd b19 (by omega)) (fun (b19 : 0 < 2 ^ (cT s)) => ?_)
    refine XP_n 4 (pc' := 24) (ls' := [.ref (99), .int (nI (pn)), .int (nI (yn)), .int (nI (upn)), .int (nI (0)), .long (lN (0)), xj, .int (nI (0)), .long (lN (0)), xj, .int (nI (0))]) (st' := []) (M' := (I, J, Rx R, N, G)) rfl ?_
    have htl := tAll_le hW pn yn upn 0
    refine l_M_tog1 (d := d + 6) hW hp hup hy hlv (m := 0) (by omega) ?_ (cT s) 0 _ _ (by omega) hI
    intro Ib Jb hIb
    refine XP_n 1 (pc' := 41) (ls' := [.ref (99), .int (nI (pn)), .int (nI (yn)), .int (nI (upn)), .int (nI (0)), .long (lN (0)), xj, .int (nI (0)), .long (lN (tAll s pn yn upn 0)), xj, .int (nI (cT s))]) (st' := [.int (nI (0))]) (M' := (Ib, Jb, Rx R, N, G)) rfl ?_
    refine XP_ifN (x := 0)  rfl (by omega) (fun (b41 : 0 = 0) => ?_) (fun (b41 : ¬ 0 = 0) => absurd b41 (by omega))
    refine XP_n 5 (pc' := 51) (ls' := [.ref (99), .int (nI (pn)), .int (nI (yn)), .int (nI (upn)), .int (nI (0)), .long (lN (tAll s pn yn upn 0)), xj, .int (nI (0) + nI (1)), .long (lN (tAll s pn yn upn 0)), xj, .int (nI (cT s))]) (st' := []) (M' := (Ib, Jb, Rx R, N, G)) rfl ?_
    rw [show nI (0) + nI (1) = nI (0 + 1) from nI_addE (rfl) rfl]
    refine XP_n 1 (pc' := 14) (ls' := [.ref (99), .int (nI (pn)), .int (nI (yn)), .int (nI (upn)), .int (nI (0)), .long (lN (tAll s pn yn upn 0)), xj, .int (nI (0 + 1)), .long (lN (tAll s pn yn upn 0)), xj, .int (nI (cT s))]) (st' := []) (M' := (Ib, Jb, Rx R, N, G)) rfl ?_
    exact l_M_tog (d := d + 6) hW hp hup hy hlv (2 ^ cT s - 1) 0 _ _ _ _ _ (by omega) hIb
end
