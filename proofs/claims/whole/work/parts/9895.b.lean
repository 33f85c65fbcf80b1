/-! the model's tokens: a step, whole -/
theorem tw_9 : ∀ k, k < 9 → 1000 ≤ tw k ∧ tw k ≤ 1008 := by decide
section
variable {X : hX} {d : Nat} {s I : Nat → Nat → Int32} {J : Nat → Nat → Int64} {R : Nat → Nat → Option Nat} {N : Nat → Nat} {G : hG} {b : Nat → Nat} {L : Nat}
theorem c_let2 (hT : TpM I b L) (hL : L ≤ 160) (hb : ∀ i, i < L → b i ≤ 255) {q : Nat} (hq : q ≤ L) (h44 : I 99 44 = nI q) : TP X (d + 1) n_M_letters [.ref 99] (I, J, Rx R, N, G) (fun v M' => v = some (.long (lw b q (scn isLt b L q - q))) ∧ M' = (rw2 I 99 44 (nI (scn isLt b L q)), J, Rx R, N, G)) := by
  have h := c_let (X := X) (d := d) (J := J) (R := R) (N := N) (G := G) hT hL hb hq
  rw [← h44, rw2_self] at h
  exact h
theorem l_dgs2 (hT : TpM I b L) (hL : L ≤ 160) (hb : ∀ i, i < L → b i ≤ 255) {q : Nat} (hq : q ≤ L) (h44 : I 99 44 = nI q) (h47 : I 99 47 = nI 0) (c : Int32) (w3 w4 : Value) {Q : Option Value → hM → Prop} (kk : XP X (d + 1) k_M_next 151 [.ref 99, .int c, .int (nI (scn isDg b L q - q)), w3, w4] [] (rw2 (rw2 I 99 44 (nI (scn isDg b L q))) 99 47 (mvI b q (scn isDg b L q - q)), J, Rx R, N, G) Q) : XP X (d + 1) k_M_next 110 [.ref 99, .int c, .int (nI 0), w3, w4] [] (I, J, Rx R, N, G) Q := by
  have h := l_dgs (X := X) (d := d) (J := J) (R := R) (N := N) (G := G) hT hL hb (q := q) c w3 w4 kk _ q rfl (Nat.le_refl _) hq rfl
  rw [Nat.sub_self, ← h44, rw2_self, show mvI b q 0 = I 99 47 from h47.symm, rw2_self] at h
  exact h
theorem l_M_next26 (hT : TpM I b L) (hL : L ≤ 160) (hb : ∀ i, i < L → b i ≤ 255) (hD : WD J) {p : Nat} (hp : p ≤ L) (h44 : I 99 44 = nI (pl b L p)) : XP X (d + 2) k_M_next 26 [.ref 99, xj, xj, xj, xj] [] (I, J, Rx R, N, G) (fun v M' => v = none ∧ ∃ I', M' = (I', J, Rx R, N, G) ∧ CurM b L I' p ∧ (∀ k, k ≠ 99 → I' k = I k) ∧ ∀ j, j < 44 ∨ 47 < j → I' 99 j = I 99 j) := by
  have h1 := pl_L (b := b) hp
  by_cases g0 : L ≤ pl b L p
  · have et : tk b L p = 2001 := (tk_end p).mpr g0
    have en : nx b L p = pl b L p := if_pos g0
    have emT : mT 2001 = nI 0 := rfl
    refine XP_n 3 (pc' := 29) (ls' := [.ref (99), xj, xj, xj, xj]) (st' := [.int (I 99 44), .ref (99)]) (M' := (I, J, Rx R, N, G)) rfl ?_
    rw [h44]
    refine XP_n 9 (pc' := 38) (ls' := [.ref (99), xj, xj, xj, xj]) (st' := [.int (I 99 44)]) (M' := ((rw2 (rw2 (rw2 I 99 45 (nI (pl b L p))) 99 46 (nI (0))) 99 47 (nI (0))), J, Rx R, N, G)) rfl ?_
    rw [h44]
    refine XP_n 2 (pc' := 40) (ls' := [.ref (99), xj, xj, xj, xj]) (st' := [.int (I 99 27), .int (nI (pl b L p))]) (M' := ((rw2 (rw2 (rw2 I 99 45 (nI (pl b L p))) 99 46 (nI (0))) 99 47 (nI (0))), J, Rx R, N, G)) rfl ?_
    rw [hT.1]
    refine XP_icN (x := pl b L p) (y := L) rfl (by omega) (by omega) (fun (b40 : ¬ pl b L p = L) => absurd b40 (by omega)) (fun (b40 : pl b L p = L) => ?_)
    exact XP_ret rfl ⟨rfl, _, rfl, ⟨⟨hT.1, hT.2⟩, by rw [en]; exact h44, by first | rfl | exact h44, by rw [et]; rfl, fun z => by omega, fun k hk z => by have := tw_9 k hk; omega⟩, fun k hk => by simp only [rw2_ro hk], fun j hj => by simp only [rw2_c]; repeat rw [if_neg (by omega)]⟩
  have h2 := hb (pl b L p) (by omega)
  have h3 := scn_L (P := isLt) (b := b) h1
  have h4 := scn_L (P := isDg) (b := b) h1
  have h5 := scn_le (P := isLt) (b := b) (L := L) (pl b L p)
  have h6 := scn_le (P := isDg) (b := b) (L := L) (pl b L p)
  by_cases g1 : isLt (b (pl b L p)) = true
  · have gi := (iv_lt h2).mpr g1
    have en : nx b L p = scn isLt b L (pl b L p) := by
      unfold nx
      rw [if_neg g0, if_pos g1]
    have et : tk b L p = tw (wk b (pl b L p) (scn isLt b L (pl b L p))) := by
      unfold tk
      rw [if_neg g0, if_pos g1, en]
    have hw12 : wk b (pl b L p) (scn isLt b L (pl b L p)) ≤ 12 := (fW_ok (b := b) (q := pl b L p) (e := scn isLt b L (pl b L p)) 12 0 rfl).2.2.1
    have hb2 : ∀ j, pl b L p ≤ j → j < scn isLt b L (pl b L p) → 97 ≤ b j ∧ b j ≤ 122 := fun j q1 q2 => by
      have t := (scn_ok (P := isLt) (b := b) (L := L) _ (pl b L p) rfl).2.2.1 j q1 q2
      unfold isLt at t
      rw [Bool.and_eq_true] at t
      exact ⟨Nat.le_of_ble_eq_true t.1, Nat.le_of_ble_eq_true t.2⟩
    refine XP_n 3 (pc' := 29) (ls' := [.ref (99), xj, xj, xj, xj]) (st' := [.int (I 99 44), .ref (99)]) (M' := (I, J, Rx R, N, G)) rfl ?_
    rw [h44]
    refine XP_n 9 (pc' := 38) (ls' := [.ref (99), xj, xj, xj, xj]) (st' := [.int (I 99 44)]) (M' := ((rw2 (rw2 (rw2 I 99 45 (nI (pl b L p))) 99 46 (nI (0))) 99 47 (nI (0))), J, Rx R, N, G)) rfl ?_
    rw [h44]
    refine XP_n 2 (pc' := 40) (ls' := [.ref (99), xj, xj, xj, xj]) (st' := [.int (I 99 27), .int (nI (pl b L p))]) (M' := ((rw2 (rw2 (rw2 I 99 45 (nI (pl b L p))) 99 46 (nI (0))) 99 47 (nI (0))), J, Rx R, N, G)) rfl ?_
    rw [hT.1]
    refine XP_icN (x := pl b L p) (y := L) rfl (by omega) (by omega) (fun (b40 : ¬ pl b L p = L) => ?_) (fun (b40 : pl b L p = L) => absurd b40 (by omega))
    refine XP_n 4 (pc' := 46) (ls' := [.ref (99), xj, xj, xj, xj]) (st' := [.int (I 99 44), .ref (116)]) (M' := ((rw2 (rw2 (rw2 I 99 45 (nI (pl b L p))) 99 46 (nI (0))) 99 47 (nI (0))), J, Rx R, N, G)) rfl ?_
    rw [h44]
    refine XP_iraw rfl rfl (show pl b L p < 160 by omega) rfl (by omega) ?_
    rw [show (rw2 (rw2 (rw2 I 99 45 (nI (pl b L p))) 99 46 (nI (0))) 99 47 (nI (0))) 116 (pl b L p) = nI (b (pl b L p)) from hT.2 (pl b L p) (by omega)]
    refine XP_n 4 (pc' := 51) (ls' := [.ref (99), .int (nI (b (pl b L p))), xj, xj, xj]) (st' := [.int (nI (122)), .int (nI (97)), .int (nI (b (pl b L p)))]) (M' := ((rw2 (rw2 (rw2 I 99 45 (nI (pl b L p))) 99 46 (nI (0))) 99 47 (nI (0))), J, Rx R, N, G)) rfl ?_
    refine XP_pure rfl rfl (w_M X _ _ 97 122 _) ?_
    refine XP_s rfl ?_
    refine XP_beq (fun b52 => absurd gi b52) (fun b52 => ?_)
    refine XP_n 1 (pc' := 54) (ls' := [.ref (99), .int (nI (b (pl b L p))), xj, xj, xj]) (st' := [.ref (99)]) (M' := ((rw2 (rw2 (rw2 I 99 45 (nI (pl b L p))) 99 46 (nI (0))) 99 47 (nI (0))), J, Rx R, N, G)) rfl ?_
    refine XP_call rfl rfl (c_let2 (I := (rw2 (rw2 (rw2 I 99 45 (nI (pl b L p))) 99 46 (nI (0))) 99 47 (nI (0)))) ⟨hT.1, hT.2⟩ hL hb h1 h44) ?_
    rintro v1 M1 ⟨rfl, rfl⟩
    refine XP_n 3 (pc' := 58) (ls' := [.ref (99), .int (nI (b (pl b L p))), .long (lw b (pl b L p) (scn isLt b L (pl b L p) - pl b L p)), xj, .int (nI (0))]) (st' := []) (M' := ((rw2 (rw2 (rw2 (rw2 I 99 45 (nI (pl b L p))) 99 46 (nI (0))) 99 47 (nI (0))) 99 44 (nI (scn isLt b L (pl b L p)))), J, Rx R, N, G)) rfl ?_
    refine l_srch (I1 := (rw2 (rw2 (rw2 (rw2 I 99 45 (nI (pl b L p))) 99 46 (nI (0))) 99 47 (nI (0))) 99 44 (nI (scn isLt b L (pl b L p))))) hD hb2 _ ?_ _ 0 (Nat.zero_add _)
    refine XP_n 3 (pc' := 73) (ls' := [.ref (99), .int (nI (b (pl b L p))), .long (lw b (pl b L p) (scn isLt b L (pl b L p) - pl b L p)), xj, .int (nI (wk b (pl b L p) (scn isLt b L (pl b L p))))]) (st' := [.int (nI (3)), .int (nI (wk b (pl b L p) (scn isLt b L (pl b L p)))), .ref (99)]) (M' := ((rw2 (rw2 (rw2 (rw2 I 99 45 (nI (pl b L p))) 99 46 (nI (0))) 99 47 (nI (0))) 99 44 (nI (scn isLt b L (pl b L p)))), J, Rx R, N, G)) rfl ?_
    refine XP_icN (x := wk b (pl b L p) (scn isLt b L (pl b L p))) (y := 3) rfl (by omega) (by omega) (fun (b73 : 3 ≤ wk b (pl b L p) (scn isLt b L (pl b L p))) => ?_) (fun (b73 : wk b (pl b L p) (scn isLt b L (pl b L p)) < 3) => ?_)
    · refine XP_n 2 (pc' := 78) (ls' := [.ref (99), .int (nI (b (pl b L p))), .long (lw b (pl b L p) (scn isLt b L (pl b L p) - pl b L p)), xj, .int (nI (wk b (pl b L p) (scn isLt b L (pl b L p))))]) (st' := [.int (nI (9)), .int (nI (wk b (pl b L p) (scn isLt b L (pl b L p)))), .ref (99)]) (M' := ((rw2 (rw2 (rw2 (rw2 I 99 45 (nI (pl b L p))) 99 46 (nI (0))) 99 47 (nI (0))) 99 44 (nI (scn isLt b L (pl b L p)))), J, Rx R, N, G)) rfl ?_
      refine XP_icN (x := wk b (pl b L p) (scn isLt b L (pl b L p))) (y := 9) rfl (by omega) (by omega) (fun (b78 : 9 ≤ wk b (pl b L p) (scn isLt b L (pl b L p))) => ?_) (fun (b78 : wk b (pl b L p) (scn isLt b L (pl b L p)) < 9) => ?_)
      · refine XP_n 2 (pc' := 83) (ls' := [.ref (99), .int (nI (b (pl b L p))), .long (lw b (pl b L p) (scn isLt b L (pl b L p) - pl b L p)), xj, .int (nI (wk b (pl b L p) (scn isLt b L (pl b L p))))]) (st' := [.int (nI (12)), .int (nI (wk b (pl b L p) (scn isLt b L (pl b L p)))), .ref (99)]) (M' := ((rw2 (rw2 (rw2 (rw2 I 99 45 (nI (pl b L p))) 99 46 (nI (0))) 99 47 (nI (0))) 99 44 (nI (scn isLt b L (pl b L p)))), J, Rx R, N, G)) rfl ?_
        refine XP_icN (x := wk b (pl b L p) (scn isLt b L (pl b L p))) (y := 12) rfl (by omega) (by omega) (fun (b83 : ¬ wk b (pl b L p) (scn isLt b L (pl b L p)) = 12) => ?_) (fun (b83 : wk b (pl b L p) (scn isLt b L (pl b L p)) = 12) => ?_)
        · refine XP_n 5 (pc' := 91) (ls' := [.ref (99), .int (nI (b (pl b L p))), .long (lw b (pl b L p) (scn isLt b L (pl b L p) - pl b L p)), xj, .int (nI (wk b (pl b L p) (scn isLt b L (pl b L p))))]) (st' := [.int (((nI (4)) + (nI (wk b (pl b L p) (scn isLt b L (pl b L p))))) - (nI (9))), .ref (99)]) (M' := ((rw2 (rw2 (rw2 (rw2 I 99 45 (nI (pl b L p))) 99 46 (nI (0))) 99 47 (nI (0))) 99 44 (nI (scn isLt b L (pl b L p)))), J, Rx R, N, G)) rfl ?_
          rw [show ((nI (4)) + (nI (wk b (pl b L p) (scn isLt b L (pl b L p))))) - (nI (9)) = nI (4 + (wk b (pl b L p) (scn isLt b L (pl b L p))) - 9) from nI_subE (nI_addE (rfl) (rfl)) (rfl) (by omega)]
          refine XP_n 4 (pc' := 95) (ls' := [.ref (99), .int (nI (b (pl b L p))), .long (lw b (pl b L p) (scn isLt b L (pl b L p) - pl b L p)), xj, .int (nI (wk b (pl b L p) (scn isLt b L (pl b L p))))]) (st' := [.int (nI (3)), .int (nI (wk b (pl b L p) (scn isLt b L (pl b L p)))), .ref (99)]) (M' := ((rw2 (rw2 (rw2 (rw2 (rw2 I 99 45 (nI (pl b L p))) 99 46 (nI (0))) 99 47 (nI (0))) 99 44 (nI (scn isLt b L (pl b L p)))) 99 46 (nI (4 + (wk b (pl b L p) (scn isLt b L (pl b L p))) - 9))), J, Rx R, N, G)) rfl ?_
          refine XP_icN (x := wk b (pl b L p) (scn isLt b L (pl b L p))) (y := 3) rfl (by omega) (by omega) (fun (b95 : 3 ≤ wk b (pl b L p) (scn isLt b L (pl b L p))) => ?_) (fun (b95 : wk b (pl b L p) (scn isLt b L (pl b L p)) < 3) => ?_)
          · refine XP_n 3 (pc' := 101) (ls' := [.ref (99), .int (nI (b (pl b L p))), .long (lw b (pl b L p) (scn isLt b L (pl b L p) - pl b L p)), xj, .int (nI (wk b (pl b L p) (scn isLt b L (pl b L p))))]) (st' := [.int ((nI (wk b (pl b L p) (scn isLt b L (pl b L p)))) - (nI (3))), .ref (99)]) (M' := ((rw2 (rw2 (rw2 (rw2 (rw2 I 99 45 (nI (pl b L p))) 99 46 (nI (0))) 99 47 (nI (0))) 99 44 (nI (scn isLt b L (pl b L p)))) 99 46 (nI (4 + (wk b (pl b L p) (scn isLt b L (pl b L p))) - 9))), J, Rx R, N, G)) rfl ?_
            rw [show (nI (wk b (pl b L p) (scn isLt b L (pl b L p)))) - (nI (3)) = nI (wk b (pl b L p) (scn isLt b L (pl b L p)) - 3) from nI_subE (rfl) (rfl) (by omega)]
            refine XP_n 2 (pc' := 201) (ls' := [.ref (99), .int (nI (b (pl b L p))), .long (lw b (pl b L p) (scn isLt b L (pl b L p) - pl b L p)), xj, .int (nI (wk b (pl b L p) (scn isLt b L (pl b L p))))]) (st' := []) (M' := ((rw2 (rw2 (rw2 (rw2 (rw2 (rw2 I 99 45 (nI (pl b L p))) 99 46 (nI (0))) 99 47 (nI (0))) 99 44 (nI (scn isLt b L (pl b L p)))) 99 46 (nI (4 + (wk b (pl b L p) (scn isLt b L (pl b L p))) - 9))) 99 47 (nI (wk b (pl b L p) (scn isLt b L (pl b L p)) - 3))), J, Rx R, N, G)) rfl ?_
            first | (exfalso; omega) | exact XP_ret rfl ⟨rfl, _, rfl, ⟨⟨hT.1, hT.2⟩, by rw [en]; rfl, by first | rfl | exact h44, by rw [et]; first | exact (mT_w.1 _ (by omega)).symm | exact (mT_w.2.1 _ (by omega) (by omega)).symm | exact (mT_w.2.2.1 _ (by omega) (by omega)).symm | (rw [show wk b (pl b L p) (scn isLt b L (pl b L p)) = 12 by omega]; exact mT_w.2.2.2.symm), fun z => by have := tw_rg _ hw12; omega, fun k hk z => by
                have hk2 := tw_inj k (by omega) _ hw12 (et.symm.trans z)
                rw [← hk2]
                first | (rw [if_pos (by omega)]; rfl) | (rw [if_neg (by omega)]; rfl) | (exfalso; omega)⟩, fun k hk => by simp only [rw2_ro hk], fun j hj => by simp only [rw2_c]; repeat rw [if_neg (by omega)]⟩
          · refine XP_n 4 (pc' := 201) (ls' := [.ref (99), .int (nI (b (pl b L p))), .long (lw b (pl b L p) (scn isLt b L (pl b L p) - pl b L p)), xj, .int (nI (wk b (pl b L p) (scn isLt b L (pl b L p))))]) (st' := []) (M' := ((rw2 (rw2 (rw2 (rw2 (rw2 (rw2 I 99 45 (nI (pl b L p))) 99 46 (nI (0))) 99 47 (nI (0))) 99 44 (nI (scn isLt b L (pl b L p)))) 99 46 (nI (4 + (wk b (pl b L p) (scn isLt b L (pl b L p))) - 9))) 99 47 (nI (wk b (pl b L p) (scn isLt b L (pl b L p))))), J, Rx R, N, G)) rfl ?_
            first | (exfalso; omega) | exact XP_ret rfl ⟨rfl, _, rfl, ⟨⟨hT.1, hT.2⟩, by rw [en]; rfl, by first | rfl | exact h44, by rw [et]; first | exact (mT_w.1 _ (by omega)).symm | exact (mT_w.2.1 _ (by omega) (by omega)).symm | exact (mT_w.2.2.1 _ (by omega) (by omega)).symm | (rw [show wk b (pl b L p) (scn isLt b L (pl b L p)) = 12 by omega]; exact mT_w.2.2.2.symm), fun z => by have := tw_rg _ hw12; omega, fun k hk z => by
                have hk2 := tw_inj k (by omega) _ hw12 (et.symm.trans z)
                rw [← hk2]
                first | (rw [if_pos (by omega)]; rfl) | (rw [if_neg (by omega)]; rfl) | (exfalso; omega)⟩, fun k hk => by simp only [rw2_ro hk], fun j hj => by simp only [rw2_c]; repeat rw [if_neg (by omega)]⟩
        · refine XP_n 6 (pc' := 95) (ls' := [.ref (99), .int (nI (b (pl b L p))), .long (lw b (pl b L p) (scn isLt b L (pl b L p) - pl b L p)), xj, .int (nI (wk b (pl b L p) (scn isLt b L (pl b L p))))]) (st' := [.int (nI (3)), .int (nI (wk b (pl b L p) (scn isLt b L (pl b L p)))), .ref (99)]) (M' := ((rw2 (rw2 (rw2 (rw2 (rw2 I 99 45 (nI (pl b L p))) 99 46 (nI (0))) 99 47 (nI (0))) 99 44 (nI (scn isLt b L (pl b L p)))) 99 46 (cI (-1))), J, Rx R, N, G)) rfl ?_
          refine XP_icN (x := wk b (pl b L p) (scn isLt b L (pl b L p))) (y := 3) rfl (by omega) (by omega) (fun (b95 : 3 ≤ wk b (pl b L p) (scn isLt b L (pl b L p))) => ?_) (fun (b95 : wk b (pl b L p) (scn isLt b L (pl b L p)) < 3) => ?_)
          · refine XP_n 3 (pc' := 101) (ls' := [.ref (99), .int (nI (b (pl b L p))), .long (lw b (pl b L p) (scn isLt b L (pl b L p) - pl b L p)), xj, .int (nI (wk b (pl b L p) (scn isLt b L (pl b L p))))]) (st' := [.int ((nI (wk b (pl b L p) (scn isLt b L (pl b L p)))) - (nI (3))), .ref (99)]) (M' := ((rw2 (rw2 (rw2 (rw2 (rw2 I 99 45 (nI (pl b L p))) 99 46 (nI (0))) 99 47 (nI (0))) 99 44 (nI (scn isLt b L (pl b L p)))) 99 46 (cI (-1))), J, Rx R, N, G)) rfl ?_
            rw [show (nI (wk b (pl b L p) (scn isLt b L (pl b L p)))) - (nI (3)) = nI (wk b (pl b L p) (scn isLt b L (pl b L p)) - 3) from nI_subE (rfl) (rfl) (by omega)]
            refine XP_n 2 (pc' := 201) (ls' := [.ref (99), .int (nI (b (pl b L p))), .long (lw b (pl b L p) (scn isLt b L (pl b L p) - pl b L p)), xj, .int (nI (wk b (pl b L p) (scn isLt b L (pl b L p))))]) (st' := []) (M' := ((rw2 (rw2 (rw2 (rw2 (rw2 (rw2 I 99 45 (nI (pl b L p))) 99 46 (nI (0))) 99 47 (nI (0))) 99 44 (nI (scn isLt b L (pl b L p)))) 99 46 (cI (-1))) 99 47 (nI (wk b (pl b L p) (scn isLt b L (pl b L p)) - 3))), J, Rx R, N, G)) rfl ?_
            first | (exfalso; omega) | exact XP_ret rfl ⟨rfl, _, rfl, ⟨⟨hT.1, hT.2⟩, by rw [en]; rfl, by first | rfl | exact h44, by rw [et]; first | exact (mT_w.1 _ (by omega)).symm | exact (mT_w.2.1 _ (by omega) (by omega)).symm | exact (mT_w.2.2.1 _ (by omega) (by omega)).symm | (rw [show wk b (pl b L p) (scn isLt b L (pl b L p)) = 12 by omega]; exact mT_w.2.2.2.symm), fun z => by have := tw_rg _ hw12; omega, fun k hk z => by
                have hk2 := tw_inj k (by omega) _ hw12 (et.symm.trans z)
                rw [← hk2]
                first | (rw [if_pos (by omega)]; rfl) | (rw [if_neg (by omega)]; rfl) | (exfalso; omega)⟩, fun k hk => by simp only [rw2_ro hk], fun j hj => by simp only [rw2_c]; repeat rw [if_neg (by omega)]⟩
          · refine XP_n 4 (pc' := 201) (ls' := [.ref (99), .int (nI (b (pl b L p))), .long (lw b (pl b L p) (scn isLt b L (pl b L p) - pl b L p)), xj, .int (nI (wk b (pl b L p) (scn isLt b L (pl b L p))))]) (st' := []) (M' := ((rw2 (rw2 (rw2 (rw2 (rw2 (rw2 I 99 45 (nI (pl b L p))) 99 46 (nI (0))) 99 47 (nI (0))) 99 44 (nI (scn isLt b L (pl b L p)))) 99 46 (cI (-1))) 99 47 (nI (wk b (pl b L p) (scn isLt b L (pl b L p))))), J, Rx R, N, G)) rfl ?_
            first | (exfalso; omega) | exact XP_ret rfl ⟨rfl, _, rfl, ⟨⟨hT.1, hT.2⟩, by rw [en]; rfl, by first | rfl | exact h44, by rw [et]; first | exact (mT_w.1 _ (by omega)).symm | exact (mT_w.2.1 _ (by omega) (by omega)).symm | exact (mT_w.2.2.1 _ (by omega) (by omega)).symm | (rw [show wk b (pl b L p) (scn isLt b L (pl b L p)) = 12 by omega]; exact mT_w.2.2.2.symm), fun z => by have := tw_rg _ hw12; omega, fun k hk z => by
                have hk2 := tw_inj k (by omega) _ hw12 (et.symm.trans z)
                rw [← hk2]
                first | (rw [if_pos (by omega)]; rfl) | (rw [if_neg (by omega)]; rfl) | (exfalso; omega)⟩, fun k hk => by simp only [rw2_ro hk], fun j hj => by simp only [rw2_c]; repeat rw [if_neg (by omega)]⟩
      · refine XP_n 6 (pc' := 95) (ls' := [.ref (99), .int (nI (b (pl b L p))), .long (lw b (pl b L p) (scn isLt b L (pl b L p) - pl b L p)), xj, .int (nI (wk b (pl b L p) (scn isLt b L (pl b L p))))]) (st' := [.int (nI (3)), .int (nI (wk b (pl b L p) (scn isLt b L (pl b L p)))), .ref (99)]) (M' := ((rw2 (rw2 (rw2 (rw2 (rw2 I 99 45 (nI (pl b L p))) 99 46 (nI (0))) 99 47 (nI (0))) 99 44 (nI (scn isLt b L (pl b L p)))) 99 46 (nI (2))), J, Rx R, N, G)) rfl ?_
        refine XP_icN (x := wk b (pl b L p) (scn isLt b L (pl b L p))) (y := 3) rfl (by omega) (by omega) (fun (b95 : 3 ≤ wk b (pl b L p) (scn isLt b L (pl b L p))) => ?_) (fun (b95 : wk b (pl b L p) (scn isLt b L (pl b L p)) < 3) => ?_)
        · refine XP_n 3 (pc' := 101) (ls' := [.ref (99), .int (nI (b (pl b L p))), .long (lw b (pl b L p) (scn isLt b L (pl b L p) - pl b L p)), xj, .int (nI (wk b (pl b L p) (scn isLt b L (pl b L p))))]) (st' := [.int ((nI (wk b (pl b L p) (scn isLt b L (pl b L p)))) - (nI (3))), .ref (99)]) (M' := ((rw2 (rw2 (rw2 (rw2 (rw2 I 99 45 (nI (pl b L p))) 99 46 (nI (0))) 99 47 (nI (0))) 99 44 (nI (scn isLt b L (pl b L p)))) 99 46 (nI (2))), J, Rx R, N, G)) rfl ?_
          rw [show (nI (wk b (pl b L p) (scn isLt b L (pl b L p)))) - (nI (3)) = nI (wk b (pl b L p) (scn isLt b L (pl b L p)) - 3) from nI_subE (rfl) (rfl) (by omega)]
          refine XP_n 2 (pc' := 201) (ls' := [.ref (99), .int (nI (b (pl b L p))), .long (lw b (pl b L p) (scn isLt b L (pl b L p) - pl b L p)), xj, .int (nI (wk b (pl b L p) (scn isLt b L (pl b L p))))]) (st' := []) (M' := ((rw2 (rw2 (rw2 (rw2 (rw2 (rw2 I 99 45 (nI (pl b L p))) 99 46 (nI (0))) 99 47 (nI (0))) 99 44 (nI (scn isLt b L (pl b L p)))) 99 46 (nI (2))) 99 47 (nI (wk b (pl b L p) (scn isLt b L (pl b L p)) - 3))), J, Rx R, N, G)) rfl ?_
          first | (exfalso; omega) | exact XP_ret rfl ⟨rfl, _, rfl, ⟨⟨hT.1, hT.2⟩, by rw [en]; rfl, by first | rfl | exact h44, by rw [et]; first | exact (mT_w.1 _ (by omega)).symm | exact (mT_w.2.1 _ (by omega) (by omega)).symm | exact (mT_w.2.2.1 _ (by omega) (by omega)).symm | (rw [show wk b (pl b L p) (scn isLt b L (pl b L p)) = 12 by omega]; exact mT_w.2.2.2.symm), fun z => by have := tw_rg _ hw12; omega, fun k hk z => by
              have hk2 := tw_inj k (by omega) _ hw12 (et.symm.trans z)
              rw [← hk2]
              first | (rw [if_pos (by omega)]; rfl) | (rw [if_neg (by omega)]; rfl) | (exfalso; omega)⟩, fun k hk => by simp only [rw2_ro hk], fun j hj => by simp only [rw2_c]; repeat rw [if_neg (by omega)]⟩
        · refine XP_n 4 (pc' := 201) (ls' := [.ref (99), .int (nI (b (pl b L p))), .long (lw b (pl b L p) (scn isLt b L (pl b L p) - pl b L p)), xj, .int (nI (wk b (pl b L p) (scn isLt b L (pl b L p))))]) (st' := []) (M' := ((rw2 (rw2 (rw2 (rw2 (rw2 (rw2 I 99 45 (nI (pl b L p))) 99 46 (nI (0))) 99 47 (nI (0))) 99 44 (nI (scn isLt b L (pl b L p)))) 99 46 (nI (2))) 99 47 (nI (wk b (pl b L p) (scn isLt b L (pl b L p))))), J, Rx R, N, G)) rfl ?_
          first | (exfalso; omega) | exact XP_ret rfl ⟨rfl, _, rfl, ⟨⟨hT.1, hT.2⟩, by rw [en]; rfl, by first | rfl | exact h44, by rw [et]; first | exact (mT_w.1 _ (by omega)).symm | exact (mT_w.2.1 _ (by omega) (by omega)).symm | exact (mT_w.2.2.1 _ (by omega) (by omega)).symm | (rw [show wk b (pl b L p) (scn isLt b L (pl b L p)) = 12 by omega]; exact mT_w.2.2.2.symm), fun z => by have := tw_rg _ hw12; omega, fun k hk z => by
              have hk2 := tw_inj k (by omega) _ hw12 (et.symm.trans z)
              rw [← hk2]
              first | (rw [if_pos (by omega)]; rfl) | (rw [if_neg (by omega)]; rfl) | (exfalso; omega)⟩, fun k hk => by simp only [rw2_ro hk], fun j hj => by simp only [rw2_c]; repeat rw [if_neg (by omega)]⟩
    · refine XP_n 6 (pc' := 95) (ls' := [.ref (99), .int (nI (b (pl b L p))), .long (lw b (pl b L p) (scn isLt b L (pl b L p) - pl b L p)), xj, .int (nI (wk b (pl b L p) (scn isLt b L (pl b L p))))]) (st' := [.int (nI (3)), .int (nI (wk b (pl b L p) (scn isLt b L (pl b L p)))), .ref (99)]) (M' := ((rw2 (rw2 (rw2 (rw2 (rw2 I 99 45 (nI (pl b L p))) 99 46 (nI (0))) 99 47 (nI (0))) 99 44 (nI (scn isLt b L (pl b L p)))) 99 46 (nI (3))), J, Rx R, N, G)) rfl ?_
      refine XP_icN (x := wk b (pl b L p) (scn isLt b L (pl b L p))) (y := 3) rfl (by omega) (by omega) (fun (b95 : 3 ≤ wk b (pl b L p) (scn isLt b L (pl b L p))) => ?_) (fun (b95 : wk b (pl b L p) (scn isLt b L (pl b L p)) < 3) => ?_)
      · refine XP_n 3 (pc' := 101) (ls' := [.ref (99), .int (nI (b (pl b L p))), .long (lw b (pl b L p) (scn isLt b L (pl b L p) - pl b L p)), xj, .int (nI (wk b (pl b L p) (scn isLt b L (pl b L p))))]) (st' := [.int ((nI (wk b (pl b L p) (scn isLt b L (pl b L p)))) - (nI (3))), .ref (99)]) (M' := ((rw2 (rw2 (rw2 (rw2 (rw2 I 99 45 (nI (pl b L p))) 99 46 (nI (0))) 99 47 (nI (0))) 99 44 (nI (scn isLt b L (pl b L p)))) 99 46 (nI (3))), J, Rx R, N, G)) rfl ?_
        rw [show (nI (wk b (pl b L p) (scn isLt b L (pl b L p)))) - (nI (3)) = nI (wk b (pl b L p) (scn isLt b L (pl b L p)) - 3) from nI_subE (rfl) (rfl) (by omega)]
        refine XP_n 2 (pc' := 201) (ls' := [.ref (99), .int (nI (b (pl b L p))), .long (lw b (pl b L p) (scn isLt b L (pl b L p) - pl b L p)), xj, .int (nI (wk b (pl b L p) (scn isLt b L (pl b L p))))]) (st' := []) (M' := ((rw2 (rw2 (rw2 (rw2 (rw2 (rw2 I 99 45 (nI (pl b L p))) 99 46 (nI (0))) 99 47 (nI (0))) 99 44 (nI (scn isLt b L (pl b L p)))) 99 46 (nI (3))) 99 47 (nI (wk b (pl b L p) (scn isLt b L (pl b L p)) - 3))), J, Rx R, N, G)) rfl ?_
        first | (exfalso; omega) | exact XP_ret rfl ⟨rfl, _, rfl, ⟨⟨hT.1, hT.2⟩, by rw [en]; rfl, by first | rfl | exact h44, by rw [et]; first | exact (mT_w.1 _ (by omega)).symm | exact (mT_w.2.1 _ (by omega) (by omega)).symm | exact (mT_w.2.2.1 _ (by omega) (by omega)).symm | (rw [show wk b (pl b L p) (scn isLt b L (pl b L p)) = 12 by omega]; exact mT_w.2.2.2.symm), fun z => by have := tw_rg _ hw12; omega, fun k hk z => by
            have hk2 := tw_inj k (by omega) _ hw12 (et.symm.trans z)
            rw [← hk2]
            first | (rw [if_pos (by omega)]; rfl) | (rw [if_neg (by omega)]; rfl) | (exfalso; omega)⟩, fun k hk => by simp only [rw2_ro hk], fun j hj => by simp only [rw2_c]; repeat rw [if_neg (by omega)]⟩
      · refine XP_n 4 (pc' := 201) (ls' := [.ref (99), .int (nI (b (pl b L p))), .long (lw b (pl b L p) (scn isLt b L (pl b L p) - pl b L p)), xj, .int (nI (wk b (pl b L p) (scn isLt b L (pl b L p))))]) (st' := []) (M' := ((rw2 (rw2 (rw2 (rw2 (rw2 (rw2 I 99 45 (nI (pl b L p))) 99 46 (nI (0))) 99 47 (nI (0))) 99 44 (nI (scn isLt b L (pl b L p)))) 99 46 (nI (3))) 99 47 (nI (wk b (pl b L p) (scn isLt b L (pl b L p))))), J, Rx R, N, G)) rfl ?_
        first | (exfalso; omega) | exact XP_ret rfl ⟨rfl, _, rfl, ⟨⟨hT.1, hT.2⟩, by rw [en]; rfl, by first | rfl | exact h44, by rw [et]; first | exact (mT_w.1 _ (by omega)).symm | exact (mT_w.2.1 _ (by omega) (by omega)).symm | exact (mT_w.2.2.1 _ (by omega) (by omega)).symm | (rw [show wk b (pl b L p) (scn isLt b L (pl b L p)) = 12 by omega]; exact mT_w.2.2.2.symm), fun z => by have := tw_rg _ hw12; omega, fun k hk z => by
            have hk2 := tw_inj k (by omega) _ hw12 (et.symm.trans z)
            rw [← hk2]
            first | (rw [if_pos (by omega)]; rfl) | (rw [if_neg (by omega)]; rfl) | (exfalso; omega)⟩, fun k hk => by simp only [rw2_ro hk], fun j hj => by simp only [rw2_c]; repeat rw [if_neg (by omega)]⟩
  have gi : ¬ iv 97 122 (nI (b (pl b L p))) := fun z => g1 ((iv_lt h2).mp z)
  by_cases g2 : isDg (b (pl b L p)) = true
  · have gd := (iv_dg h2).mpr g2
    have en : nx b L p = scn isDg b L (pl b L p) := by
      unfold nx
      rw [if_neg g0, if_neg g1, if_pos g2]
    have hd : ∀ j, j < scn isDg b L (pl b L p) - pl b L p → 48 ≤ b (pl b L p + j) ∧ b (pl b L p + j) ≤ 57 := fun j hj => by
      have t := (scn_ok (P := isDg) (b := b) (L := L) _ (pl b L p) rfl).2.2.1 (pl b L p + j) (by omega) (by omega)
      unfold isDg at t
      rw [Bool.and_eq_true] at t
      exact ⟨Nat.le_of_ble_eq_true t.1, Nat.le_of_ble_eq_true t.2⟩
    by_cases g3 : 4 < scn isDg b L (pl b L p) - pl b L p
    · have et : tk b L p = 2002 := by
        unfold tk
        rw [if_neg g0, if_neg g1, if_pos g2, en, if_pos g3]
      refine XP_n 3 (pc' := 29) (ls' := [.ref (99), xj, xj, xj, xj]) (st' := [.int (I 99 44), .ref (99)]) (M' := (I, J, Rx R, N, G)) rfl ?_
      rw [h44]
      refine XP_n 9 (pc' := 38) (ls' := [.ref (99), xj, xj, xj, xj]) (st' := [.int (I 99 44)]) (M' := ((rw2 (rw2 (rw2 I 99 45 (nI (pl b L p))) 99 46 (nI (0))) 99 47 (nI (0))), J, Rx R, N, G)) rfl ?_
      rw [h44]
      refine XP_n 2 (pc' := 40) (ls' := [.ref (99), xj, xj, xj, xj]) (st' := [.int (I 99 27), .int (nI (pl b L p))]) (M' := ((rw2 (rw2 (rw2 I 99 45 (nI (pl b L p))) 99 46 (nI (0))) 99 47 (nI (0))), J, Rx R, N, G)) rfl ?_
      rw [hT.1]
      refine XP_icN (x := pl b L p) (y := L) rfl (by omega) (by omega) (fun (b40 : ¬ pl b L p = L) => ?_) (fun (b40 : pl b L p = L) => absurd b40 (by omega))
      refine XP_n 4 (pc' := 46) (ls' := [.ref (99), xj, xj, xj, xj]) (st' := [.int (I 99 44), .ref (116)]) (M' := ((rw2 (rw2 (rw2 I 99 45 (nI (pl b L p))) 99 46 (nI (0))) 99 47 (nI (0))), J, Rx R, N, G)) rfl ?_
      rw [h44]
      refine XP_iraw rfl rfl (show pl b L p < 160 by omega) rfl (by omega) ?_
      rw [show (rw2 (rw2 (rw2 I 99 45 (nI (pl b L p))) 99 46 (nI (0))) 99 47 (nI (0))) 116 (pl b L p) = nI (b (pl b L p)) from hT.2 (pl b L p) (by omega)]
      refine XP_n 4 (pc' := 51) (ls' := [.ref (99), .int (nI (b (pl b L p))), xj, xj, xj]) (st' := [.int (nI (122)), .int (nI (97)), .int (nI (b (pl b L p)))]) (M' := ((rw2 (rw2 (rw2 I 99 45 (nI (pl b L p))) 99 46 (nI (0))) 99 47 (nI (0))), J, Rx R, N, G)) rfl ?_
      refine XP_pure rfl rfl (w_M X _ _ 97 122 _) ?_
      refine XP_s rfl ?_
      refine XP_beq (fun b52 => ?_) (fun b52 => absurd b52 gi)
      refine XP_n 3 (pc' := 106) (ls' := [.ref (99), .int (nI (b (pl b L p))), xj, xj, xj]) (st' := [.int (nI (57)), .int (nI (48)), .int (nI (b (pl b L p)))]) (M' := ((rw2 (rw2 (rw2 I 99 45 (nI (pl b L p))) 99 46 (nI (0))) 99 47 (nI (0))), J, Rx R, N, G)) rfl ?_
      refine XP_pure rfl rfl (w_M X _ _ 48 57 _) ?_
      refine XP_s rfl ?_
      refine XP_beq (fun b107 => absurd gd b107) (fun b107 => ?_)
      refine XP_n 2 (pc' := 110) (ls' := [.ref (99), .int (nI (b (pl b L p))), .int (nI (0)), xj, xj]) (st' := []) (M' := ((rw2 (rw2 (rw2 I 99 45 (nI (pl b L p))) 99 46 (nI (0))) 99 47 (nI (0))), J, Rx R, N, G)) rfl ?_
      refine l_dgs2 (I := (rw2 (rw2 (rw2 I 99 45 (nI (pl b L p))) 99 46 (nI (0))) 99 47 (nI (0)))) ⟨hT.1, hT.2⟩ hL hb h1 h44 rfl _ _ _ ?_
      refine XP_n 3 (pc' := 154) (ls' := [.ref (99), .int (nI (b (pl b L p))), .int (nI (scn isDg b L (pl b L p) - pl b L p)), xj, xj]) (st' := [.int (nI (4)), .int (nI (scn isDg b L (pl b L p) - pl b L p)), .ref (99)]) (M' := ((rw2 (rw2 (rw2 (rw2 (rw2 I 99 45 (nI (pl b L p))) 99 46 (nI (0))) 99 47 (nI (0))) 99 44 (nI (scn isDg b L (pl b L p)))) 99 47 (mvI b (pl b L p) (scn isDg b L (pl b L p) - pl b L p))), J, Rx R, N, G)) rfl ?_
      refine XP_icN (x := scn isDg b L (pl b L p) - pl b L p) (y := 4) rfl (by omega) (by omega) (fun (b154 : scn isDg b L (pl b L p) - pl b L p ≤ 4) => absurd b154 (by omega)) (fun (b154 : 4 < scn isDg b L (pl b L p) - pl b L p) => ?_)
      refine XP_n 4 (pc' := 201) (ls' := [.ref (99), .int (nI (b (pl b L p))), .int (nI (scn isDg b L (pl b L p) - pl b L p)), xj, xj]) (st' := []) (M' := ((rw2 (rw2 (rw2 (rw2 (rw2 (rw2 I 99 45 (nI (pl b L p))) 99 46 (nI (0))) 99 47 (nI (0))) 99 44 (nI (scn isDg b L (pl b L p)))) 99 47 (mvI b (pl b L p) (scn isDg b L (pl b L p) - pl b L p))) 99 46 (cI (-1))), J, Rx R, N, G)) rfl ?_
      exact XP_ret rfl ⟨rfl, _, rfl, ⟨⟨hT.1, hT.2⟩, by rw [en]; rfl, by first | rfl | exact h44, by rw [et]; rfl, fun z => by omega, fun k hk z => by have := tw_9 k hk; omega⟩, fun k hk => by simp only [rw2_ro hk], fun j hj => by simp only [rw2_c]; repeat rw [if_neg (by omega)]⟩
    · have et : tk b L p = 2000 := by
        unfold tk
        rw [if_neg g0, if_neg g1, if_pos g2, en, if_neg g3]
      refine XP_n 3 (pc' := 29) (ls' := [.ref (99), xj, xj, xj, xj]) (st' := [.int (I 99 44), .ref (99)]) (M' := (I, J, Rx R, N, G)) rfl ?_
      rw [h44]
      refine XP_n 9 (pc' := 38) (ls' := [.ref (99), xj, xj, xj, xj]) (st' := [.int (I 99 44)]) (M' := ((rw2 (rw2 (rw2 I 99 45 (nI (pl b L p))) 99 46 (nI (0))) 99 47 (nI (0))), J, Rx R, N, G)) rfl ?_
      rw [h44]
      refine XP_n 2 (pc' := 40) (ls' := [.ref (99), xj, xj, xj, xj]) (st' := [.int (I 99 27), .int (nI (pl b L p))]) (M' := ((rw2 (rw2 (rw2 I 99 45 (nI (pl b L p))) 99 46 (nI (0))) 99 47 (nI (0))), J, Rx R, N, G)) rfl ?_
      rw [hT.1]
      refine XP_icN (x := pl b L p) (y := L) rfl (by omega) (by omega) (fun (b40 : ¬ pl b L p = L) => ?_) (fun (b40 : pl b L p = L) => absurd b40 (by omega))
      refine XP_n 4 (pc' := 46) (ls' := [.ref (99), xj, xj, xj, xj]) (st' := [.int (I 99 44), .ref (116)]) (M' := ((rw2 (rw2 (rw2 I 99 45 (nI (pl b L p))) 99 46 (nI (0))) 99 47 (nI (0))), J, Rx R, N, G)) rfl ?_
      rw [h44]
      refine XP_iraw rfl rfl (show pl b L p < 160 by omega) rfl (by omega) ?_
      rw [show (rw2 (rw2 (rw2 I 99 45 (nI (pl b L p))) 99 46 (nI (0))) 99 47 (nI (0))) 116 (pl b L p) = nI (b (pl b L p)) from hT.2 (pl b L p) (by omega)]
      refine XP_n 4 (pc' := 51) (ls' := [.ref (99), .int (nI (b (pl b L p))), xj, xj, xj]) (st' := [.int (nI (122)), .int (nI (97)), .int (nI (b (pl b L p)))]) (M' := ((rw2 (rw2 (rw2 I 99 45 (nI (pl b L p))) 99 46 (nI (0))) 99 47 (nI (0))), J, Rx R, N, G)) rfl ?_
      refine XP_pure rfl rfl (w_M X _ _ 97 122 _) ?_
      refine XP_s rfl ?_
      refine XP_beq (fun b52 => ?_) (fun b52 => absurd b52 gi)
      refine XP_n 3 (pc' := 106) (ls' := [.ref (99), .int (nI (b (pl b L p))), xj, xj, xj]) (st' := [.int (nI (57)), .int (nI (48)), .int (nI (b (pl b L p)))]) (M' := ((rw2 (rw2 (rw2 I 99 45 (nI (pl b L p))) 99 46 (nI (0))) 99 47 (nI (0))), J, Rx R, N, G)) rfl ?_
      refine XP_pure rfl rfl (w_M X _ _ 48 57 _) ?_
      refine XP_s rfl ?_
      refine XP_beq (fun b107 => absurd gd b107) (fun b107 => ?_)
      refine XP_n 2 (pc' := 110) (ls' := [.ref (99), .int (nI (b (pl b L p))), .int (nI (0)), xj, xj]) (st' := []) (M' := ((rw2 (rw2 (rw2 I 99 45 (nI (pl b L p))) 99 46 (nI (0))) 99 47 (nI (0))), J, Rx R, N, G)) rfl ?_
      refine l_dgs2 (I := (rw2 (rw2 (rw2 I 99 45 (nI (pl b L p))) 99 46 (nI (0))) 99 47 (nI (0)))) ⟨hT.1, hT.2⟩ hL hb h1 h44 rfl _ _ _ ?_
      refine XP_n 3 (pc' := 154) (ls' := [.ref (99), .int (nI (b (pl b L p))), .int (nI (scn isDg b L (pl b L p) - pl b L p)), xj, xj]) (st' := [.int (nI (4)), .int (nI (scn isDg b L (pl b L p) - pl b L p)), .ref (99)]) (M' := ((rw2 (rw2 (rw2 (rw2 (rw2 I 99 45 (nI (pl b L p))) 99 46 (nI (0))) 99 47 (nI (0))) 99 44 (nI (scn isDg b L (pl b L p)))) 99 47 (mvI b (pl b L p) (scn isDg b L (pl b L p) - pl b L p))), J, Rx R, N, G)) rfl ?_
      refine XP_icN (x := scn isDg b L (pl b L p) - pl b L p) (y := 4) rfl (by omega) (by omega) (fun (b154 : scn isDg b L (pl b L p) - pl b L p ≤ 4) => ?_) (fun (b154 : 4 < scn isDg b L (pl b L p) - pl b L p) => absurd b154 (by omega))
      refine XP_n 3 (pc' := 201) (ls' := [.ref (99), .int (nI (b (pl b L p))), .int (nI (scn isDg b L (pl b L p) - pl b L p)), xj, xj]) (st' := []) (M' := ((rw2 (rw2 (rw2 (rw2 (rw2 (rw2 I 99 45 (nI (pl b L p))) 99 46 (nI (0))) 99 47 (nI (0))) 99 44 (nI (scn isDg b L (pl b L p)))) 99 47 (mvI b (pl b L p) (scn isDg b L (pl b L p) - pl b L p))) 99 46 (nI (1))), J, Rx R, N, G)) rfl ?_
      exact XP_ret rfl ⟨rfl, _, rfl, ⟨⟨hT.1, hT.2⟩, by rw [en]; rfl, by first | rfl | exact h44, by rw [et]; rfl, fun _ => by unfold tv; rw [en]; exact mvI_n _ (by omega) hd, fun k hk z => by have := tw_9 k hk; omega⟩, fun k hk => by simp only [rw2_ro hk], fun j hj => by simp only [rw2_c]; repeat rw [if_neg (by omega)]⟩
  have gd : ¬ iv 48 57 (nI (b (pl b L p))) := fun z => g2 ((iv_dg h2).mp z)
  have en : nx b L p = pl b L p + 1 := by
    unfold nx
    rw [if_neg g0, if_neg g1, if_neg g2]
  by_cases g3 : isSg (b (pl b L p)) = true
  · have gs := isSg_c g3
    have et : tk b L p = b (pl b L p) := by
      unfold tk
      rw [if_neg g0, if_neg g1, if_neg g2, if_pos g3]
    have em : mT (b (pl b L p)) = nI (b (pl b L p)) := by
      unfold mT
      rw [if_neg (by omega), if_neg (by omega), if_neg (by omega), if_pos (by omega)]
    refine XP_n 3 (pc' := 29) (ls' := [.ref (99), xj, xj, xj, xj]) (st' := [.int (I 99 44), .ref (99)]) (M' := (I, J, Rx R, N, G)) rfl ?_
    rw [h44]
    refine XP_n 9 (pc' := 38) (ls' := [.ref (99), xj, xj, xj, xj]) (st' := [.int (I 99 44)]) (M' := ((rw2 (rw2 (rw2 I 99 45 (nI (pl b L p))) 99 46 (nI (0))) 99 47 (nI (0))), J, Rx R, N, G)) rfl ?_
    rw [h44]
    refine XP_n 2 (pc' := 40) (ls' := [.ref (99), xj, xj, xj, xj]) (st' := [.int (I 99 27), .int (nI (pl b L p))]) (M' := ((rw2 (rw2 (rw2 I 99 45 (nI (pl b L p))) 99 46 (nI (0))) 99 47 (nI (0))), J, Rx R, N, G)) rfl ?_
    rw [hT.1]
    refine XP_icN (x := pl b L p) (y := L) rfl (by omega) (by omega) (fun (b40 : ¬ pl b L p = L) => ?_) (fun (b40 : pl b L p = L) => absurd b40 (by omega))
    refine XP_n 4 (pc' := 46) (ls' := [.ref (99), xj, xj, xj, xj]) (st' := [.int (I 99 44), .ref (116)]) (M' := ((rw2 (rw2 (rw2 I 99 45 (nI (pl b L p))) 99 46 (nI (0))) 99 47 (nI (0))), J, Rx R, N, G)) rfl ?_
    rw [h44]
    refine XP_iraw rfl rfl (show pl b L p < 160 by omega) rfl (by omega) ?_
    rw [show (rw2 (rw2 (rw2 I 99 45 (nI (pl b L p))) 99 46 (nI (0))) 99 47 (nI (0))) 116 (pl b L p) = nI (b (pl b L p)) from hT.2 (pl b L p) (by omega)]
    refine XP_n 4 (pc' := 51) (ls' := [.ref (99), .int (nI (b (pl b L p))), xj, xj, xj]) (st' := [.int (nI (122)), .int (nI (97)), .int (nI (b (pl b L p)))]) (M' := ((rw2 (rw2 (rw2 I 99 45 (nI (pl b L p))) 99 46 (nI (0))) 99 47 (nI (0))), J, Rx R, N, G)) rfl ?_
    refine XP_pure rfl rfl (w_M X _ _ 97 122 _) ?_
    refine XP_s rfl ?_
    refine XP_beq (fun b52 => ?_) (fun b52 => absurd b52 gi)
    refine XP_n 3 (pc' := 106) (ls' := [.ref (99), .int (nI (b (pl b L p))), xj, xj, xj]) (st' := [.int (nI (57)), .int (nI (48)), .int (nI (b (pl b L p)))]) (M' := ((rw2 (rw2 (rw2 I 99 45 (nI (pl b L p))) 99 46 (nI (0))) 99 47 (nI (0))), J, Rx R, N, G)) rfl ?_
    refine XP_pure rfl rfl (w_M X _ _ 48 57 _) ?_
    refine XP_s rfl ?_
    refine XP_beq (fun b107 => ?_) (fun b107 => absurd b107 gd)
    refine XP_n 2 (pc' := 162) (ls' := [.ref (99), .int (nI (b (pl b L p))), xj, xj, xj]) (st' := [.int (nI (40)), .int (nI (b (pl b L p)))]) (M' := ((rw2 (rw2 (rw2 I 99 45 (nI (pl b L p))) 99 46 (nI (0))) 99 47 (nI (0))), J, Rx R, N, G)) rfl ?_
    refine XP_icN (x := b (pl b L p)) (y := 40) rfl (by omega) (by omega) (fun (b162 : b (pl b L p) = 40) => ?_) (fun (b162 : ¬ b (pl b L p) = 40) => ?_)
    · refine XP_n 5 (pc' := 190) (ls' := [.ref (99), .int (nI (b (pl b L p))), .int (nI (1)), xj, xj]) (st' := [.int (nI (1)), .ref (99)]) (M' := ((rw2 (rw2 (rw2 I 99 45 (nI (pl b L p))) 99 46 (nI (0))) 99 47 (nI (0))), J, Rx R, N, G)) rfl ?_
      refine XP_ifN (x := 1)  rfl (by omega) (fun (b190 : 1 = 0) => absurd b190 (by omega)) (fun (b190 : ¬ 1 = 0) => ?_)
      refine XP_n 6 (pc' := 198) (ls' := [.ref (99), .int (nI (b (pl b L p))), .int (nI (1)), xj, xj]) (st' := [.int (I 99 44), .ref (99)]) (M' := ((rw2 (rw2 (rw2 (rw2 I 99 45 (nI (pl b L p))) 99 46 (nI (0))) 99 47 (nI (0))) 99 46 (nI (b (pl b L p)))), J, Rx R, N, G)) rfl ?_
      rw [h44]
      refine XP_n 2 (pc' := 200) (ls' := [.ref (99), .int (nI (b (pl b L p))), .int (nI (1)), xj, xj]) (st' := [.int ((nI (pl b L p)) + (nI (1))), .ref (99)]) (M' := ((rw2 (rw2 (rw2 (rw2 I 99 45 (nI (pl b L p))) 99 46 (nI (0))) 99 47 (nI (0))) 99 46 (nI (b (pl b L p)))), J, Rx R, N, G)) rfl ?_
      rw [show (nI (pl b L p)) + (nI (1)) = nI (pl b L p + 1) from nI_addE (rfl) (rfl)]
      refine XP_n 1 (pc' := 201) (ls' := [.ref (99), .int (nI (b (pl b L p))), .int (nI (1)), xj, xj]) (st' := []) (M' := ((rw2 (rw2 (rw2 (rw2 (rw2 I 99 45 (nI (pl b L p))) 99 46 (nI (0))) 99 47 (nI (0))) 99 46 (nI (b (pl b L p)))) 99 44 (nI (pl b L p + 1))), J, Rx R, N, G)) rfl ?_
      first | (exfalso; omega) | exact XP_ret rfl ⟨rfl, _, rfl, ⟨⟨hT.1, hT.2⟩, by rw [en]; rfl, by first | rfl | exact h44, by rw [et, em]; rfl, fun z => by omega, fun k hk z => by have := tw_9 k hk; omega⟩, fun k hk => by simp only [rw2_ro hk], fun j hj => by simp only [rw2_c]; repeat rw [if_neg (by omega)]⟩
    · refine XP_n 2 (pc' := 165) (ls' := [.ref (99), .int (nI (b (pl b L p))), xj, xj, xj]) (st' := [.int (nI (41)), .int (nI (b (pl b L p)))]) (M' := ((rw2 (rw2 (rw2 I 99 45 (nI (pl b L p))) 99 46 (nI (0))) 99 47 (nI (0))), J, Rx R, N, G)) rfl ?_
      refine XP_icN (x := b (pl b L p)) (y := 41) rfl (by omega) (by omega) (fun (b165 : b (pl b L p) = 41) => ?_) (fun (b165 : ¬ b (pl b L p) = 41) => ?_)
      · refine XP_n 5 (pc' := 190) (ls' := [.ref (99), .int (nI (b (pl b L p))), .int (nI (1)), xj, xj]) (st' := [.int (nI (1)), .ref (99)]) (M' := ((rw2 (rw2 (rw2 I 99 45 (nI (pl b L p))) 99 46 (nI (0))) 99 47 (nI (0))), J, Rx R, N, G)) rfl ?_
        refine XP_ifN (x := 1)  rfl (by omega) (fun (b190 : 1 = 0) => absurd b190 (by omega)) (fun (b190 : ¬ 1 = 0) => ?_)
        refine XP_n 6 (pc' := 198) (ls' := [.ref (99), .int (nI (b (pl b L p))), .int (nI (1)), xj, xj]) (st' := [.int (I 99 44), .ref (99)]) (M' := ((rw2 (rw2 (rw2 (rw2 I 99 45 (nI (pl b L p))) 99 46 (nI (0))) 99 47 (nI (0))) 99 46 (nI (b (pl b L p)))), J, Rx R, N, G)) rfl ?_
        rw [h44]
        refine XP_n 2 (pc' := 200) (ls' := [.ref (99), .int (nI (b (pl b L p))), .int (nI (1)), xj, xj]) (st' := [.int ((nI (pl b L p)) + (nI (1))), .ref (99)]) (M' := ((rw2 (rw2 (rw2 (rw2 I 99 45 (nI (pl b L p))) 99 46 (nI (0))) 99 47 (nI (0))) 99 46 (nI (b (pl b L p)))), J, Rx R, N, G)) rfl ?_
        rw [show (nI (pl b L p)) + (nI (1)) = nI (pl b L p + 1) from nI_addE (rfl) (rfl)]
        refine XP_n 1 (pc' := 201) (ls' := [.ref (99), .int (nI (b (pl b L p))), .int (nI (1)), xj, xj]) (st' := []) (M' := ((rw2 (rw2 (rw2 (rw2 (rw2 I 99 45 (nI (pl b L p))) 99 46 (nI (0))) 99 47 (nI (0))) 99 46 (nI (b (pl b L p)))) 99 44 (nI (pl b L p + 1))), J, Rx R, N, G)) rfl ?_
        first | (exfalso; omega) | exact XP_ret rfl ⟨rfl, _, rfl, ⟨⟨hT.1, hT.2⟩, by rw [en]; rfl, by first | rfl | exact h44, by rw [et, em]; rfl, fun z => by omega, fun k hk z => by have := tw_9 k hk; omega⟩, fun k hk => by simp only [rw2_ro hk], fun j hj => by simp only [rw2_c]; repeat rw [if_neg (by omega)]⟩
      · refine XP_n 2 (pc' := 168) (ls' := [.ref (99), .int (nI (b (pl b L p))), xj, xj, xj]) (st' := [.int (nI (59)), .int (nI (b (pl b L p)))]) (M' := ((rw2 (rw2 (rw2 I 99 45 (nI (pl b L p))) 99 46 (nI (0))) 99 47 (nI (0))), J, Rx R, N, G)) rfl ?_
        refine XP_icN (x := b (pl b L p)) (y := 59) rfl (by omega) (by omega) (fun (b168 : b (pl b L p) = 59) => ?_) (fun (b168 : ¬ b (pl b L p) = 59) => ?_)
        · refine XP_n 5 (pc' := 190) (ls' := [.ref (99), .int (nI (b (pl b L p))), .int (nI (1)), xj, xj]) (st' := [.int (nI (1)), .ref (99)]) (M' := ((rw2 (rw2 (rw2 I 99 45 (nI (pl b L p))) 99 46 (nI (0))) 99 47 (nI (0))), J, Rx R, N, G)) rfl ?_
          refine XP_ifN (x := 1)  rfl (by omega) (fun (b190 : 1 = 0) => absurd b190 (by omega)) (fun (b190 : ¬ 1 = 0) => ?_)
          refine XP_n 6 (pc' := 198) (ls' := [.ref (99), .int (nI (b (pl b L p))), .int (nI (1)), xj, xj]) (st' := [.int (I 99 44), .ref (99)]) (M' := ((rw2 (rw2 (rw2 (rw2 I 99 45 (nI (pl b L p))) 99 46 (nI (0))) 99 47 (nI (0))) 99 46 (nI (b (pl b L p)))), J, Rx R, N, G)) rfl ?_
          rw [h44]
          refine XP_n 2 (pc' := 200) (ls' := [.ref (99), .int (nI (b (pl b L p))), .int (nI (1)), xj, xj]) (st' := [.int ((nI (pl b L p)) + (nI (1))), .ref (99)]) (M' := ((rw2 (rw2 (rw2 (rw2 I 99 45 (nI (pl b L p))) 99 46 (nI (0))) 99 47 (nI (0))) 99 46 (nI (b (pl b L p)))), J, Rx R, N, G)) rfl ?_
          rw [show (nI (pl b L p)) + (nI (1)) = nI (pl b L p + 1) from nI_addE (rfl) (rfl)]
          refine XP_n 1 (pc' := 201) (ls' := [.ref (99), .int (nI (b (pl b L p))), .int (nI (1)), xj, xj]) (st' := []) (M' := ((rw2 (rw2 (rw2 (rw2 (rw2 I 99 45 (nI (pl b L p))) 99 46 (nI (0))) 99 47 (nI (0))) 99 46 (nI (b (pl b L p)))) 99 44 (nI (pl b L p + 1))), J, Rx R, N, G)) rfl ?_
          first | (exfalso; omega) | exact XP_ret rfl ⟨rfl, _, rfl, ⟨⟨hT.1, hT.2⟩, by rw [en]; rfl, by first | rfl | exact h44, by rw [et, em]; rfl, fun z => by omega, fun k hk z => by have := tw_9 k hk; omega⟩, fun k hk => by simp only [rw2_ro hk], fun j hj => by simp only [rw2_c]; repeat rw [if_neg (by omega)]⟩
        · refine XP_n 2 (pc' := 171) (ls' := [.ref (99), .int (nI (b (pl b L p))), xj, xj, xj]) (st' := [.int (nI (43)), .int (nI (b (pl b L p)))]) (M' := ((rw2 (rw2 (rw2 I 99 45 (nI (pl b L p))) 99 46 (nI (0))) 99 47 (nI (0))), J, Rx R, N, G)) rfl ?_
          refine XP_icN (x := b (pl b L p)) (y := 43) rfl (by omega) (by omega) (fun (b171 : b (pl b L p) = 43) => ?_) (fun (b171 : ¬ b (pl b L p) = 43) => ?_)
          · refine XP_n 5 (pc' := 190) (ls' := [.ref (99), .int (nI (b (pl b L p))), .int (nI (1)), xj, xj]) (st' := [.int (nI (1)), .ref (99)]) (M' := ((rw2 (rw2 (rw2 I 99 45 (nI (pl b L p))) 99 46 (nI (0))) 99 47 (nI (0))), J, Rx R, N, G)) rfl ?_
            refine XP_ifN (x := 1)  rfl (by omega) (fun (b190 : 1 = 0) => absurd b190 (by omega)) (fun (b190 : ¬ 1 = 0) => ?_)
            refine XP_n 6 (pc' := 198) (ls' := [.ref (99), .int (nI (b (pl b L p))), .int (nI (1)), xj, xj]) (st' := [.int (I 99 44), .ref (99)]) (M' := ((rw2 (rw2 (rw2 (rw2 I 99 45 (nI (pl b L p))) 99 46 (nI (0))) 99 47 (nI (0))) 99 46 (nI (b (pl b L p)))), J, Rx R, N, G)) rfl ?_
            rw [h44]
            refine XP_n 2 (pc' := 200) (ls' := [.ref (99), .int (nI (b (pl b L p))), .int (nI (1)), xj, xj]) (st' := [.int ((nI (pl b L p)) + (nI (1))), .ref (99)]) (M' := ((rw2 (rw2 (rw2 (rw2 I 99 45 (nI (pl b L p))) 99 46 (nI (0))) 99 47 (nI (0))) 99 46 (nI (b (pl b L p)))), J, Rx R, N, G)) rfl ?_
            rw [show (nI (pl b L p)) + (nI (1)) = nI (pl b L p + 1) from nI_addE (rfl) (rfl)]
            refine XP_n 1 (pc' := 201) (ls' := [.ref (99), .int (nI (b (pl b L p))), .int (nI (1)), xj, xj]) (st' := []) (M' := ((rw2 (rw2 (rw2 (rw2 (rw2 I 99 45 (nI (pl b L p))) 99 46 (nI (0))) 99 47 (nI (0))) 99 46 (nI (b (pl b L p)))) 99 44 (nI (pl b L p + 1))), J, Rx R, N, G)) rfl ?_
            first | (exfalso; omega) | exact XP_ret rfl ⟨rfl, _, rfl, ⟨⟨hT.1, hT.2⟩, by rw [en]; rfl, by first | rfl | exact h44, by rw [et, em]; rfl, fun z => by omega, fun k hk z => by have := tw_9 k hk; omega⟩, fun k hk => by simp only [rw2_ro hk], fun j hj => by simp only [rw2_c]; repeat rw [if_neg (by omega)]⟩
          · refine XP_n 2 (pc' := 174) (ls' := [.ref (99), .int (nI (b (pl b L p))), xj, xj, xj]) (st' := [.int (nI (45)), .int (nI (b (pl b L p)))]) (M' := ((rw2 (rw2 (rw2 I 99 45 (nI (pl b L p))) 99 46 (nI (0))) 99 47 (nI (0))), J, Rx R, N, G)) rfl ?_
            refine XP_icN (x := b (pl b L p)) (y := 45) rfl (by omega) (by omega) (fun (b174 : b (pl b L p) = 45) => ?_) (fun (b174 : ¬ b (pl b L p) = 45) => ?_)
            · refine XP_n 5 (pc' := 190) (ls' := [.ref (99), .int (nI (b (pl b L p))), .int (nI (1)), xj, xj]) (st' := [.int (nI (1)), .ref (99)]) (M' := ((rw2 (rw2 (rw2 I 99 45 (nI (pl b L p))) 99 46 (nI (0))) 99 47 (nI (0))), J, Rx R, N, G)) rfl ?_
              refine XP_ifN (x := 1)  rfl (by omega) (fun (b190 : 1 = 0) => absurd b190 (by omega)) (fun (b190 : ¬ 1 = 0) => ?_)
              refine XP_n 6 (pc' := 198) (ls' := [.ref (99), .int (nI (b (pl b L p))), .int (nI (1)), xj, xj]) (st' := [.int (I 99 44), .ref (99)]) (M' := ((rw2 (rw2 (rw2 (rw2 I 99 45 (nI (pl b L p))) 99 46 (nI (0))) 99 47 (nI (0))) 99 46 (nI (b (pl b L p)))), J, Rx R, N, G)) rfl ?_
              rw [h44]
              refine XP_n 2 (pc' := 200) (ls' := [.ref (99), .int (nI (b (pl b L p))), .int (nI (1)), xj, xj]) (st' := [.int ((nI (pl b L p)) + (nI (1))), .ref (99)]) (M' := ((rw2 (rw2 (rw2 (rw2 I 99 45 (nI (pl b L p))) 99 46 (nI (0))) 99 47 (nI (0))) 99 46 (nI (b (pl b L p)))), J, Rx R, N, G)) rfl ?_
              rw [show (nI (pl b L p)) + (nI (1)) = nI (pl b L p + 1) from nI_addE (rfl) (rfl)]
              refine XP_n 1 (pc' := 201) (ls' := [.ref (99), .int (nI (b (pl b L p))), .int (nI (1)), xj, xj]) (st' := []) (M' := ((rw2 (rw2 (rw2 (rw2 (rw2 I 99 45 (nI (pl b L p))) 99 46 (nI (0))) 99 47 (nI (0))) 99 46 (nI (b (pl b L p)))) 99 44 (nI (pl b L p + 1))), J, Rx R, N, G)) rfl ?_
              first | (exfalso; omega) | exact XP_ret rfl ⟨rfl, _, rfl, ⟨⟨hT.1, hT.2⟩, by rw [en]; rfl, by first | rfl | exact h44, by rw [et, em]; rfl, fun z => by omega, fun k hk z => by have := tw_9 k hk; omega⟩, fun k hk => by simp only [rw2_ro hk], fun j hj => by simp only [rw2_c]; repeat rw [if_neg (by omega)]⟩
            · refine XP_n 2 (pc' := 177) (ls' := [.ref (99), .int (nI (b (pl b L p))), xj, xj, xj]) (st' := [.int (nI (42)), .int (nI (b (pl b L p)))]) (M' := ((rw2 (rw2 (rw2 I 99 45 (nI (pl b L p))) 99 46 (nI (0))) 99 47 (nI (0))), J, Rx R, N, G)) rfl ?_
              refine XP_icN (x := b (pl b L p)) (y := 42) rfl (by omega) (by omega) (fun (b177 : b (pl b L p) = 42) => ?_) (fun (b177 : ¬ b (pl b L p) = 42) => ?_)
              · refine XP_n 5 (pc' := 190) (ls' := [.ref (99), .int (nI (b (pl b L p))), .int (nI (1)), xj, xj]) (st' := [.int (nI (1)), .ref (99)]) (M' := ((rw2 (rw2 (rw2 I 99 45 (nI (pl b L p))) 99 46 (nI (0))) 99 47 (nI (0))), J, Rx R, N, G)) rfl ?_
                refine XP_ifN (x := 1)  rfl (by omega) (fun (b190 : 1 = 0) => absurd b190 (by omega)) (fun (b190 : ¬ 1 = 0) => ?_)
                refine XP_n 6 (pc' := 198) (ls' := [.ref (99), .int (nI (b (pl b L p))), .int (nI (1)), xj, xj]) (st' := [.int (I 99 44), .ref (99)]) (M' := ((rw2 (rw2 (rw2 (rw2 I 99 45 (nI (pl b L p))) 99 46 (nI (0))) 99 47 (nI (0))) 99 46 (nI (b (pl b L p)))), J, Rx R, N, G)) rfl ?_
                rw [h44]
                refine XP_n 2 (pc' := 200) (ls' := [.ref (99), .int (nI (b (pl b L p))), .int (nI (1)), xj, xj]) (st' := [.int ((nI (pl b L p)) + (nI (1))), .ref (99)]) (M' := ((rw2 (rw2 (rw2 (rw2 I 99 45 (nI (pl b L p))) 99 46 (nI (0))) 99 47 (nI (0))) 99 46 (nI (b (pl b L p)))), J, Rx R, N, G)) rfl ?_
                rw [show (nI (pl b L p)) + (nI (1)) = nI (pl b L p + 1) from nI_addE (rfl) (rfl)]
                refine XP_n 1 (pc' := 201) (ls' := [.ref (99), .int (nI (b (pl b L p))), .int (nI (1)), xj, xj]) (st' := []) (M' := ((rw2 (rw2 (rw2 (rw2 (rw2 I 99 45 (nI (pl b L p))) 99 46 (nI (0))) 99 47 (nI (0))) 99 46 (nI (b (pl b L p)))) 99 44 (nI (pl b L p + 1))), J, Rx R, N, G)) rfl ?_
                first | (exfalso; omega) | exact XP_ret rfl ⟨rfl, _, rfl, ⟨⟨hT.1, hT.2⟩, by rw [en]; rfl, by first | rfl | exact h44, by rw [et, em]; rfl, fun z => by omega, fun k hk z => by have := tw_9 k hk; omega⟩, fun k hk => by simp only [rw2_ro hk], fun j hj => by simp only [rw2_c]; repeat rw [if_neg (by omega)]⟩
              · refine XP_n 2 (pc' := 180) (ls' := [.ref (99), .int (nI (b (pl b L p))), xj, xj, xj]) (st' := [.int (nI (60)), .int (nI (b (pl b L p)))]) (M' := ((rw2 (rw2 (rw2 I 99 45 (nI (pl b L p))) 99 46 (nI (0))) 99 47 (nI (0))), J, Rx R, N, G)) rfl ?_
                refine XP_icN (x := b (pl b L p)) (y := 60) rfl (by omega) (by omega) (fun (b180 : b (pl b L p) = 60) => ?_) (fun (b180 : ¬ b (pl b L p) = 60) => ?_)
                · refine XP_n 5 (pc' := 190) (ls' := [.ref (99), .int (nI (b (pl b L p))), .int (nI (1)), xj, xj]) (st' := [.int (nI (1)), .ref (99)]) (M' := ((rw2 (rw2 (rw2 I 99 45 (nI (pl b L p))) 99 46 (nI (0))) 99 47 (nI (0))), J, Rx R, N, G)) rfl ?_
                  refine XP_ifN (x := 1)  rfl (by omega) (fun (b190 : 1 = 0) => absurd b190 (by omega)) (fun (b190 : ¬ 1 = 0) => ?_)
                  refine XP_n 6 (pc' := 198) (ls' := [.ref (99), .int (nI (b (pl b L p))), .int (nI (1)), xj, xj]) (st' := [.int (I 99 44), .ref (99)]) (M' := ((rw2 (rw2 (rw2 (rw2 I 99 45 (nI (pl b L p))) 99 46 (nI (0))) 99 47 (nI (0))) 99 46 (nI (b (pl b L p)))), J, Rx R, N, G)) rfl ?_
                  rw [h44]
                  refine XP_n 2 (pc' := 200) (ls' := [.ref (99), .int (nI (b (pl b L p))), .int (nI (1)), xj, xj]) (st' := [.int ((nI (pl b L p)) + (nI (1))), .ref (99)]) (M' := ((rw2 (rw2 (rw2 (rw2 I 99 45 (nI (pl b L p))) 99 46 (nI (0))) 99 47 (nI (0))) 99 46 (nI (b (pl b L p)))), J, Rx R, N, G)) rfl ?_
                  rw [show (nI (pl b L p)) + (nI (1)) = nI (pl b L p + 1) from nI_addE (rfl) (rfl)]
                  refine XP_n 1 (pc' := 201) (ls' := [.ref (99), .int (nI (b (pl b L p))), .int (nI (1)), xj, xj]) (st' := []) (M' := ((rw2 (rw2 (rw2 (rw2 (rw2 I 99 45 (nI (pl b L p))) 99 46 (nI (0))) 99 47 (nI (0))) 99 46 (nI (b (pl b L p)))) 99 44 (nI (pl b L p + 1))), J, Rx R, N, G)) rfl ?_
                  first | (exfalso; omega) | exact XP_ret rfl ⟨rfl, _, rfl, ⟨⟨hT.1, hT.2⟩, by rw [en]; rfl, by first | rfl | exact h44, by rw [et, em]; rfl, fun z => by omega, fun k hk z => by have := tw_9 k hk; omega⟩, fun k hk => by simp only [rw2_ro hk], fun j hj => by simp only [rw2_c]; repeat rw [if_neg (by omega)]⟩
                · refine XP_n 2 (pc' := 183) (ls' := [.ref (99), .int (nI (b (pl b L p))), xj, xj, xj]) (st' := [.int (nI (61)), .int (nI (b (pl b L p)))]) (M' := ((rw2 (rw2 (rw2 I 99 45 (nI (pl b L p))) 99 46 (nI (0))) 99 47 (nI (0))), J, Rx R, N, G)) rfl ?_
                  refine XP_icN (x := b (pl b L p)) (y := 61) rfl (by omega) (by omega) (fun (b183 : ¬ b (pl b L p) = 61) => ?_) (fun (b183 : b (pl b L p) = 61) => ?_)
                  · refine XP_n 4 (pc' := 190) (ls' := [.ref (99), .int (nI (b (pl b L p))), .int (nI (0)), xj, xj]) (st' := [.int (nI (0)), .ref (99)]) (M' := ((rw2 (rw2 (rw2 I 99 45 (nI (pl b L p))) 99 46 (nI (0))) 99 47 (nI (0))), J, Rx R, N, G)) rfl ?_
                    refine XP_ifN (x := 0)  rfl (by omega) (fun (b190 : 0 = 0) => ?_) (fun (b190 : ¬ 0 = 0) => absurd b190 (by omega))
                    refine XP_n 5 (pc' := 198) (ls' := [.ref (99), .int (nI (b (pl b L p))), .int (nI (0)), xj, xj]) (st' := [.int (I 99 44), .ref (99)]) (M' := ((rw2 (rw2 (rw2 (rw2 I 99 45 (nI (pl b L p))) 99 46 (nI (0))) 99 47 (nI (0))) 99 46 (cI (-1))), J, Rx R, N, G)) rfl ?_
                    rw [h44]
                    refine XP_n 2 (pc' := 200) (ls' := [.ref (99), .int (nI (b (pl b L p))), .int (nI (0)), xj, xj]) (st' := [.int ((nI (pl b L p)) + (nI (1))), .ref (99)]) (M' := ((rw2 (rw2 (rw2 (rw2 I 99 45 (nI (pl b L p))) 99 46 (nI (0))) 99 47 (nI (0))) 99 46 (cI (-1))), J, Rx R, N, G)) rfl ?_
                    rw [show (nI (pl b L p)) + (nI (1)) = nI (pl b L p + 1) from nI_addE (rfl) (rfl)]
                    refine XP_n 1 (pc' := 201) (ls' := [.ref (99), .int (nI (b (pl b L p))), .int (nI (0)), xj, xj]) (st' := []) (M' := ((rw2 (rw2 (rw2 (rw2 (rw2 I 99 45 (nI (pl b L p))) 99 46 (nI (0))) 99 47 (nI (0))) 99 46 (cI (-1))) 99 44 (nI (pl b L p + 1))), J, Rx R, N, G)) rfl ?_
                    first | (exfalso; omega) | exact XP_ret rfl ⟨rfl, _, rfl, ⟨⟨hT.1, hT.2⟩, by rw [en]; rfl, by first | rfl | exact h44, by rw [et, em]; rfl, fun z => by omega, fun k hk z => by have := tw_9 k hk; omega⟩, fun k hk => by simp only [rw2_ro hk], fun j hj => by simp only [rw2_c]; repeat rw [if_neg (by omega)]⟩
                  · refine XP_n 5 (pc' := 190) (ls' := [.ref (99), .int (nI (b (pl b L p))), .int (nI (1)), xj, xj]) (st' := [.int (nI (1)), .ref (99)]) (M' := ((rw2 (rw2 (rw2 I 99 45 (nI (pl b L p))) 99 46 (nI (0))) 99 47 (nI (0))), J, Rx R, N, G)) rfl ?_
                    refine XP_ifN (x := 1)  rfl (by omega) (fun (b190 : 1 = 0) => absurd b190 (by omega)) (fun (b190 : ¬ 1 = 0) => ?_)
                    refine XP_n 6 (pc' := 198) (ls' := [.ref (99), .int (nI (b (pl b L p))), .int (nI (1)), xj, xj]) (st' := [.int (I 99 44), .ref (99)]) (M' := ((rw2 (rw2 (rw2 (rw2 I 99 45 (nI (pl b L p))) 99 46 (nI (0))) 99 47 (nI (0))) 99 46 (nI (b (pl b L p)))), J, Rx R, N, G)) rfl ?_
                    rw [h44]
                    refine XP_n 2 (pc' := 200) (ls' := [.ref (99), .int (nI (b (pl b L p))), .int (nI (1)), xj, xj]) (st' := [.int ((nI (pl b L p)) + (nI (1))), .ref (99)]) (M' := ((rw2 (rw2 (rw2 (rw2 I 99 45 (nI (pl b L p))) 99 46 (nI (0))) 99 47 (nI (0))) 99 46 (nI (b (pl b L p)))), J, Rx R, N, G)) rfl ?_
                    rw [show (nI (pl b L p)) + (nI (1)) = nI (pl b L p + 1) from nI_addE (rfl) (rfl)]
                    refine XP_n 1 (pc' := 201) (ls' := [.ref (99), .int (nI (b (pl b L p))), .int (nI (1)), xj, xj]) (st' := []) (M' := ((rw2 (rw2 (rw2 (rw2 (rw2 I 99 45 (nI (pl b L p))) 99 46 (nI (0))) 99 47 (nI (0))) 99 46 (nI (b (pl b L p)))) 99 44 (nI (pl b L p + 1))), J, Rx R, N, G)) rfl ?_
                    first | (exfalso; omega) | exact XP_ret rfl ⟨rfl, _, rfl, ⟨⟨hT.1, hT.2⟩, by rw [en]; rfl, by first | rfl | exact h44, by rw [et, em]; rfl, fun z => by omega, fun k hk z => by have := tw_9 k hk; omega⟩, fun k hk => by simp only [rw2_ro hk], fun j hj => by simp only [rw2_c]; repeat rw [if_neg (by omega)]⟩
  · have gs : ¬ (b (pl b L p) = 40 ∨ b (pl b L p) = 41 ∨ b (pl b L p) = 59 ∨ b (pl b L p) = 43 ∨ b (pl b L p) = 45 ∨ b (pl b L p) = 42 ∨ b (pl b L p) = 60 ∨ b (pl b L p) = 61) := fun z => g3 (by
      rcases z with z | z | z | z | z | z | z | z <;> rw [z] <;> rfl)
    have et : tk b L p = 2002 := by
      unfold tk
      rw [if_neg g0, if_neg g1, if_neg g2, if_neg g3]
    refine XP_n 3 (pc' := 29) (ls' := [.ref (99), xj, xj, xj, xj]) (st' := [.int (I 99 44), .ref (99)]) (M' := (I, J, Rx R, N, G)) rfl ?_
    rw [h44]
    refine XP_n 9 (pc' := 38) (ls' := [.ref (99), xj, xj, xj, xj]) (st' := [.int (I 99 44)]) (M' := ((rw2 (rw2 (rw2 I 99 45 (nI (pl b L p))) 99 46 (nI (0))) 99 47 (nI (0))), J, Rx R, N, G)) rfl ?_
    rw [h44]
    refine XP_n 2 (pc' := 40) (ls' := [.ref (99), xj, xj, xj, xj]) (st' := [.int (I 99 27), .int (nI (pl b L p))]) (M' := ((rw2 (rw2 (rw2 I 99 45 (nI (pl b L p))) 99 46 (nI (0))) 99 47 (nI (0))), J, Rx R, N, G)) rfl ?_
    rw [hT.1]
    refine XP_icN (x := pl b L p) (y := L) rfl (by omega) (by omega) (fun (b40 : ¬ pl b L p = L) => ?_) (fun (b40 : pl b L p = L) => absurd b40 (by omega))
    refine XP_n 4 (pc' := 46) (ls' := [.ref (99), xj, xj, xj, xj]) (st' := [.int (I 99 44), .ref (116)]) (M' := ((rw2 (rw2 (rw2 I 99 45 (nI (pl b L p))) 99 46 (nI (0))) 99 47 (nI (0))), J, Rx R, N, G)) rfl ?_
    rw [h44]
    refine XP_iraw rfl rfl (show pl b L p < 160 by omega) rfl (by omega) ?_
    rw [show (rw2 (rw2 (rw2 I 99 45 (nI (pl b L p))) 99 46 (nI (0))) 99 47 (nI (0))) 116 (pl b L p) = nI (b (pl b L p)) from hT.2 (pl b L p) (by omega)]
    refine XP_n 4 (pc' := 51) (ls' := [.ref (99), .int (nI (b (pl b L p))), xj, xj, xj]) (st' := [.int (nI (122)), .int (nI (97)), .int (nI (b (pl b L p)))]) (M' := ((rw2 (rw2 (rw2 I 99 45 (nI (pl b L p))) 99 46 (nI (0))) 99 47 (nI (0))), J, Rx R, N, G)) rfl ?_
    refine XP_pure rfl rfl (w_M X _ _ 97 122 _) ?_
    refine XP_s rfl ?_
    refine XP_beq (fun b52 => ?_) (fun b52 => absurd b52 gi)
    refine XP_n 3 (pc' := 106) (ls' := [.ref (99), .int (nI (b (pl b L p))), xj, xj, xj]) (st' := [.int (nI (57)), .int (nI (48)), .int (nI (b (pl b L p)))]) (M' := ((rw2 (rw2 (rw2 I 99 45 (nI (pl b L p))) 99 46 (nI (0))) 99 47 (nI (0))), J, Rx R, N, G)) rfl ?_
    refine XP_pure rfl rfl (w_M X _ _ 48 57 _) ?_
    refine XP_s rfl ?_
    refine XP_beq (fun b107 => ?_) (fun b107 => absurd b107 gd)
    refine XP_n 2 (pc' := 162) (ls' := [.ref (99), .int (nI (b (pl b L p))), xj, xj, xj]) (st' := [.int (nI (40)), .int (nI (b (pl b L p)))]) (M' := ((rw2 (rw2 (rw2 I 99 45 (nI (pl b L p))) 99 46 (nI (0))) 99 47 (nI (0))), J, Rx R, N, G)) rfl ?_
    refine XP_icN (x := b (pl b L p)) (y := 40) rfl (by omega) (by omega) (fun (b162 : b (pl b L p) = 40) => ?_) (fun (b162 : ¬ b (pl b L p) = 40) => ?_)
    · refine XP_n 5 (pc' := 190) (ls' := [.ref (99), .int (nI (b (pl b L p))), .int (nI (1)), xj, xj]) (st' := [.int (nI (1)), .ref (99)]) (M' := ((rw2 (rw2 (rw2 I 99 45 (nI (pl b L p))) 99 46 (nI (0))) 99 47 (nI (0))), J, Rx R, N, G)) rfl ?_
      refine XP_ifN (x := 1)  rfl (by omega) (fun (b190 : 1 = 0) => absurd b190 (by omega)) (fun (b190 : ¬ 1 = 0) => ?_)
      refine XP_n 6 (pc' := 198) (ls' := [.ref (99), .int (nI (b (pl b L p))), .int (nI (1)), xj, xj]) (st' := [.int (I 99 44), .ref (99)]) (M' := ((rw2 (rw2 (rw2 (rw2 I 99 45 (nI (pl b L p))) 99 46 (nI (0))) 99 47 (nI (0))) 99 46 (nI (b (pl b L p)))), J, Rx R, N, G)) rfl ?_
      rw [h44]
      refine XP_n 2 (pc' := 200) (ls' := [.ref (99), .int (nI (b (pl b L p))), .int (nI (1)), xj, xj]) (st' := [.int ((nI (pl b L p)) + (nI (1))), .ref (99)]) (M' := ((rw2 (rw2 (rw2 (rw2 I 99 45 (nI (pl b L p))) 99 46 (nI (0))) 99 47 (nI (0))) 99 46 (nI (b (pl b L p)))), J, Rx R, N, G)) rfl ?_
      rw [show (nI (pl b L p)) + (nI (1)) = nI (pl b L p + 1) from nI_addE (rfl) (rfl)]
      refine XP_n 1 (pc' := 201) (ls' := [.ref (99), .int (nI (b (pl b L p))), .int (nI (1)), xj, xj]) (st' := []) (M' := ((rw2 (rw2 (rw2 (rw2 (rw2 I 99 45 (nI (pl b L p))) 99 46 (nI (0))) 99 47 (nI (0))) 99 46 (nI (b (pl b L p)))) 99 44 (nI (pl b L p + 1))), J, Rx R, N, G)) rfl ?_
      first | (exfalso; omega) | exact XP_ret rfl ⟨rfl, _, rfl, ⟨⟨hT.1, hT.2⟩, by rw [en]; rfl, by first | rfl | exact h44, by rw [et]; rfl, fun z => by omega, fun k hk z => by have := tw_9 k hk; omega⟩, fun k hk => by simp only [rw2_ro hk], fun j hj => by simp only [rw2_c]; repeat rw [if_neg (by omega)]⟩
    · refine XP_n 2 (pc' := 165) (ls' := [.ref (99), .int (nI (b (pl b L p))), xj, xj, xj]) (st' := [.int (nI (41)), .int (nI (b (pl b L p)))]) (M' := ((rw2 (rw2 (rw2 I 99 45 (nI (pl b L p))) 99 46 (nI (0))) 99 47 (nI (0))), J, Rx R, N, G)) rfl ?_
      refine XP_icN (x := b (pl b L p)) (y := 41) rfl (by omega) (by omega) (fun (b165 : b (pl b L p) = 41) => ?_) (fun (b165 : ¬ b (pl b L p) = 41) => ?_)
      · refine XP_n 5 (pc' := 190) (ls' := [.ref (99), .int (nI (b (pl b L p))), .int (nI (1)), xj, xj]) (st' := [.int (nI (1)), .ref (99)]) (M' := ((rw2 (rw2 (rw2 I 99 45 (nI (pl b L p))) 99 46 (nI (0))) 99 47 (nI (0))), J, Rx R, N, G)) rfl ?_
        refine XP_ifN (x := 1)  rfl (by omega) (fun (b190 : 1 = 0) => absurd b190 (by omega)) (fun (b190 : ¬ 1 = 0) => ?_)
        refine XP_n 6 (pc' := 198) (ls' := [.ref (99), .int (nI (b (pl b L p))), .int (nI (1)), xj, xj]) (st' := [.int (I 99 44), .ref (99)]) (M' := ((rw2 (rw2 (rw2 (rw2 I 99 45 (nI (pl b L p))) 99 46 (nI (0))) 99 47 (nI (0))) 99 46 (nI (b (pl b L p)))), J, Rx R, N, G)) rfl ?_
        rw [h44]
        refine XP_n 2 (pc' := 200) (ls' := [.ref (99), .int (nI (b (pl b L p))), .int (nI (1)), xj, xj]) (st' := [.int ((nI (pl b L p)) + (nI (1))), .ref (99)]) (M' := ((rw2 (rw2 (rw2 (rw2 I 99 45 (nI (pl b L p))) 99 46 (nI (0))) 99 47 (nI (0))) 99 46 (nI (b (pl b L p)))), J, Rx R, N, G)) rfl ?_
        rw [show (nI (pl b L p)) + (nI (1)) = nI (pl b L p + 1) from nI_addE (rfl) (rfl)]
        refine XP_n 1 (pc' := 201) (ls' := [.ref (99), .int (nI (b (pl b L p))), .int (nI (1)), xj, xj]) (st' := []) (M' := ((rw2 (rw2 (rw2 (rw2 (rw2 I 99 45 (nI (pl b L p))) 99 46 (nI (0))) 99 47 (nI (0))) 99 46 (nI (b (pl b L p)))) 99 44 (nI (pl b L p + 1))), J, Rx R, N, G)) rfl ?_
        first | (exfalso; omega) | exact XP_ret rfl ⟨rfl, _, rfl, ⟨⟨hT.1, hT.2⟩, by rw [en]; rfl, by first | rfl | exact h44, by rw [et]; rfl, fun z => by omega, fun k hk z => by have := tw_9 k hk; omega⟩, fun k hk => by simp only [rw2_ro hk], fun j hj => by simp only [rw2_c]; repeat rw [if_neg (by omega)]⟩
      · refine XP_n 2 (pc' := 168) (ls' := [.ref (99), .int (nI (b (pl b L p))), xj, xj, xj]) (st' := [.int (nI (59)), .int (nI (b (pl b L p)))]) (M' := ((rw2 (rw2 (rw2 I 99 45 (nI (pl b L p))) 99 46 (nI (0))) 99 47 (nI (0))), J, Rx R, N, G)) rfl ?_
        refine XP_icN (x := b (pl b L p)) (y := 59) rfl (by omega) (by omega) (fun (b168 : b (pl b L p) = 59) => ?_) (fun (b168 : ¬ b (pl b L p) = 59) => ?_)
        · refine XP_n 5 (pc' := 190) (ls' := [.ref (99), .int (nI (b (pl b L p))), .int (nI (1)), xj, xj]) (st' := [.int (nI (1)), .ref (99)]) (M' := ((rw2 (rw2 (rw2 I 99 45 (nI (pl b L p))) 99 46 (nI (0))) 99 47 (nI (0))), J, Rx R, N, G)) rfl ?_
          refine XP_ifN (x := 1)  rfl (by omega) (fun (b190 : 1 = 0) => absurd b190 (by omega)) (fun (b190 : ¬ 1 = 0) => ?_)
          refine XP_n 6 (pc' := 198) (ls' := [.ref (99), .int (nI (b (pl b L p))), .int (nI (1)), xj, xj]) (st' := [.int (I 99 44), .ref (99)]) (M' := ((rw2 (rw2 (rw2 (rw2 I 99 45 (nI (pl b L p))) 99 46 (nI (0))) 99 47 (nI (0))) 99 46 (nI (b (pl b L p)))), J, Rx R, N, G)) rfl ?_
          rw [h44]
          refine XP_n 2 (pc' := 200) (ls' := [.ref (99), .int (nI (b (pl b L p))), .int (nI (1)), xj, xj]) (st' := [.int ((nI (pl b L p)) + (nI (1))), .ref (99)]) (M' := ((rw2 (rw2 (rw2 (rw2 I 99 45 (nI (pl b L p))) 99 46 (nI (0))) 99 47 (nI (0))) 99 46 (nI (b (pl b L p)))), J, Rx R, N, G)) rfl ?_
          rw [show (nI (pl b L p)) + (nI (1)) = nI (pl b L p + 1) from nI_addE (rfl) (rfl)]
          refine XP_n 1 (pc' := 201) (ls' := [.ref (99), .int (nI (b (pl b L p))), .int (nI (1)), xj, xj]) (st' := []) (M' := ((rw2 (rw2 (rw2 (rw2 (rw2 I 99 45 (nI (pl b L p))) 99 46 (nI (0))) 99 47 (nI (0))) 99 46 (nI (b (pl b L p)))) 99 44 (nI (pl b L p + 1))), J, Rx R, N, G)) rfl ?_
          first | (exfalso; omega) | exact XP_ret rfl ⟨rfl, _, rfl, ⟨⟨hT.1, hT.2⟩, by rw [en]; rfl, by first | rfl | exact h44, by rw [et]; rfl, fun z => by omega, fun k hk z => by have := tw_9 k hk; omega⟩, fun k hk => by simp only [rw2_ro hk], fun j hj => by simp only [rw2_c]; repeat rw [if_neg (by omega)]⟩
        · refine XP_n 2 (pc' := 171) (ls' := [.ref (99), .int (nI (b (pl b L p))), xj, xj, xj]) (st' := [.int (nI (43)), .int (nI (b (pl b L p)))]) (M' := ((rw2 (rw2 (rw2 I 99 45 (nI (pl b L p))) 99 46 (nI (0))) 99 47 (nI (0))), J, Rx R, N, G)) rfl ?_
          refine XP_icN (x := b (pl b L p)) (y := 43) rfl (by omega) (by omega) (fun (b171 : b (pl b L p) = 43) => ?_) (fun (b171 : ¬ b (pl b L p) = 43) => ?_)
          · refine XP_n 5 (pc' := 190) (ls' := [.ref (99), .int (nI (b (pl b L p))), .int (nI (1)), xj, xj]) (st' := [.int (nI (1)), .ref (99)]) (M' := ((rw2 (rw2 (rw2 I 99 45 (nI (pl b L p))) 99 46 (nI (0))) 99 47 (nI (0))), J, Rx R, N, G)) rfl ?_
            refine XP_ifN (x := 1)  rfl (by omega) (fun (b190 : 1 = 0) => absurd b190 (by omega)) (fun (b190 : ¬ 1 = 0) => ?_)
            refine XP_n 6 (pc' := 198) (ls' := [.ref (99), .int (nI (b (pl b L p))), .int (nI (1)), xj, xj]) (st' := [.int (I 99 44), .ref (99)]) (M' := ((rw2 (rw2 (rw2 (rw2 I 99 45 (nI (pl b L p))) 99 46 (nI (0))) 99 47 (nI (0))) 99 46 (nI (b (pl b L p)))), J, Rx R, N, G)) rfl ?_
            rw [h44]
            refine XP_n 2 (pc' := 200) (ls' := [.ref (99), .int (nI (b (pl b L p))), .int (nI (1)), xj, xj]) (st' := [.int ((nI (pl b L p)) + (nI (1))), .ref (99)]) (M' := ((rw2 (rw2 (rw2 (rw2 I 99 45 (nI (pl b L p))) 99 46 (nI (0))) 99 47 (nI (0))) 99 46 (nI (b (pl b L p)))), J, Rx R, N, G)) rfl ?_
            rw [show (nI (pl b L p)) + (nI (1)) = nI (pl b L p + 1) from nI_addE (rfl) (rfl)]
            refine XP_n 1 (pc' := 201) (ls' := [.ref (99), .int (nI (b (pl b L p))), .int (nI (1)), xj, xj]) (st' := []) (M' := ((rw2 (rw2 (rw2 (rw2 (rw2 I 99 45 (nI (pl b L p))) 99 46 (nI (0))) 99 47 (nI (0))) 99 46 (nI (b (pl b L p)))) 99 44 (nI (pl b L p + 1))), J, Rx R, N, G)) rfl ?_
            first | (exfalso; omega) | exact XP_ret rfl ⟨rfl, _, rfl, ⟨⟨hT.1, hT.2⟩, by rw [en]; rfl, by first | rfl | exact h44, by rw [et]; rfl, fun z => by omega, fun k hk z => by have := tw_9 k hk; omega⟩, fun k hk => by simp only [rw2_ro hk], fun j hj => by simp only [rw2_c]; repeat rw [if_neg (by omega)]⟩
          · refine XP_n 2 (pc' := 174) (ls' := [.ref (99), .int (nI (b (pl b L p))), xj, xj, xj]) (st' := [.int (nI (45)), .int (nI (b (pl b L p)))]) (M' := ((rw2 (rw2 (rw2 I 99 45 (nI (pl b L p))) 99 46 (nI (0))) 99 47 (nI (0))), J, Rx R, N, G)) rfl ?_
            refine XP_icN (x := b (pl b L p)) (y := 45) rfl (by omega) (by omega) (fun (b174 : b (pl b L p) = 45) => ?_) (fun (b174 : ¬ b (pl b L p) = 45) => ?_)
            · refine XP_n 5 (pc' := 190) (ls' := [.ref (99), .int (nI (b (pl b L p))), .int (nI (1)), xj, xj]) (st' := [.int (nI (1)), .ref (99)]) (M' := ((rw2 (rw2 (rw2 I 99 45 (nI (pl b L p))) 99 46 (nI (0))) 99 47 (nI (0))), J, Rx R, N, G)) rfl ?_
              refine XP_ifN (x := 1)  rfl (by omega) (fun (b190 : 1 = 0) => absurd b190 (by omega)) (fun (b190 : ¬ 1 = 0) => ?_)
              refine XP_n 6 (pc' := 198) (ls' := [.ref (99), .int (nI (b (pl b L p))), .int (nI (1)), xj, xj]) (st' := [.int (I 99 44), .ref (99)]) (M' := ((rw2 (rw2 (rw2 (rw2 I 99 45 (nI (pl b L p))) 99 46 (nI (0))) 99 47 (nI (0))) 99 46 (nI (b (pl b L p)))), J, Rx R, N, G)) rfl ?_
              rw [h44]
              refine XP_n 2 (pc' := 200) (ls' := [.ref (99), .int (nI (b (pl b L p))), .int (nI (1)), xj, xj]) (st' := [.int ((nI (pl b L p)) + (nI (1))), .ref (99)]) (M' := ((rw2 (rw2 (rw2 (rw2 I 99 45 (nI (pl b L p))) 99 46 (nI (0))) 99 47 (nI (0))) 99 46 (nI (b (pl b L p)))), J, Rx R, N, G)) rfl ?_
              rw [show (nI (pl b L p)) + (nI (1)) = nI (pl b L p + 1) from nI_addE (rfl) (rfl)]
              refine XP_n 1 (pc' := 201) (ls' := [.ref (99), .int (nI (b (pl b L p))), .int (nI (1)), xj, xj]) (st' := []) (M' := ((rw2 (rw2 (rw2 (rw2 (rw2 I 99 45 (nI (pl b L p))) 99 46 (nI (0))) 99 47 (nI (0))) 99 46 (nI (b (pl b L p)))) 99 44 (nI (pl b L p + 1))), J, Rx R, N, G)) rfl ?_
              first | (exfalso; omega) | exact XP_ret rfl ⟨rfl, _, rfl, ⟨⟨hT.1, hT.2⟩, by rw [en]; rfl, by first | rfl | exact h44, by rw [et]; rfl, fun z => by omega, fun k hk z => by have := tw_9 k hk; omega⟩, fun k hk => by simp only [rw2_ro hk], fun j hj => by simp only [rw2_c]; repeat rw [if_neg (by omega)]⟩
            · refine XP_n 2 (pc' := 177) (ls' := [.ref (99), .int (nI (b (pl b L p))), xj, xj, xj]) (st' := [.int (nI (42)), .int (nI (b (pl b L p)))]) (M' := ((rw2 (rw2 (rw2 I 99 45 (nI (pl b L p))) 99 46 (nI (0))) 99 47 (nI (0))), J, Rx R, N, G)) rfl ?_
              refine XP_icN (x := b (pl b L p)) (y := 42) rfl (by omega) (by omega) (fun (b177 : b (pl b L p) = 42) => ?_) (fun (b177 : ¬ b (pl b L p) = 42) => ?_)
              · refine XP_n 5 (pc' := 190) (ls' := [.ref (99), .int (nI (b (pl b L p))), .int (nI (1)), xj, xj]) (st' := [.int (nI (1)), .ref (99)]) (M' := ((rw2 (rw2 (rw2 I 99 45 (nI (pl b L p))) 99 46 (nI (0))) 99 47 (nI (0))), J, Rx R, N, G)) rfl ?_
                refine XP_ifN (x := 1)  rfl (by omega) (fun (b190 : 1 = 0) => absurd b190 (by omega)) (fun (b190 : ¬ 1 = 0) => ?_)
                refine XP_n 6 (pc' := 198) (ls' := [.ref (99), .int (nI (b (pl b L p))), .int (nI (1)), xj, xj]) (st' := [.int (I 99 44), .ref (99)]) (M' := ((rw2 (rw2 (rw2 (rw2 I 99 45 (nI (pl b L p))) 99 46 (nI (0))) 99 47 (nI (0))) 99 46 (nI (b (pl b L p)))), J, Rx R, N, G)) rfl ?_
                rw [h44]
                refine XP_n 2 (pc' := 200) (ls' := [.ref (99), .int (nI (b (pl b L p))), .int (nI (1)), xj, xj]) (st' := [.int ((nI (pl b L p)) + (nI (1))), .ref (99)]) (M' := ((rw2 (rw2 (rw2 (rw2 I 99 45 (nI (pl b L p))) 99 46 (nI (0))) 99 47 (nI (0))) 99 46 (nI (b (pl b L p)))), J, Rx R, N, G)) rfl ?_
                rw [show (nI (pl b L p)) + (nI (1)) = nI (pl b L p + 1) from nI_addE (rfl) (rfl)]
                refine XP_n 1 (pc' := 201) (ls' := [.ref (99), .int (nI (b (pl b L p))), .int (nI (1)), xj, xj]) (st' := []) (M' := ((rw2 (rw2 (rw2 (rw2 (rw2 I 99 45 (nI (pl b L p))) 99 46 (nI (0))) 99 47 (nI (0))) 99 46 (nI (b (pl b L p)))) 99 44 (nI (pl b L p + 1))), J, Rx R, N, G)) rfl ?_
                first | (exfalso; omega) | exact XP_ret rfl ⟨rfl, _, rfl, ⟨⟨hT.1, hT.2⟩, by rw [en]; rfl, by first | rfl | exact h44, by rw [et]; rfl, fun z => by omega, fun k hk z => by have := tw_9 k hk; omega⟩, fun k hk => by simp only [rw2_ro hk], fun j hj => by simp only [rw2_c]; repeat rw [if_neg (by omega)]⟩
              · refine XP_n 2 (pc' := 180) (ls' := [.ref (99), .int (nI (b (pl b L p))), xj, xj, xj]) (st' := [.int (nI (60)), .int (nI (b (pl b L p)))]) (M' := ((rw2 (rw2 (rw2 I 99 45 (nI (pl b L p))) 99 46 (nI (0))) 99 47 (nI (0))), J, Rx R, N, G)) rfl ?_
                refine XP_icN (x := b (pl b L p)) (y := 60) rfl (by omega) (by omega) (fun (b180 : b (pl b L p) = 60) => ?_) (fun (b180 : ¬ b (pl b L p) = 60) => ?_)
                · refine XP_n 5 (pc' := 190) (ls' := [.ref (99), .int (nI (b (pl b L p))), .int (nI (1)), xj, xj]) (st' := [.int (nI (1)), .ref (99)]) (M' := ((rw2 (rw2 (rw2 I 99 45 (nI (pl b L p))) 99 46 (nI (0))) 99 47 (nI (0))), J, Rx R, N, G)) rfl ?_
                  refine XP_ifN (x := 1)  rfl (by omega) (fun (b190 : 1 = 0) => absurd b190 (by omega)) (fun (b190 : ¬ 1 = 0) => ?_)
                  refine XP_n 6 (pc' := 198) (ls' := [.ref (99), .int (nI (b (pl b L p))), .int (nI (1)), xj, xj]) (st' := [.int (I 99 44), .ref (99)]) (M' := ((rw2 (rw2 (rw2 (rw2 I 99 45 (nI (pl b L p))) 99 46 (nI (0))) 99 47 (nI (0))) 99 46 (nI (b (pl b L p)))), J, Rx R, N, G)) rfl ?_
                  rw [h44]
                  refine XP_n 2 (pc' := 200) (ls' := [.ref (99), .int (nI (b (pl b L p))), .int (nI (1)), xj, xj]) (st' := [.int ((nI (pl b L p)) + (nI (1))), .ref (99)]) (M' := ((rw2 (rw2 (rw2 (rw2 I 99 45 (nI (pl b L p))) 99 46 (nI (0))) 99 47 (nI (0))) 99 46 (nI (b (pl b L p)))), J, Rx R, N, G)) rfl ?_
                  rw [show (nI (pl b L p)) + (nI (1)) = nI (pl b L p + 1) from nI_addE (rfl) (rfl)]
                  refine XP_n 1 (pc' := 201) (ls' := [.ref (99), .int (nI (b (pl b L p))), .int (nI (1)), xj, xj]) (st' := []) (M' := ((rw2 (rw2 (rw2 (rw2 (rw2 I 99 45 (nI (pl b L p))) 99 46 (nI (0))) 99 47 (nI (0))) 99 46 (nI (b (pl b L p)))) 99 44 (nI (pl b L p + 1))), J, Rx R, N, G)) rfl ?_
                  first | (exfalso; omega) | exact XP_ret rfl ⟨rfl, _, rfl, ⟨⟨hT.1, hT.2⟩, by rw [en]; rfl, by first | rfl | exact h44, by rw [et]; rfl, fun z => by omega, fun k hk z => by have := tw_9 k hk; omega⟩, fun k hk => by simp only [rw2_ro hk], fun j hj => by simp only [rw2_c]; repeat rw [if_neg (by omega)]⟩
                · refine XP_n 2 (pc' := 183) (ls' := [.ref (99), .int (nI (b (pl b L p))), xj, xj, xj]) (st' := [.int (nI (61)), .int (nI (b (pl b L p)))]) (M' := ((rw2 (rw2 (rw2 I 99 45 (nI (pl b L p))) 99 46 (nI (0))) 99 47 (nI (0))), J, Rx R, N, G)) rfl ?_
                  refine XP_icN (x := b (pl b L p)) (y := 61) rfl (by omega) (by omega) (fun (b183 : ¬ b (pl b L p) = 61) => ?_) (fun (b183 : b (pl b L p) = 61) => ?_)
                  · refine XP_n 4 (pc' := 190) (ls' := [.ref (99), .int (nI (b (pl b L p))), .int (nI (0)), xj, xj]) (st' := [.int (nI (0)), .ref (99)]) (M' := ((rw2 (rw2 (rw2 I 99 45 (nI (pl b L p))) 99 46 (nI (0))) 99 47 (nI (0))), J, Rx R, N, G)) rfl ?_
                    refine XP_ifN (x := 0)  rfl (by omega) (fun (b190 : 0 = 0) => ?_) (fun (b190 : ¬ 0 = 0) => absurd b190 (by omega))
                    refine XP_n 5 (pc' := 198) (ls' := [.ref (99), .int (nI (b (pl b L p))), .int (nI (0)), xj, xj]) (st' := [.int (I 99 44), .ref (99)]) (M' := ((rw2 (rw2 (rw2 (rw2 I 99 45 (nI (pl b L p))) 99 46 (nI (0))) 99 47 (nI (0))) 99 46 (cI (-1))), J, Rx R, N, G)) rfl ?_
                    rw [h44]
                    refine XP_n 2 (pc' := 200) (ls' := [.ref (99), .int (nI (b (pl b L p))), .int (nI (0)), xj, xj]) (st' := [.int ((nI (pl b L p)) + (nI (1))), .ref (99)]) (M' := ((rw2 (rw2 (rw2 (rw2 I 99 45 (nI (pl b L p))) 99 46 (nI (0))) 99 47 (nI (0))) 99 46 (cI (-1))), J, Rx R, N, G)) rfl ?_
                    rw [show (nI (pl b L p)) + (nI (1)) = nI (pl b L p + 1) from nI_addE (rfl) (rfl)]
                    refine XP_n 1 (pc' := 201) (ls' := [.ref (99), .int (nI (b (pl b L p))), .int (nI (0)), xj, xj]) (st' := []) (M' := ((rw2 (rw2 (rw2 (rw2 (rw2 I 99 45 (nI (pl b L p))) 99 46 (nI (0))) 99 47 (nI (0))) 99 46 (cI (-1))) 99 44 (nI (pl b L p + 1))), J, Rx R, N, G)) rfl ?_
                    first | (exfalso; omega) | exact XP_ret rfl ⟨rfl, _, rfl, ⟨⟨hT.1, hT.2⟩, by rw [en]; rfl, by first | rfl | exact h44, by rw [et]; rfl, fun z => by omega, fun k hk z => by have := tw_9 k hk; omega⟩, fun k hk => by simp only [rw2_ro hk], fun j hj => by simp only [rw2_c]; repeat rw [if_neg (by omega)]⟩
                  · refine XP_n 5 (pc' := 190) (ls' := [.ref (99), .int (nI (b (pl b L p))), .int (nI (1)), xj, xj]) (st' := [.int (nI (1)), .ref (99)]) (M' := ((rw2 (rw2 (rw2 I 99 45 (nI (pl b L p))) 99 46 (nI (0))) 99 47 (nI (0))), J, Rx R, N, G)) rfl ?_
                    refine XP_ifN (x := 1)  rfl (by omega) (fun (b190 : 1 = 0) => absurd b190 (by omega)) (fun (b190 : ¬ 1 = 0) => ?_)
                    refine XP_n 6 (pc' := 198) (ls' := [.ref (99), .int (nI (b (pl b L p))), .int (nI (1)), xj, xj]) (st' := [.int (I 99 44), .ref (99)]) (M' := ((rw2 (rw2 (rw2 (rw2 I 99 45 (nI (pl b L p))) 99 46 (nI (0))) 99 47 (nI (0))) 99 46 (nI (b (pl b L p)))), J, Rx R, N, G)) rfl ?_
                    rw [h44]
                    refine XP_n 2 (pc' := 200) (ls' := [.ref (99), .int (nI (b (pl b L p))), .int (nI (1)), xj, xj]) (st' := [.int ((nI (pl b L p)) + (nI (1))), .ref (99)]) (M' := ((rw2 (rw2 (rw2 (rw2 I 99 45 (nI (pl b L p))) 99 46 (nI (0))) 99 47 (nI (0))) 99 46 (nI (b (pl b L p)))), J, Rx R, N, G)) rfl ?_
                    rw [show (nI (pl b L p)) + (nI (1)) = nI (pl b L p + 1) from nI_addE (rfl) (rfl)]
                    refine XP_n 1 (pc' := 201) (ls' := [.ref (99), .int (nI (b (pl b L p))), .int (nI (1)), xj, xj]) (st' := []) (M' := ((rw2 (rw2 (rw2 (rw2 (rw2 I 99 45 (nI (pl b L p))) 99 46 (nI (0))) 99 47 (nI (0))) 99 46 (nI (b (pl b L p)))) 99 44 (nI (pl b L p + 1))), J, Rx R, N, G)) rfl ?_
                    first | (exfalso; omega) | exact XP_ret rfl ⟨rfl, _, rfl, ⟨⟨hT.1, hT.2⟩, by rw [en]; rfl, by first | rfl | exact h44, by rw [et]; rfl, fun z => by omega, fun k hk z => by have := tw_9 k hk; omega⟩, fun k hk => by simp only [rw2_ro hk], fun j hj => by simp only [rw2_c]; repeat rw [if_neg (by omega)]⟩
theorem l_M_blk (hT : TpM I b L) (hL : L ≤ 160) (hb : ∀ i, i < L → b i ≤ 255) (hD : WD J) {p : Nat} (hp : p ≤ L) : ∀ (n i : Nat), L - i = n → i ≤ L → scn isBl b L i = pl b L p → XP X (d + 2) k_M_next 0 [.ref 99, xj, xj, xj, xj] [] (rw2 I 99 44 (nI i), J, Rx R, N, G) (fun v M' => v = none ∧ ∃ I', M' = (I', J, Rx R, N, G) ∧ CurM b L I' p ∧ (∀ k, k ≠ 99 → I' k = I k) ∧ ∀ j, j < 44 ∨ 47 < j → I' 99 j = I 99 j) := by
  intro n
  have l26 : XP X (d + 2) k_M_next 26 [.ref 99, xj, xj, xj, xj] [] (rw2 I 99 44 (nI (pl b L p)), J, Rx R, N, G) (fun v M' => v = none ∧ ∃ I', M' = (I', J, Rx R, N, G) ∧ CurM b L I' p ∧ (∀ k, k ≠ 99 → I' k = I k) ∧ ∀ j, j < 44 ∨ 47 < j → I' 99 j = I 99 j) := by
    refine XP_mono (l_M_next26 (I := rw2 I 99 44 (nI (pl b L p))) ⟨hT.1, hT.2⟩ hL hb hD hp rfl) ?_
    rintro v M' ⟨e1, I', e2, e3, e4, e5⟩
    exact ⟨e1, I', e2, e3, fun k hk => (e4 k hk).trans (rw2_ro hk), fun j hj => (e5 j hj).trans (by rw [rw2_c, if_neg (by omega)])⟩
  induction n with
  | zero =>
    intro i hn hi hs
    have e0 : i = L := by omega
    rw [scn_f (by omega)] at hs
    rw [← hs] at l26
    refine XP_n 4 (pc' := 4) (ls' := [.ref (99), xj, xj, xj, xj]) (st' := [.int (I 99 27), .int (nI (i))]) (M' := ((rw2 I 99 44 (nI (i))), J, Rx R, N, G)) rfl ?_
    rw [hT.1]
    refine XP_icN (x := i) (y := L) rfl (by omega) (by omega) (fun (b4 : L ≤ i) => ?_) (fun (b4 : i < L) => absurd b4 (by omega))
    exact l26
  | succ n ih =>
    intro i hn hi hs
    have hbi := hb i (by omega)
    by_cases g : isBl (b i) = true
    · rw [scn_t (by omega) g] at hs
      have gb : b i = 32 ∨ b i = 10 := by
        unfold isBl at g
        simpa [Nat.beq_eq] using g
      by_cases g1 : b i = 32
      · skip
        refine XP_n 4 (pc' := 4) (ls' := [.ref (99), xj, xj, xj, xj]) (st' := [.int (I 99 27), .int (nI (i))]) (M' := ((rw2 I 99 44 (nI (i))), J, Rx R, N, G)) rfl ?_
        rw [hT.1]
        refine XP_icN (x := i) (y := L) rfl (by omega) (by omega) (fun (b4 : L ≤ i) => absurd b4 (by omega)) (fun (b4 : i < L) => ?_)
        refine XP_n 4 (pc' := 9) (ls' := [.ref (99), xj, xj, xj, xj]) (st' := [.int (nI (i)), .ref (116)]) (M' := ((rw2 I 99 44 (nI (i))), J, Rx R, N, G)) rfl ?_
        refine XP_iraw rfl rfl (show i < 160 by omega) rfl (by omega) ?_
        rw [show (rw2 I 99 44 (nI (i))) 116 i = nI (b (i)) from hT.2 i (by omega)]
        refine XP_n 1 (pc' := 11) (ls' := [.ref (99), xj, xj, xj, xj]) (st' := [.int (nI (32)), .int (nI (b (i)))]) (M' := ((rw2 I 99 44 (nI (i))), J, Rx R, N, G)) rfl ?_
        refine XP_icN (x := b (i)) (y := 32) rfl (by omega) (by omega) (fun (b11 : b (i) = 32) => ?_) (fun (b11 : ¬ b (i) = 32) => absurd b11 (by omega))
        refine XP_n 5 (pc' := 24) (ls' := [.ref (99), xj, xj, xj, xj]) (st' := [.int ((nI (i)) + (nI (1))), .ref (99)]) (M' := ((rw2 I 99 44 (nI (i))), J, Rx R, N, G)) rfl ?_
        rw [show (nI (i)) + (nI (1)) = nI (i + 1) from nI_addE (rfl) (rfl)]
        refine XP_n 2 (pc' := 0) (ls' := [.ref (99), xj, xj, xj, xj]) (st' := []) (M' := ((rw2 (rw2 I 99 44 (nI (i))) 99 44 (nI (i + 1))), J, Rx R, N, G)) rfl ?_
        rw [rw2_2]
        exact ih (i + 1) (by omega) (by omega) hs
      · have g2 : b i = 10 := by omega
        refine XP_n 4 (pc' := 4) (ls' := [.ref (99), xj, xj, xj, xj]) (st' := [.int (I 99 27), .int (nI (i))]) (M' := ((rw2 I 99 44 (nI (i))), J, Rx R, N, G)) rfl ?_
        rw [hT.1]
        refine XP_icN (x := i) (y := L) rfl (by omega) (by omega) (fun (b4 : L ≤ i) => absurd b4 (by omega)) (fun (b4 : i < L) => ?_)
        refine XP_n 4 (pc' := 9) (ls' := [.ref (99), xj, xj, xj, xj]) (st' := [.int (nI (i)), .ref (116)]) (M' := ((rw2 I 99 44 (nI (i))), J, Rx R, N, G)) rfl ?_
        refine XP_iraw rfl rfl (show i < 160 by omega) rfl (by omega) ?_
        rw [show (rw2 I 99 44 (nI (i))) 116 i = nI (b (i)) from hT.2 i (by omega)]
        refine XP_n 1 (pc' := 11) (ls' := [.ref (99), xj, xj, xj, xj]) (st' := [.int (nI (32)), .int (nI (b (i)))]) (M' := ((rw2 I 99 44 (nI (i))), J, Rx R, N, G)) rfl ?_
        refine XP_icN (x := b (i)) (y := 32) rfl (by omega) (by omega) (fun (b11 : b (i) = 32) => absurd b11 (by omega)) (fun (b11 : ¬ b (i) = 32) => ?_)
        refine XP_n 4 (pc' := 16) (ls' := [.ref (99), xj, xj, xj, xj]) (st' := [.int (nI (i)), .ref (116)]) (M' := ((rw2 I 99 44 (nI (i))), J, Rx R, N, G)) rfl ?_
        refine XP_iraw rfl rfl (show i < 160 by omega) rfl (by omega) ?_
        rw [show (rw2 I 99 44 (nI (i))) 116 i = nI (b (i)) from hT.2 i (by omega)]
        refine XP_n 1 (pc' := 18) (ls' := [.ref (99), xj, xj, xj, xj]) (st' := [.int (nI (10)), .int (nI (b (i)))]) (M' := ((rw2 I 99 44 (nI (i))), J, Rx R, N, G)) rfl ?_
        refine XP_icN (x := b (i)) (y := 10) rfl (by omega) (by omega) (fun (b18 : ¬ b (i) = 10) => absurd b18 (by omega)) (fun (b18 : b (i) = 10) => ?_)
        refine XP_n 5 (pc' := 24) (ls' := [.ref (99), xj, xj, xj, xj]) (st' := [.int ((nI (i)) + (nI (1))), .ref (99)]) (M' := ((rw2 I 99 44 (nI (i))), J, Rx R, N, G)) rfl ?_
        rw [show (nI (i)) + (nI (1)) = nI (i + 1) from nI_addE (rfl) (rfl)]
        refine XP_n 2 (pc' := 0) (ls' := [.ref (99), xj, xj, xj, xj]) (st' := []) (M' := ((rw2 (rw2 I 99 44 (nI (i))) 99 44 (nI (i + 1))), J, Rx R, N, G)) rfl ?_
        rw [rw2_2]
        exact ih (i + 1) (by omega) (by omega) hs
    · have gb : b i ≠ 32 ∧ b i ≠ 10 := by
        unfold isBl at g
        simpa [Nat.beq_eq] using g
      rw [scn_f (fun z => g z.2)] at hs
      rw [← hs] at l26
      refine XP_n 4 (pc' := 4) (ls' := [.ref (99), xj, xj, xj, xj]) (st' := [.int (I 99 27), .int (nI (i))]) (M' := ((rw2 I 99 44 (nI (i))), J, Rx R, N, G)) rfl ?_
      rw [hT.1]
      refine XP_icN (x := i) (y := L) rfl (by omega) (by omega) (fun (b4 : L ≤ i) => absurd b4 (by omega)) (fun (b4 : i < L) => ?_)
      refine XP_n 4 (pc' := 9) (ls' := [.ref (99), xj, xj, xj, xj]) (st' := [.int (nI (i)), .ref (116)]) (M' := ((rw2 I 99 44 (nI (i))), J, Rx R, N, G)) rfl ?_
      refine XP_iraw rfl rfl (show i < 160 by omega) rfl (by omega) ?_
      rw [show (rw2 I 99 44 (nI (i))) 116 i = nI (b (i)) from hT.2 i (by omega)]
      refine XP_n 1 (pc' := 11) (ls' := [.ref (99), xj, xj, xj, xj]) (st' := [.int (nI (32)), .int (nI (b (i)))]) (M' := ((rw2 I 99 44 (nI (i))), J, Rx R, N, G)) rfl ?_
      refine XP_icN (x := b (i)) (y := 32) rfl (by omega) (by omega) (fun (b11 : b (i) = 32) => absurd b11 (by omega)) (fun (b11 : ¬ b (i) = 32) => ?_)
      refine XP_n 4 (pc' := 16) (ls' := [.ref (99), xj, xj, xj, xj]) (st' := [.int (nI (i)), .ref (116)]) (M' := ((rw2 I 99 44 (nI (i))), J, Rx R, N, G)) rfl ?_
      refine XP_iraw rfl rfl (show i < 160 by omega) rfl (by omega) ?_
      rw [show (rw2 I 99 44 (nI (i))) 116 i = nI (b (i)) from hT.2 i (by omega)]
      refine XP_n 1 (pc' := 18) (ls' := [.ref (99), xj, xj, xj, xj]) (st' := [.int (nI (10)), .int (nI (b (i)))]) (M' := ((rw2 I 99 44 (nI (i))), J, Rx R, N, G)) rfl ?_
      refine XP_icN (x := b (i)) (y := 10) rfl (by omega) (by omega) (fun (b18 : ¬ b (i) = 10) => ?_) (fun (b18 : b (i) = 10) => absurd b18 (by omega))
      exact l26
theorem c_next (hT : TpM I b L) (hL : L ≤ 160) (hb : ∀ i, i < L → b i ≤ 255) (hD : WD J) {p : Nat} (hp : p ≤ L) (h44 : I 99 44 = nI p) : TP X (d + 2) n_M_next [.ref 99] (I, J, Rx R, N, G) (fun v M' => v = none ∧ ∃ I', M' = (I', J, Rx R, N, G) ∧ CurM b L I' p ∧ (∀ k, k ≠ 99 → I' k = I k) ∧ ∀ j, j < 44 ∨ 47 < j → I' 99 j = I 99 j) := by
  unfold TP
  show XP X _ k_M_next 0 [.ref (99), xj, xj, xj, xj] [] _ _
  have h := l_M_blk (X := X) (d := d) (R := R) (N := N) (G := G) hT hL hb hD hp _ p rfl hp rfl
  rw [← h44, rw2_self] at h
  exact h
end
