/-! the class's reading of an expression: sums, comparisons, whole -/
section
variable {X : hX} {d : Nat} {s I : Nat → Nat → Int32} {J : Nat → Nat → Int64} {R : Nat → Nat → Option Nat} {N : Nat → Nat} {G : hG} {b : Nat → Nat} {L : Nat}
theorem l_isSum (hL : L ≤ 160) (hb : ∀ i, i < L → b i ≤ 255) {e o : Nat} (sub : CX b L n_Reader_isTerm 6 6 13 e o false) {D : Nat} (hD : 13 + 7 * e ≤ D) {h u : List Nat} {m : Bool} {p : Nat} (hu : u.length ≤ p) (ho : cnt h = o) (ho5 : o ≤ 5) (hlw : lowB 5 h = true) : ∀ (n i : Nat) (u1 : List Nat) (p1 : Nat) (ha ua : List Nat) (I1 : Nat → Nat → Int32) (x3 : Value), L - p1 ≤ n → i ≤ p1 → Cur b L I1 p1 → Sg I1 u1 → (∀ k, k ≠ 9 → k ≠ 11 → I1 k = I k) → I1 9 1 = I 9 1 → Ok0 b L 5 h u m p u1 p1 ha ua → NX 6 (tk b L p1) → XP X (D + 1) k_Reader_isSum 8 [.ref 9, .int (nI o), .int (nI i), x3] [] (I1, J, Rx R, N, G) (QX b L 5 h u m p I J R N G) := by
  obtain ⟨D, rfl⟩ : ∃ D0, D = D0 + 12 := ⟨D - 12, by omega⟩
  intro n
  induction n with
  | zero =>
    intro i u1 p1 ha ua I1 x3 hn1 hi hC hS hf hz k1 hn
    have hr := tk_rg (b := b) (L := L) p1
    have hbd := k1.bnd
    have hp1 := hbd.1
    have hpl := pl_le (b := b) (L := L) p1
    have g : ¬ (tk b L p1 = 43 ∨ tk b L p1 = 45) := fun z => by
      have := (tk_nx (b := b) (L := L) (p := p1) (by omega)).2
      omega
    refine XP_n 2 (pc' := 10) (ls' := [.ref (9), .int (nI (o)), .int (nI (i)), x3]) (st' := [.int (nI (160)), .int (nI (i))]) (M' := (I1, J, Rx R, N, G)) rfl ?_
    refine XP_icN (x := i) (y := 160) rfl (by omega) (by omega) (fun (b10 : 160 ≤ i) => ?_) (fun (b10 : i < 160) => ?_)
    · refine XP_n 1 (pc' := 41) (ls' := [.ref (9), .int (nI (o)), .int (nI (i)), x3]) (st' := [.int (nI (1))]) (M' := (I1, J, Rx R, N, G)) rfl ?_
      exact XP_ret rfl ⟨_, rfl, hf, hz, Or.inl ⟨_, _, rfl, hC, hS, _, _, k1, ⟨fun _ => hn.1 (by omega), fun _ => ⟨by omega, by omega⟩, fun z => absurd z (by omega), fun z => absurd z (by omega)⟩, fun z => absurd z (by omega)⟩⟩
    · refine XP_n 2 (pc' := 13) (ls' := [.ref (9), .int (nI (o)), .int (nI (i)), x3]) (st' := [.int (I1 9 3)]) (M' := (I1, J, Rx R, N, G)) rfl ?_
      rw [hC.2.2.1]
      refine XP_n 1 (pc' := 14) (ls' := [.ref (9), .int (nI (o)), .int (nI (i)), x3]) (st' := [.int (nI (43)), .int (nI (tk b L p1))]) (M' := (I1, J, Rx R, N, G)) rfl ?_
      refine XP_icN (x := tk b L p1) (y := 43) rfl (by omega) (by omega) (fun (b14 : tk b L p1 = 43) => absurd b14 (by omega)) (fun (b14 : ¬ tk b L p1 = 43) => ?_)
      refine XP_n 2 (pc' := 17) (ls' := [.ref (9), .int (nI (o)), .int (nI (i)), x3]) (st' := [.int (I1 9 3)]) (M' := (I1, J, Rx R, N, G)) rfl ?_
      rw [hC.2.2.1]
      refine XP_n 1 (pc' := 18) (ls' := [.ref (9), .int (nI (o)), .int (nI (i)), x3]) (st' := [.int (nI (45)), .int (nI (tk b L p1))]) (M' := (I1, J, Rx R, N, G)) rfl ?_
      refine XP_icN (x := tk b L p1) (y := 45) rfl (by omega) (by omega) (fun (b18 : ¬ tk b L p1 = 45) => ?_) (fun (b18 : tk b L p1 = 45) => absurd b18 (by omega))
      refine XP_n 1 (pc' := 41) (ls' := [.ref (9), .int (nI (o)), .int (nI (i)), x3]) (st' := [.int (nI (1))]) (M' := (I1, J, Rx R, N, G)) rfl ?_
      exact XP_ret rfl ⟨_, rfl, hf, hz, Or.inl ⟨_, _, rfl, hC, hS, _, _, k1, ⟨fun _ => hn.1 (by omega), fun _ => ⟨by omega, by omega⟩, fun z => absurd z (by omega), fun z => absurd z (by omega)⟩, fun z => absurd z (by omega)⟩⟩
  | succ n ih =>
    intro i u1 p1 ha ua I1 x3 hn1 hi hC hS hf hz k1 hn
    have hr := tk_rg (b := b) (L := L) p1
    have hbd := k1.bnd
    have hp1 := hbd.1
    have hpl := pl_le (b := b) (L := L) p1
    by_cases g : tk b L p1 = 43 ∨ tk b L p1 = 45
    rotate_left
    · skip
      refine XP_n 2 (pc' := 10) (ls' := [.ref (9), .int (nI (o)), .int (nI (i)), x3]) (st' := [.int (nI (160)), .int (nI (i))]) (M' := (I1, J, Rx R, N, G)) rfl ?_
      refine XP_icN (x := i) (y := 160) rfl (by omega) (by omega) (fun (b10 : 160 ≤ i) => ?_) (fun (b10 : i < 160) => ?_)
      · refine XP_n 1 (pc' := 41) (ls' := [.ref (9), .int (nI (o)), .int (nI (i)), x3]) (st' := [.int (nI (1))]) (M' := (I1, J, Rx R, N, G)) rfl ?_
        exact XP_ret rfl ⟨_, rfl, hf, hz, Or.inl ⟨_, _, rfl, hC, hS, _, _, k1, ⟨fun _ => hn.1 (by omega), fun _ => ⟨by omega, by omega⟩, fun z => absurd z (by omega), fun z => absurd z (by omega)⟩, fun z => absurd z (by omega)⟩⟩
      · refine XP_n 2 (pc' := 13) (ls' := [.ref (9), .int (nI (o)), .int (nI (i)), x3]) (st' := [.int (I1 9 3)]) (M' := (I1, J, Rx R, N, G)) rfl ?_
        rw [hC.2.2.1]
        refine XP_n 1 (pc' := 14) (ls' := [.ref (9), .int (nI (o)), .int (nI (i)), x3]) (st' := [.int (nI (43)), .int (nI (tk b L p1))]) (M' := (I1, J, Rx R, N, G)) rfl ?_
        refine XP_icN (x := tk b L p1) (y := 43) rfl (by omega) (by omega) (fun (b14 : tk b L p1 = 43) => absurd b14 (by omega)) (fun (b14 : ¬ tk b L p1 = 43) => ?_)
        refine XP_n 2 (pc' := 17) (ls' := [.ref (9), .int (nI (o)), .int (nI (i)), x3]) (st' := [.int (I1 9 3)]) (M' := (I1, J, Rx R, N, G)) rfl ?_
        rw [hC.2.2.1]
        refine XP_n 1 (pc' := 18) (ls' := [.ref (9), .int (nI (o)), .int (nI (i)), x3]) (st' := [.int (nI (45)), .int (nI (tk b L p1))]) (M' := (I1, J, Rx R, N, G)) rfl ?_
        refine XP_icN (x := tk b L p1) (y := 45) rfl (by omega) (by omega) (fun (b18 : ¬ tk b L p1 = 45) => ?_) (fun (b18 : tk b L p1 = 45) => absurd b18 (by omega))
        refine XP_n 1 (pc' := 41) (ls' := [.ref (9), .int (nI (o)), .int (nI (i)), x3]) (st' := [.int (nI (1))]) (M' := (I1, J, Rx R, N, G)) rfl ?_
        exact XP_ret rfl ⟨_, rfl, hf, hz, Or.inl ⟨_, _, rfl, hC, hS, _, _, k1, ⟨fun _ => hn.1 (by omega), fun _ => ⟨by omega, by omega⟩, fun z => absurd z (by omega), fun z => absurd z (by omega)⟩, fun z => absurd z (by omega)⟩⟩
    have htn := tk_nx (b := b) (L := L) (p := p1) (by omega)
    rcases g with g | g
    · have hs : sgn (tk b L p1) = 16 := by rw [g]; rfl
      have hr1 : rk (sgn (tk b L p1)) = 5 := by rw [hs]; rfl
      have hct : cnt (sgn (tk b L p1) :: h) = o := by rw [hs]; show 0 + cnt h = o; omega
      have hl2 : lowB 6 (sgn (tk b L p1) :: h) = true := by rw [hs]; rfl
      have hmx : Nat.ble (sgn (tk b L p1)) 12 = false := by rw [hs]; rfl
      have hld := lead_b hlw k1 hr1 (by omega) (by omega) (by omega)
      refine XP_n 2 (pc' := 10) (ls' := [.ref (9), .int (nI (o)), .int (nI (i)), x3]) (st' := [.int (nI (160)), .int (nI (i))]) (M' := (I1, J, Rx R, N, G)) rfl ?_
      refine XP_icN (x := i) (y := 160) rfl (by omega) (by omega) (fun (b10 : 160 ≤ i) => absurd b10 (by omega)) (fun (b10 : i < 160) => ?_)
      refine XP_n 2 (pc' := 13) (ls' := [.ref (9), .int (nI (o)), .int (nI (i)), x3]) (st' := [.int (I1 9 3)]) (M' := (I1, J, Rx R, N, G)) rfl ?_
      rw [hC.2.2.1]
      refine XP_n 1 (pc' := 14) (ls' := [.ref (9), .int (nI (o)), .int (nI (i)), x3]) (st' := [.int (nI (43)), .int (nI (tk b L p1))]) (M' := (I1, J, Rx R, N, G)) rfl ?_
      refine XP_icN (x := tk b L p1) (y := 43) rfl (by omega) (by omega) (fun (b14 : tk b L p1 = 43) => ?_) (fun (b14 : ¬ tk b L p1 = 43) => absurd b14 (by omega))
      refine XP_n 2 (pc' := 21) (ls' := [.ref (9), .int (nI (o)), .int (nI (i)), x3]) (st' := [.int (I1 9 3)]) (M' := (I1, J, Rx R, N, G)) rfl ?_
      rw [hC.2.2.1]
      refine XP_n 1 (pc' := 22) (ls' := [.ref (9), .int (nI (o)), .int (nI (i)), x3]) (st' := [.int (nI (43)), .int (nI (tk b L p1))]) (M' := (I1, J, Rx R, N, G)) rfl ?_
      refine XP_icN (x := tk b L p1) (y := 43) rfl (by omega) (by omega) (fun (b22 : ¬ tk b L p1 = 43) => absurd b22 (by omega)) (fun (b22 : tk b L p1 = 43) => ?_)
      refine XP_n 4 (pc' := 28) (ls' := [.ref (9), .int (nI (o)), .int (nI (i)), .int (nI (10015))]) (st' := [.ref (9)]) (M' := (I1, J, Rx R, N, G)) rfl ?_
      refine XP_call rfl rfl (c_step hC.1 hL hb (nx_L hp1) hC.2.2.2.1) ?_
      rintro vB MB ⟨rfl, IB, rfl, hCB, hfB, hsB⟩
      refine XP_n 2 (pc' := 31) (ls' := [.ref (9), .int (nI (o)), .int (nI (i)), .int (nI (10015))]) (st' := [.int (nI (o)), .ref (9)]) (M' := (IB, J, Rx R, N, G)) rfl ?_
      refine XP_call rfl rfl (sub X (D + 12) IB J R N G (sgn (tk b L p1) :: h) u1 (Nat.ble (sgn (tk b L p1)) 12) (nx b L p1) hD hCB ⟨hsB.trans hS.1, fun j hj => by rw [hfB 11 (by omega)]; exact hS.2 j hj⟩ (nx_L hp1) (by omega) hct hl2 (fun z => by cases z) (fun _ => Or.inl hmx)) ?_
      rintro vX MX ⟨IX, rfl, hfX, hzX, hX⟩
      rcases hX with ⟨u2, p2, rfl, hCX, hSX, hX⟩ | ⟨p2, rfl, hCX, hX⟩
      · obtain ⟨hb2, ub, k2, hn2, hc2⟩ := hX
        have hbd2 := k2.bnd
        refine XP_ifN (x := 1)  rfl (by omega) (fun (b32 : ¬ 1 = 0) => ?_) (fun (b32 : 1 = 0) => absurd b32 (by omega))
        refine XP_n 2 (pc' := 37) (ls' := [.ref (9), .int (nI (o)), .int (nI (i)), .int (nI (10015))]) (st' := [.int (nI (10015)), .ref (9)]) (M' := (IX, J, Rx R, N, G)) rfl ?_
        refine XP_call rfl rfl (c_rput (c := sgn (tk b L p1)) hSX (by omega) hCX (by rw [hs]; rfl)) ?_
        rintro vP MP ⟨rfl, IP, rfl, hSP, hCP, hfP, hzP⟩
        refine XP_n 1 (pc' := 39) (ls' := [.ref (9), .int (nI (o)), .int (nI (i) + nI (1)), .int (nI (10015))]) (st' := []) (M' := (IP, J, Rx R, N, G)) rfl ?_
        rw [show nI (i) + nI (1) = nI (i + 1) from nI_addE (rfl) rfl]
        refine XP_n 1 (pc' := 8) (ls' := [.ref (9), .int (nI (o)), .int (nI (i + 1)), .int (nI (10015))]) (st' := []) (M' := (IP, J, Rx R, N, G)) rfl ?_
        exact ih (i + 1) _ p2 hb2 ub IP _ (by omega) (by omega) hCP hSP (fun k h1 h2 => (hfP k h1 h2).trans ((hfX k h1 h2).trans ((hfB k h1).trans (hf k h1 h2)))) ((hCP.1.1.trans hC.1.1.symm).trans hz) (ok_b hlw (by omega) k1 hr1 (by omega) k2 (by omega) (by omega)) hn2
      · refine XP_ifN (x := 0)  rfl (by omega) (fun (b32 : ¬ 0 = 0) => absurd b32 (by omega)) (fun (b32 : 0 = 0) => ?_)
        refine XP_n 1 (pc' := 34) (ls' := [.ref (9), .int (nI (o)), .int (nI (i)), .int (nI (10015))]) (st' := [.int (nI (0))]) (M' := (IX, J, Rx R, N, G)) rfl ?_
        exact XP_ret rfl ⟨_, rfl, fun k h1 h2 => (hfX k h1 h2).trans ((hfB k h1).trans (hf k h1 h2)), (hCX.1.1.trans hC.1.1.symm).trans hz, Or.inr ⟨_, rfl, hCX, hX.l hld⟩⟩
    · have hs : sgn (tk b L p1) = 17 := by rw [g]; rfl
      have hr1 : rk (sgn (tk b L p1)) = 5 := by rw [hs]; rfl
      have hct : cnt (sgn (tk b L p1) :: h) = o := by rw [hs]; show 0 + cnt h = o; omega
      have hl2 : lowB 6 (sgn (tk b L p1) :: h) = true := by rw [hs]; rfl
      have hmx : Nat.ble (sgn (tk b L p1)) 12 = false := by rw [hs]; rfl
      have hld := lead_b hlw k1 hr1 (by omega) (by omega) (by omega)
      refine XP_n 2 (pc' := 10) (ls' := [.ref (9), .int (nI (o)), .int (nI (i)), x3]) (st' := [.int (nI (160)), .int (nI (i))]) (M' := (I1, J, Rx R, N, G)) rfl ?_
      refine XP_icN (x := i) (y := 160) rfl (by omega) (by omega) (fun (b10 : 160 ≤ i) => absurd b10 (by omega)) (fun (b10 : i < 160) => ?_)
      refine XP_n 2 (pc' := 13) (ls' := [.ref (9), .int (nI (o)), .int (nI (i)), x3]) (st' := [.int (I1 9 3)]) (M' := (I1, J, Rx R, N, G)) rfl ?_
      rw [hC.2.2.1]
      refine XP_n 1 (pc' := 14) (ls' := [.ref (9), .int (nI (o)), .int (nI (i)), x3]) (st' := [.int (nI (43)), .int (nI (tk b L p1))]) (M' := (I1, J, Rx R, N, G)) rfl ?_
      refine XP_icN (x := tk b L p1) (y := 43) rfl (by omega) (by omega) (fun (b14 : tk b L p1 = 43) => absurd b14 (by omega)) (fun (b14 : ¬ tk b L p1 = 43) => ?_)
      refine XP_n 2 (pc' := 17) (ls' := [.ref (9), .int (nI (o)), .int (nI (i)), x3]) (st' := [.int (I1 9 3)]) (M' := (I1, J, Rx R, N, G)) rfl ?_
      rw [hC.2.2.1]
      refine XP_n 1 (pc' := 18) (ls' := [.ref (9), .int (nI (o)), .int (nI (i)), x3]) (st' := [.int (nI (45)), .int (nI (tk b L p1))]) (M' := (I1, J, Rx R, N, G)) rfl ?_
      refine XP_icN (x := tk b L p1) (y := 45) rfl (by omega) (by omega) (fun (b18 : ¬ tk b L p1 = 45) => absurd b18 (by omega)) (fun (b18 : tk b L p1 = 45) => ?_)
      refine XP_n 2 (pc' := 21) (ls' := [.ref (9), .int (nI (o)), .int (nI (i)), x3]) (st' := [.int (I1 9 3)]) (M' := (I1, J, Rx R, N, G)) rfl ?_
      rw [hC.2.2.1]
      refine XP_n 1 (pc' := 22) (ls' := [.ref (9), .int (nI (o)), .int (nI (i)), x3]) (st' := [.int (nI (43)), .int (nI (tk b L p1))]) (M' := (I1, J, Rx R, N, G)) rfl ?_
      refine XP_icN (x := tk b L p1) (y := 43) rfl (by omega) (by omega) (fun (b22 : ¬ tk b L p1 = 43) => ?_) (fun (b22 : tk b L p1 = 43) => absurd b22 (by omega))
      refine XP_n 3 (pc' := 28) (ls' := [.ref (9), .int (nI (o)), .int (nI (i)), .int (nI (10016))]) (st' := [.ref (9)]) (M' := (I1, J, Rx R, N, G)) rfl ?_
      refine XP_call rfl rfl (c_step hC.1 hL hb (nx_L hp1) hC.2.2.2.1) ?_
      rintro vB MB ⟨rfl, IB, rfl, hCB, hfB, hsB⟩
      refine XP_n 2 (pc' := 31) (ls' := [.ref (9), .int (nI (o)), .int (nI (i)), .int (nI (10016))]) (st' := [.int (nI (o)), .ref (9)]) (M' := (IB, J, Rx R, N, G)) rfl ?_
      refine XP_call rfl rfl (sub X (D + 12) IB J R N G (sgn (tk b L p1) :: h) u1 (Nat.ble (sgn (tk b L p1)) 12) (nx b L p1) hD hCB ⟨hsB.trans hS.1, fun j hj => by rw [hfB 11 (by omega)]; exact hS.2 j hj⟩ (nx_L hp1) (by omega) hct hl2 (fun z => by cases z) (fun _ => Or.inl hmx)) ?_
      rintro vX MX ⟨IX, rfl, hfX, hzX, hX⟩
      rcases hX with ⟨u2, p2, rfl, hCX, hSX, hX⟩ | ⟨p2, rfl, hCX, hX⟩
      · obtain ⟨hb2, ub, k2, hn2, hc2⟩ := hX
        have hbd2 := k2.bnd
        refine XP_ifN (x := 1)  rfl (by omega) (fun (b32 : ¬ 1 = 0) => ?_) (fun (b32 : 1 = 0) => absurd b32 (by omega))
        refine XP_n 2 (pc' := 37) (ls' := [.ref (9), .int (nI (o)), .int (nI (i)), .int (nI (10016))]) (st' := [.int (nI (10016)), .ref (9)]) (M' := (IX, J, Rx R, N, G)) rfl ?_
        refine XP_call rfl rfl (c_rput (c := sgn (tk b L p1)) hSX (by omega) hCX (by rw [hs]; rfl)) ?_
        rintro vP MP ⟨rfl, IP, rfl, hSP, hCP, hfP, hzP⟩
        refine XP_n 1 (pc' := 39) (ls' := [.ref (9), .int (nI (o)), .int (nI (i) + nI (1)), .int (nI (10016))]) (st' := []) (M' := (IP, J, Rx R, N, G)) rfl ?_
        rw [show nI (i) + nI (1) = nI (i + 1) from nI_addE (rfl) rfl]
        refine XP_n 1 (pc' := 8) (ls' := [.ref (9), .int (nI (o)), .int (nI (i + 1)), .int (nI (10016))]) (st' := []) (M' := (IP, J, Rx R, N, G)) rfl ?_
        exact ih (i + 1) _ p2 hb2 ub IP _ (by omega) (by omega) hCP hSP (fun k h1 h2 => (hfP k h1 h2).trans ((hfX k h1 h2).trans ((hfB k h1).trans (hf k h1 h2)))) ((hCP.1.1.trans hC.1.1.symm).trans hz) (ok_b hlw (by omega) k1 hr1 (by omega) k2 (by omega) (by omega)) hn2
      · refine XP_ifN (x := 0)  rfl (by omega) (fun (b32 : ¬ 0 = 0) => absurd b32 (by omega)) (fun (b32 : 0 = 0) => ?_)
        refine XP_n 1 (pc' := 34) (ls' := [.ref (9), .int (nI (o)), .int (nI (i)), .int (nI (10016))]) (st' := [.int (nI (0))]) (M' := (IX, J, Rx R, N, G)) rfl ?_
        exact XP_ret rfl ⟨_, rfl, fun k h1 h2 => (hfX k h1 h2).trans ((hfB k h1).trans (hf k h1 h2)), (hCX.1.1.trans hC.1.1.symm).trans hz, Or.inr ⟨_, rfl, hCX, hX.l hld⟩⟩
theorem x_isSum (hL : L ≤ 160) (hb : ∀ i, i < L → b i ≤ 255) {e o : Nat} (ho5 : o ≤ 5) (sub : CX b L n_Reader_isTerm 6 6 13 e o false) : CX b L n_Reader_isSum 5 5 14 e o false := by
  intro X D I J R N G h u m p hD hC hS hp hu ho hlw hm1 hm2
  have hr := tk_rg (b := b) (L := L) p
  obtain ⟨D, rfl⟩ : ∃ D0, D = D0 + 1 := ⟨D - 1, by omega⟩
  unfold TP
  show XP X _ k_Reader_isSum 0 [.ref (9), .int (nI (o)), xj, xj] [] _ _
  refine XP_n 2 (pc' := 2) (ls' := [.ref (9), .int (nI (o)), xj, xj]) (st' := [.int (nI (o)), .ref (9)]) (M' := (I, J, Rx R, N, G)) rfl ?_
  refine XP_call rfl rfl (sub X D I J R N G h u m p (by omega) hC hS hp hu ho (lowB_to (by omega) hlw) hm1 hm2) ?_
  rintro vX MX ⟨IX, rfl, hfX, hzX, hX⟩
  rcases hX with ⟨u2, p2, rfl, hCX, hSX, hX⟩ | ⟨p2, rfl, hCX, hX⟩
  · obtain ⟨ha, ua, k1, hn, hc⟩ := hX
    refine XP_ifN (x := 1)  rfl (by omega) (fun (b3 : ¬ 1 = 0) => ?_) (fun (b3 : 1 = 0) => absurd b3 (by omega))
    refine XP_n 2 (pc' := 8) (ls' := [.ref (9), .int (nI (o)), .int (nI (0)), xj]) (st' := []) (M' := (IX, J, Rx R, N, G)) rfl ?_
    exact l_isSum hL hb sub (by omega) hu ho ho5 hlw L 0 u2 p2 ha ua IX _ (by omega) (by omega) hCX hSX hfX hzX (k1.down (by omega)) hn
  · refine XP_ifN (x := 0)  rfl (by omega) (fun (b3 : ¬ 0 = 0) => absurd b3 (by omega)) (fun (b3 : 0 = 0) => ?_)
    refine XP_n 1 (pc' := 5) (ls' := [.ref (9), .int (nI (o)), xj, xj]) (st' := [.int (nI (0))]) (M' := (IX, J, Rx R, N, G)) rfl ?_
    exact XP_ret rfl ⟨_, rfl, hfX, hzX, Or.inr ⟨_, rfl, hCX, hX⟩⟩
theorem x_isNot (hL : L ≤ 160) (hb : ∀ i, i < L → b i ≤ 255) {e o : Nat} (heo : o + e = 5) (sub : CX b L n_Reader_isSum 5 5 14 e o false) (ihN : ∀ e' o', e = e' + 1 → o' = o + 1 → CX b L n_Reader_isNot 3 4 15 e' o' true) : CX b L n_Reader_isNot 3 4 15 e o true := by
  intro X D I J R N G h u m p hD hC hS hp hu ho hlw hm1 hm2
  have hr := tk_rg (b := b) (L := L) p
  obtain ⟨D, rfl⟩ : ∃ D0, D = D0 + 15 := ⟨D - 15, by omega⟩
  have hm : m = true := hm1 rfl
  by_cases g : tk b L p = 1011
  · by_cases g3 : o = 5
    · have hfl : FailAt b L ((h, u), true, m, p) p := fail_one (by omega) (by omega) (Or.inl (by omega))
      unfold TP
      show XP X _ k_Reader_isNot 0 [.ref (9), .int (nI (o)), xj] [] _ _
      refine XP_n 2 (pc' := 2) (ls' := [.ref (9), .int (nI (o)), xj]) (st' := [.int (I 9 3)]) (M' := (I, J, Rx R, N, G)) rfl ?_
      rw [hC.2.2.1]
      refine XP_n 1 (pc' := 3) (ls' := [.ref (9), .int (nI (o)), xj]) (st' := [.int (nI (1011)), .int (nI (tk b L p))]) (M' := (I, J, Rx R, N, G)) rfl ?_
      refine XP_icN (x := tk b L p) (y := 1011) rfl (by omega) (by omega) (fun (b3 : ¬ tk b L p = 1011) => absurd b3 (by omega)) (fun (b3 : tk b L p = 1011) => ?_)
      refine XP_n 2 (pc' := 6) (ls' := [.ref (9), .int (nI (o)), xj]) (st' := [.int (nI (5)), .int (nI (o))]) (M' := (I, J, Rx R, N, G)) rfl ?_
      refine XP_icN (x := o) (y := 5) rfl (by omega) (by omega) (fun (b6 : 5 ≤ o) => ?_) (fun (b6 : o < 5) => absurd b6 (by omega))
      refine XP_n 1 (pc' := 18) (ls' := [.ref (9), .int (nI (o)), xj]) (st' := [.int (nI (0))]) (M' := (I, J, Rx R, N, G)) rfl ?_
      exact XP_ret rfl ⟨_, rfl, fun _ _ _ => rfl, rfl, Or.inr ⟨_, rfl, hC, hfl⟩⟩
    obtain ⟨e1, rfl⟩ : ∃ e1, e = e1 + 1 := ⟨e - 1, by omega⟩
    have hcn : cnt h ≠ 5 := by omega
    have htn := tk_nx (b := b) (L := L) (p := p) (by omega)
    have hpl := pl_le (b := b) (L := L) p
    have hst : stp b L ((h, u), true, m, p) = some ((13 :: h, u), true, true, nx b L p) := stp_pre hcn (Or.inl ⟨g, hm, rfl, rfl⟩)
    have hc13 : cnt (13 :: h) = o + 1 := by show 1 + cnt h = o + 1; omega
    unfold TP
    show XP X _ k_Reader_isNot 0 [.ref (9), .int (nI (o)), xj] [] _ _
    refine XP_n 2 (pc' := 2) (ls' := [.ref (9), .int (nI (o)), xj]) (st' := [.int (I 9 3)]) (M' := (I, J, Rx R, N, G)) rfl ?_
    rw [hC.2.2.1]
    refine XP_n 1 (pc' := 3) (ls' := [.ref (9), .int (nI (o)), xj]) (st' := [.int (nI (1011)), .int (nI (tk b L p))]) (M' := (I, J, Rx R, N, G)) rfl ?_
    refine XP_icN (x := tk b L p) (y := 1011) rfl (by omega) (by omega) (fun (b3 : ¬ tk b L p = 1011) => absurd b3 (by omega)) (fun (b3 : tk b L p = 1011) => ?_)
    refine XP_n 2 (pc' := 6) (ls' := [.ref (9), .int (nI (o)), xj]) (st' := [.int (nI (5)), .int (nI (o))]) (M' := (I, J, Rx R, N, G)) rfl ?_
    refine XP_icN (x := o) (y := 5) rfl (by omega) (by omega) (fun (b6 : 5 ≤ o) => absurd b6 (by omega)) (fun (b6 : o < 5) => ?_)
    refine XP_n 2 (pc' := 9) (ls' := [.ref (9), .int (nI (o)), xj]) (st' := [.int (nI (1011)), .ref (9)]) (M' := (I, J, Rx R, N, G)) rfl ?_
    refine XP_call rfl rfl (c_stT hC hL hb hp (g)) ?_
    rintro vB MB ⟨rfl, IB, rfl, hCB, hfB, hsB⟩
    refine XP_ifN (x := 1)  rfl (by omega) (fun (b10 : 1 = 0) => absurd b10 (by omega)) (fun (b10 : ¬ 1 = 0) => ?_)
    refine XP_n 4 (pc' := 15) (ls' := [.ref (9), .int (nI (o)), xj]) (st' := [.int ((nI (o)) + (nI (1))), .ref (9)]) (M' := (IB, J, Rx R, N, G)) rfl ?_
    rw [show (nI (o)) + (nI (1)) = nI (o + 1) from nI_addE (rfl) (rfl)]
    refine XP_call rfl rfl (ihN e1 (o + 1) rfl rfl X (D + 14) IB J R N G (13 :: h) u true (nx b L p) (by omega) hCB ⟨hsB.trans hS.1, fun j hj => by rw [hfB 11 (by omega)]; exact hS.2 j hj⟩ (nx_L hp) (by omega) hc13 rfl (fun _ => rfl) (fun z => by cases z)) ?_
    rintro vX MX ⟨IX, rfl, hfX, hzX, hX⟩
    rcases hX with ⟨u2, p2, rfl, hCX, hSX, hX⟩ | ⟨p2, rfl, hCX, hX⟩
    · obtain ⟨ha, ua, k0, hn, hc⟩ := hX
      have hbd := k0.bnd
      refine XP_ifN (x := 1)  rfl (by omega) (fun (b16 : ¬ 1 = 0) => ?_) (fun (b16 : 1 = 0) => absurd b16 (by omega))
      refine XP_n 2 (pc' := 21) (ls' := [.ref (9), .int (nI (o)), xj]) (st' := [.int (nI (10012)), .ref (9)]) (M' := (IX, J, Rx R, N, G)) rfl ?_
      refine XP_call rfl rfl (c_rput (c := 13) hSX (by omega) hCX (rfl)) ?_
      rintro vP MP ⟨rfl, IP, rfl, hSP, hCP, hfP, hzP⟩
      refine XP_n 1 (pc' := 23) (ls' := [.ref (9), .int (nI (o)), xj]) (st' := [.int (nI (1))]) (M' := (IP, J, Rx R, N, G)) rfl ?_
      exact XP_ret rfl ⟨_, rfl, fun k h1 h2 => (hfP k h1 h2).trans ((hfX k h1 h2).trans (hfB k h1)), (hCP.1.1).trans hC.1.1.symm, Or.inl ⟨_, _, rfl, hCP, hSP, _, _, ok_u htn.1 hst (Or.inl rfl) (by decide) k0, hn, hc⟩⟩
    · refine XP_ifN (x := 0)  rfl (by omega) (fun (b16 : ¬ 0 = 0) => absurd b16 (by omega)) (fun (b16 : 0 = 0) => ?_)
      refine XP_n 1 (pc' := 18) (ls' := [.ref (9), .int (nI (o)), xj]) (st' := [.int (nI (0))]) (M' := (IX, J, Rx R, N, G)) rfl ?_
      exact XP_ret rfl ⟨_, rfl, fun k h1 h2 => (hfX k h1 h2).trans (hfB k h1), (hCX.1.1).trans hC.1.1.symm, Or.inr ⟨_, rfl, hCX, hX.l (Leads.one hst)⟩⟩
  unfold TP
  show XP X _ k_Reader_isNot 0 [.ref (9), .int (nI (o)), xj] [] _ _
  refine XP_n 2 (pc' := 2) (ls' := [.ref (9), .int (nI (o)), xj]) (st' := [.int (I 9 3)]) (M' := (I, J, Rx R, N, G)) rfl ?_
  rw [hC.2.2.1]
  refine XP_n 1 (pc' := 3) (ls' := [.ref (9), .int (nI (o)), xj]) (st' := [.int (nI (1011)), .int (nI (tk b L p))]) (M' := (I, J, Rx R, N, G)) rfl ?_
  refine XP_icN (x := tk b L p) (y := 1011) rfl (by omega) (by omega) (fun (b3 : ¬ tk b L p = 1011) => ?_) (fun (b3 : tk b L p = 1011) => absurd b3 (by omega))
  refine XP_n 2 (pc' := 26) (ls' := [.ref (9), .int (nI (o)), xj]) (st' := [.int (nI (o)), .ref (9)]) (M' := (I, J, Rx R, N, G)) rfl ?_
  refine XP_call rfl rfl (sub X (D + 14) I J R N G h u m p (by omega) hC hS hp hu ho (lowB_to (by omega) hlw) (fun z => by cases z) (fun _ => Or.inr g)) ?_
  rintro vX MX ⟨IX, rfl, hfX, hzX, hX⟩
  rcases hX with ⟨u2, p2, rfl, hCX, hSX, hX⟩ | ⟨p2, rfl, hCX, hX⟩
  · obtain ⟨ha, ua, k1, hn, hc⟩ := hX
    have hbd := k1.bnd
    have hp1 := hbd.1
    have hr2 := tk_rg (b := b) (L := L) p2
    by_cases g60 : tk b L p2 = 60 ∨ tk b L p2 = 61
    rotate_left
    · refine XP_ifN (x := 1)  rfl (by omega) (fun (b27 : ¬ 1 = 0) => ?_) (fun (b27 : 1 = 0) => absurd b27 (by omega))
      refine XP_n 2 (pc' := 32) (ls' := [.ref (9), .int (nI (o)), xj]) (st' := [.int (IX 9 3)]) (M' := (IX, J, Rx R, N, G)) rfl ?_
      rw [hCX.2.2.1]
      refine XP_n 1 (pc' := 33) (ls' := [.ref (9), .int (nI (o)), xj]) (st' := [.int (nI (60)), .int (nI (tk b L p2))]) (M' := (IX, J, Rx R, N, G)) rfl ?_
      refine XP_icN (x := tk b L p2) (y := 60) rfl (by omega) (by omega) (fun (b33 : tk b L p2 = 60) => absurd b33 (by omega)) (fun (b33 : ¬ tk b L p2 = 60) => ?_)
      refine XP_n 2 (pc' := 36) (ls' := [.ref (9), .int (nI (o)), xj]) (st' := [.int (IX 9 3)]) (M' := (IX, J, Rx R, N, G)) rfl ?_
      rw [hCX.2.2.1]
      refine XP_n 1 (pc' := 37) (ls' := [.ref (9), .int (nI (o)), xj]) (st' := [.int (nI (61)), .int (nI (tk b L p2))]) (M' := (IX, J, Rx R, N, G)) rfl ?_
      refine XP_icN (x := tk b L p2) (y := 61) rfl (by omega) (by omega) (fun (b37 : tk b L p2 = 61) => absurd b37 (by omega)) (fun (b37 : ¬ tk b L p2 = 61) => ?_)
      refine XP_n 1 (pc' := 39) (ls' := [.ref (9), .int (nI (o)), xj]) (st' := [.int (nI (1))]) (M' := (IX, J, Rx R, N, G)) rfl ?_
      exact XP_ret rfl ⟨_, rfl, hfX, hzX, Or.inl ⟨_, _, rfl, hCX, hSX, _, _, k1.down (by omega), ⟨fun _ => hn.1 (by omega), fun _ => hn.2.1 (by omega), fun z => absurd z (by omega), fun z => absurd z (by omega)⟩, fun _ z => absurd z g60⟩⟩
    have htn := tk_nx (b := b) (L := L) (p := p2) (by omega)
    have hpl := pl_le (b := b) (L := L) p2
    have hld := lead_c hlw k1 g60
    have hs0 : sgn (tk b L p2) = 14 ∨ sgn (tk b L p2) = 15 := by
      rcases g60 with z | z <;> rw [z]
      · exact Or.inl rfl
      · exact Or.inr rfl
    have hct : cnt (sgn (tk b L p2) :: h) = o := by
      rcases hs0 with z | z <;> rw [z] <;> (show 0 + cnt h = o; omega)
    have hl2 : lowB 5 (sgn (tk b L p2) :: h) = true := by
      rcases hs0 with z | z <;> rw [z] <;> rfl
    rcases (show tk b L p2 = 60 ∨ tk b L p2 = 61 from g60) with gg | gg
    · have hs : sgn (tk b L p2) = 14 := by rw [gg]; rfl
      refine XP_ifN (x := 1)  rfl (by omega) (fun (b27 : ¬ 1 = 0) => ?_) (fun (b27 : 1 = 0) => absurd b27 (by omega))
      refine XP_n 2 (pc' := 32) (ls' := [.ref (9), .int (nI (o)), xj]) (st' := [.int (IX 9 3)]) (M' := (IX, J, Rx R, N, G)) rfl ?_
      rw [hCX.2.2.1]
      refine XP_n 1 (pc' := 33) (ls' := [.ref (9), .int (nI (o)), xj]) (st' := [.int (nI (60)), .int (nI (tk b L p2))]) (M' := (IX, J, Rx R, N, G)) rfl ?_
      refine XP_icN (x := tk b L p2) (y := 60) rfl (by omega) (by omega) (fun (b33 : tk b L p2 = 60) => ?_) (fun (b33 : ¬ tk b L p2 = 60) => absurd b33 (by omega))
      refine XP_n 2 (pc' := 42) (ls' := [.ref (9), .int (nI (o)), xj]) (st' := [.int (IX 9 3)]) (M' := (IX, J, Rx R, N, G)) rfl ?_
      rw [hCX.2.2.1]
      refine XP_n 1 (pc' := 43) (ls' := [.ref (9), .int (nI (o)), xj]) (st' := [.int (nI (60)), .int (nI (tk b L p2))]) (M' := (IX, J, Rx R, N, G)) rfl ?_
      refine XP_icN (x := tk b L p2) (y := 60) rfl (by omega) (by omega) (fun (b43 : ¬ tk b L p2 = 60) => absurd b43 (by omega)) (fun (b43 : tk b L p2 = 60) => ?_)
      refine XP_n 4 (pc' := 49) (ls' := [.ref (9), .int (nI (o)), .int (nI (10013))]) (st' := [.ref (9)]) (M' := (IX, J, Rx R, N, G)) rfl ?_
      refine XP_call rfl rfl (c_step hCX.1 hL hb (nx_L hp1) hCX.2.2.2.1) ?_
      rintro vB MB ⟨rfl, IB, rfl, hCB, hfB, hsB⟩
      refine XP_n 2 (pc' := 52) (ls' := [.ref (9), .int (nI (o)), .int (nI (10013))]) (st' := [.int (nI (o)), .ref (9)]) (M' := (IB, J, Rx R, N, G)) rfl ?_
      refine XP_call rfl rfl (sub X (D + 14) IB J R N G (sgn (tk b L p2) :: h) u2 false (nx b L p2) (by omega) hCB ⟨hsB.trans hSX.1, fun j hj => by rw [hfB 11 (by omega)]; exact hSX.2 j hj⟩ (nx_L hp1) (by omega) hct hl2 (fun z => by cases z) (fun _ => Or.inl rfl)) ?_
      rintro vY MY ⟨IY, rfl, hfY, hzY, hY⟩
      rcases hY with ⟨u3, p3, rfl, hCY, hSY, hY⟩ | ⟨p3, rfl, hCY, hY⟩
      · obtain ⟨hb2, ub, k2, hn2, hc2⟩ := hY
        have hbd2 := k2.bnd
        have hcc := ok_c hlw k1 g60 k2
        refine XP_ifN (x := 1)  rfl (by omega) (fun (b53 : ¬ 1 = 0) => ?_) (fun (b53 : 1 = 0) => absurd b53 (by omega))
        refine XP_n 2 (pc' := 58) (ls' := [.ref (9), .int (nI (o)), .int (nI (10013))]) (st' := [.int (nI (10013)), .ref (9)]) (M' := (IY, J, Rx R, N, G)) rfl ?_
        refine XP_call rfl rfl (c_rput (c := sgn (tk b L p2)) hSY (by omega) hCY (by rw [hs]; rfl)) ?_
        rintro vP MP ⟨rfl, IP, rfl, hSP, hCP, hfP, hzP⟩
        refine XP_n 1 (pc' := 60) (ls' := [.ref (9), .int (nI (o)), .int (nI (10013))]) (st' := [.int (nI (1))]) (M' := (IP, J, Rx R, N, G)) rfl ?_
        exact XP_ret rfl ⟨_, rfl, fun k h1 h2 => (hfP k h1 h2).trans ((hfY k h1 h2).trans ((hfB k h1).trans (hfX k h1 h2))), (hCP.1.1).trans hC.1.1.symm, Or.inl ⟨_, _, rfl, hCP, hSP, _, _, hcc.1, ⟨fun _ => hn2.1 (by omega), fun _ => hn2.2.1 (by omega), fun z => absurd z (by omega), fun z => absurd z (by omega)⟩, fun _ _ => hcc.2⟩⟩
      · refine XP_ifN (x := 0)  rfl (by omega) (fun (b53 : ¬ 0 = 0) => absurd b53 (by omega)) (fun (b53 : 0 = 0) => ?_)
        refine XP_n 1 (pc' := 55) (ls' := [.ref (9), .int (nI (o)), .int (nI (10013))]) (st' := [.int (nI (0))]) (M' := (IY, J, Rx R, N, G)) rfl ?_
        exact XP_ret rfl ⟨_, rfl, fun k h1 h2 => (hfY k h1 h2).trans ((hfB k h1).trans (hfX k h1 h2)), (hCY.1.1).trans hC.1.1.symm, Or.inr ⟨_, rfl, hCY, hY.l hld⟩⟩
    · have hs : sgn (tk b L p2) = 15 := by rw [gg]; rfl
      refine XP_ifN (x := 1)  rfl (by omega) (fun (b27 : ¬ 1 = 0) => ?_) (fun (b27 : 1 = 0) => absurd b27 (by omega))
      refine XP_n 2 (pc' := 32) (ls' := [.ref (9), .int (nI (o)), xj]) (st' := [.int (IX 9 3)]) (M' := (IX, J, Rx R, N, G)) rfl ?_
      rw [hCX.2.2.1]
      refine XP_n 1 (pc' := 33) (ls' := [.ref (9), .int (nI (o)), xj]) (st' := [.int (nI (60)), .int (nI (tk b L p2))]) (M' := (IX, J, Rx R, N, G)) rfl ?_
      refine XP_icN (x := tk b L p2) (y := 60) rfl (by omega) (by omega) (fun (b33 : tk b L p2 = 60) => absurd b33 (by omega)) (fun (b33 : ¬ tk b L p2 = 60) => ?_)
      refine XP_n 2 (pc' := 36) (ls' := [.ref (9), .int (nI (o)), xj]) (st' := [.int (IX 9 3)]) (M' := (IX, J, Rx R, N, G)) rfl ?_
      rw [hCX.2.2.1]
      refine XP_n 1 (pc' := 37) (ls' := [.ref (9), .int (nI (o)), xj]) (st' := [.int (nI (61)), .int (nI (tk b L p2))]) (M' := (IX, J, Rx R, N, G)) rfl ?_
      refine XP_icN (x := tk b L p2) (y := 61) rfl (by omega) (by omega) (fun (b37 : tk b L p2 = 61) => ?_) (fun (b37 : ¬ tk b L p2 = 61) => absurd b37 (by omega))
      refine XP_n 2 (pc' := 42) (ls' := [.ref (9), .int (nI (o)), xj]) (st' := [.int (IX 9 3)]) (M' := (IX, J, Rx R, N, G)) rfl ?_
      rw [hCX.2.2.1]
      refine XP_n 1 (pc' := 43) (ls' := [.ref (9), .int (nI (o)), xj]) (st' := [.int (nI (60)), .int (nI (tk b L p2))]) (M' := (IX, J, Rx R, N, G)) rfl ?_
      refine XP_icN (x := tk b L p2) (y := 60) rfl (by omega) (by omega) (fun (b43 : ¬ tk b L p2 = 60) => ?_) (fun (b43 : tk b L p2 = 60) => absurd b43 (by omega))
      refine XP_n 3 (pc' := 49) (ls' := [.ref (9), .int (nI (o)), .int (nI (10014))]) (st' := [.ref (9)]) (M' := (IX, J, Rx R, N, G)) rfl ?_
      refine XP_call rfl rfl (c_step hCX.1 hL hb (nx_L hp1) hCX.2.2.2.1) ?_
      rintro vB MB ⟨rfl, IB, rfl, hCB, hfB, hsB⟩
      refine XP_n 2 (pc' := 52) (ls' := [.ref (9), .int (nI (o)), .int (nI (10014))]) (st' := [.int (nI (o)), .ref (9)]) (M' := (IB, J, Rx R, N, G)) rfl ?_
      refine XP_call rfl rfl (sub X (D + 14) IB J R N G (sgn (tk b L p2) :: h) u2 false (nx b L p2) (by omega) hCB ⟨hsB.trans hSX.1, fun j hj => by rw [hfB 11 (by omega)]; exact hSX.2 j hj⟩ (nx_L hp1) (by omega) hct hl2 (fun z => by cases z) (fun _ => Or.inl rfl)) ?_
      rintro vY MY ⟨IY, rfl, hfY, hzY, hY⟩
      rcases hY with ⟨u3, p3, rfl, hCY, hSY, hY⟩ | ⟨p3, rfl, hCY, hY⟩
      · obtain ⟨hb2, ub, k2, hn2, hc2⟩ := hY
        have hbd2 := k2.bnd
        have hcc := ok_c hlw k1 g60 k2
        refine XP_ifN (x := 1)  rfl (by omega) (fun (b53 : ¬ 1 = 0) => ?_) (fun (b53 : 1 = 0) => absurd b53 (by omega))
        refine XP_n 2 (pc' := 58) (ls' := [.ref (9), .int (nI (o)), .int (nI (10014))]) (st' := [.int (nI (10014)), .ref (9)]) (M' := (IY, J, Rx R, N, G)) rfl ?_
        refine XP_call rfl rfl (c_rput (c := sgn (tk b L p2)) hSY (by omega) hCY (by rw [hs]; rfl)) ?_
        rintro vP MP ⟨rfl, IP, rfl, hSP, hCP, hfP, hzP⟩
        refine XP_n 1 (pc' := 60) (ls' := [.ref (9), .int (nI (o)), .int (nI (10014))]) (st' := [.int (nI (1))]) (M' := (IP, J, Rx R, N, G)) rfl ?_
        exact XP_ret rfl ⟨_, rfl, fun k h1 h2 => (hfP k h1 h2).trans ((hfY k h1 h2).trans ((hfB k h1).trans (hfX k h1 h2))), (hCP.1.1).trans hC.1.1.symm, Or.inl ⟨_, _, rfl, hCP, hSP, _, _, hcc.1, ⟨fun _ => hn2.1 (by omega), fun _ => hn2.2.1 (by omega), fun z => absurd z (by omega), fun z => absurd z (by omega)⟩, fun _ _ => hcc.2⟩⟩
      · refine XP_ifN (x := 0)  rfl (by omega) (fun (b53 : ¬ 0 = 0) => absurd b53 (by omega)) (fun (b53 : 0 = 0) => ?_)
        refine XP_n 1 (pc' := 55) (ls' := [.ref (9), .int (nI (o)), .int (nI (10014))]) (st' := [.int (nI (0))]) (M' := (IY, J, Rx R, N, G)) rfl ?_
        exact XP_ret rfl ⟨_, rfl, fun k h1 h2 => (hfY k h1 h2).trans ((hfB k h1).trans (hfX k h1 h2)), (hCY.1.1).trans hC.1.1.symm, Or.inr ⟨_, rfl, hCY, hY.l hld⟩⟩
  · refine XP_ifN (x := 0)  rfl (by omega) (fun (b27 : ¬ 0 = 0) => absurd b27 (by omega)) (fun (b27 : 0 = 0) => ?_)
    refine XP_n 1 (pc' := 29) (ls' := [.ref (9), .int (nI (o)), xj]) (st' := [.int (nI (0))]) (M' := (IX, J, Rx R, N, G)) rfl ?_
    exact XP_ret rfl ⟨_, rfl, hfX, hzX, Or.inr ⟨_, rfl, hCX, hX⟩⟩
/-- all five at once, from the deepest brackets outwards -/
theorem x_all (hL : L ≤ 160) (hb : ∀ i, i < L → b i ≤ 255) : ∀ (e o : Nat), o + e = 5 → CX b L n_Reader_isOne 7 8 12 e o false ∧ CX b L n_Reader_isNot 3 4 15 e o true ∧ CX b L n_Reader_isOr 1 1 17 e o true
  | 0, o, h => by
    have h1 := x_one hL hb h (fun e' o' z => by omega) (fun e' o' z => by omega)
    have h2 := x_isTerm hL hb (by omega) h1
    have h3 := x_isSum hL hb (by omega) h2
    have h4 := x_isNot hL hb h h3 (fun e' o' z => by omega)
    have h5 := x_isAnd hL hb (by omega) h4
    exact ⟨h1, h4, x_isOr hL hb (by omega) h5⟩
  | e + 1, o, h => by
    obtain ⟨i1, i2, i3⟩ := x_all hL hb e (o + 1) (by omega)
    have h1 := x_one hL hb h (fun e' o' z w => by obtain rfl : e' = e := (by omega); rw [w]; exact i1) (fun e' o' z w => by obtain rfl : e' = e := (by omega); rw [w]; exact i3)
    have h2 := x_isTerm hL hb (by omega) h1
    have h3 := x_isSum hL hb (by omega) h2
    have h4 := x_isNot hL hb h h3 (fun e' o' z w => by obtain rfl : e' = e := (by omega); rw [w]; exact i2)
    have h5 := x_isAnd hL hb (by omega) h4
    exact ⟨h1, h4, x_isOr hL hb (by omega) h5⟩
end
