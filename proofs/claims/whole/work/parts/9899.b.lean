/-! the class's reading of an expression: loops -/
section
variable {X : hX} {d : Nat} {s I : Nat → Nat → Int32} {J : Nat → Nat → Int64} {R : Nat → Nat → Option Nat} {N : Nat → Nat} {G : hG} {b : Nat → Nat} {L : Nat}
theorem l_isTerm (hL : L ≤ 160) (hb : ∀ i, i < L → b i ≤ 255) {e o : Nat} (sub : CX b L n_Reader_isOne 7 8 12 e o false) {D : Nat} (hD : 12 + 7 * e ≤ D) {h u : List Nat} {m : Bool} {p : Nat} (hu : u.length ≤ p) (ho : cnt h = o) (ho5 : o ≤ 5) (hlw : lowB 6 h = true) : ∀ (n i : Nat) (u1 : List Nat) (p1 : Nat) (ha ua : List Nat) (I1 : Nat → Nat → Int32), L - p1 ≤ n → i ≤ p1 → Cur b L I1 p1 → Sg I1 u1 → (∀ k, k ≠ 9 → k ≠ 11 → I1 k = I k) → I1 9 1 = I 9 1 → Ok0 b L 6 h u m p u1 p1 ha ua → NX 7 (tk b L p1) → (6 ≤ 3 → tk b L p1 = 60 ∨ tk b L p1 = 61 → lowB 4 (unw 5 ha ua).1 = false) → XP X (D + 1) k_Reader_isTerm 8 [.ref 9, .int (nI o), .int (nI i)] [] (I1, J, Rx R, N, G) (QX b L 6 h u m p I J R N G) := by
  obtain ⟨D, rfl⟩ : ∃ D0, D = D0 + 12 := ⟨D - 12, by omega⟩
  intro n
  induction n with
  | zero =>
    intro i u1 p1 ha ua I1 hn1 hi hC hS hf hz k1 hn hc
    have hr := tk_rg (b := b) (L := L) p1
    have hbd := k1.bnd
    have hp1 := hbd.1
    have hpl := pl_le (b := b) (L := L) p1
    have g : tk b L p1 ≠ 42 := fun z => by
      have := (tk_nx (b := b) (L := L) (p := p1) (by omega)).2
      omega
    refine XP_n 2 (pc' := 10) (ls' := [.ref (9), .int (nI (o)), .int (nI (i))]) (st' := [.int (nI (160)), .int (nI (i))]) (M' := (I1, J, Rx R, N, G)) rfl ?_
    refine XP_icN (x := i) (y := 160) rfl (by omega) (by omega) (fun (b10 : 160 ≤ i) => ?_) (fun (b10 : i < 160) => ?_)
    · refine XP_n 1 (pc' := 27) (ls' := [.ref (9), .int (nI (o)), .int (nI (i))]) (st' := [.int (nI (1))]) (M' := (I1, J, Rx R, N, G)) rfl ?_
      exact XP_ret rfl ⟨_, rfl, hf, hz, Or.inl ⟨_, _, rfl, hC, hS, _, _, k1, ⟨fun _ => g, fun z => absurd z (by omega), fun z => absurd z (by omega), fun z => absurd z (by omega)⟩, hc⟩⟩
    · refine XP_n 2 (pc' := 13) (ls' := [.ref (9), .int (nI (o)), .int (nI (i))]) (st' := [.int (nI (42)), .ref (9)]) (M' := (I1, J, Rx R, N, G)) rfl ?_
      refine XP_pure rfl rfl (c_stF hC (g) (by omega)) ?_
      refine XP_ifN (x := 0)  rfl (by omega) (fun (b14 : 0 = 0) => ?_) (fun (b14 : ¬ 0 = 0) => absurd b14 (by omega))
      refine XP_n 1 (pc' := 27) (ls' := [.ref (9), .int (nI (o)), .int (nI (i))]) (st' := [.int (nI (1))]) (M' := (I1, J, Rx R, N, G)) rfl ?_
      exact XP_ret rfl ⟨_, rfl, hf, hz, Or.inl ⟨_, _, rfl, hC, hS, _, _, k1, ⟨fun _ => g, fun z => absurd z (by omega), fun z => absurd z (by omega), fun z => absurd z (by omega)⟩, hc⟩⟩
  | succ n ih =>
    intro i u1 p1 ha ua I1 hn1 hi hC hS hf hz k1 hn hc
    have hr := tk_rg (b := b) (L := L) p1
    have hbd := k1.bnd
    have hp1 := hbd.1
    have hpl := pl_le (b := b) (L := L) p1
    by_cases g : tk b L p1 = 42
    rotate_left
    · skip
      refine XP_n 2 (pc' := 10) (ls' := [.ref (9), .int (nI (o)), .int (nI (i))]) (st' := [.int (nI (160)), .int (nI (i))]) (M' := (I1, J, Rx R, N, G)) rfl ?_
      refine XP_icN (x := i) (y := 160) rfl (by omega) (by omega) (fun (b10 : 160 ≤ i) => ?_) (fun (b10 : i < 160) => ?_)
      · refine XP_n 1 (pc' := 27) (ls' := [.ref (9), .int (nI (o)), .int (nI (i))]) (st' := [.int (nI (1))]) (M' := (I1, J, Rx R, N, G)) rfl ?_
        exact XP_ret rfl ⟨_, rfl, hf, hz, Or.inl ⟨_, _, rfl, hC, hS, _, _, k1, ⟨fun _ => g, fun z => absurd z (by omega), fun z => absurd z (by omega), fun z => absurd z (by omega)⟩, hc⟩⟩
      · refine XP_n 2 (pc' := 13) (ls' := [.ref (9), .int (nI (o)), .int (nI (i))]) (st' := [.int (nI (42)), .ref (9)]) (M' := (I1, J, Rx R, N, G)) rfl ?_
        refine XP_pure rfl rfl (c_stF hC (g) (by omega)) ?_
        refine XP_ifN (x := 0)  rfl (by omega) (fun (b14 : 0 = 0) => ?_) (fun (b14 : ¬ 0 = 0) => absurd b14 (by omega))
        refine XP_n 1 (pc' := 27) (ls' := [.ref (9), .int (nI (o)), .int (nI (i))]) (st' := [.int (nI (1))]) (M' := (I1, J, Rx R, N, G)) rfl ?_
        exact XP_ret rfl ⟨_, rfl, hf, hz, Or.inl ⟨_, _, rfl, hC, hS, _, _, k1, ⟨fun _ => g, fun z => absurd z (by omega), fun z => absurd z (by omega), fun z => absurd z (by omega)⟩, hc⟩⟩
    have htn := tk_nx (b := b) (L := L) (p := p1) (by omega)
    have hs : sgn (tk b L p1) = 18 := by rw [g]; rfl
    have hr1 : rk (sgn (tk b L p1)) = 6 := by rw [hs]; rfl
    have hct : cnt (sgn (tk b L p1) :: h) = o := by rw [hs]; show 0 + cnt h = o; omega
    have hl2 : lowB 8 (sgn (tk b L p1) :: h) = true := by rw [hs]; rfl
    have hmx : Nat.ble (sgn (tk b L p1)) 12 = false := by rw [hs]; rfl
    have hld := lead_b hlw k1 hr1 (by omega) (by omega) (by omega)
    refine XP_n 2 (pc' := 10) (ls' := [.ref (9), .int (nI (o)), .int (nI (i))]) (st' := [.int (nI (160)), .int (nI (i))]) (M' := (I1, J, Rx R, N, G)) rfl ?_
    refine XP_icN (x := i) (y := 160) rfl (by omega) (by omega) (fun (b10 : 160 ≤ i) => absurd b10 (by omega)) (fun (b10 : i < 160) => ?_)
    refine XP_n 2 (pc' := 13) (ls' := [.ref (9), .int (nI (o)), .int (nI (i))]) (st' := [.int (nI (42)), .ref (9)]) (M' := (I1, J, Rx R, N, G)) rfl ?_
    refine XP_call rfl rfl (c_stT hC hL hb hp1 (g)) ?_
    rintro vB MB ⟨rfl, IB, rfl, hCB, hfB, hsB⟩
    refine XP_ifN (x := 1)  rfl (by omega) (fun (b14 : 1 = 0) => absurd b14 (by omega)) (fun (b14 : ¬ 1 = 0) => ?_)
    refine XP_n 2 (pc' := 17) (ls' := [.ref (9), .int (nI (o)), .int (nI (i))]) (st' := [.int (nI (o)), .ref (9)]) (M' := (IB, J, Rx R, N, G)) rfl ?_
    refine XP_call rfl rfl (sub X (D + 12) IB J R N G (sgn (tk b L p1) :: h) u1 (Nat.ble (sgn (tk b L p1)) 12) (nx b L p1) hD hCB ⟨hsB.trans hS.1, fun j hj => by rw [hfB 11 (by omega)]; exact hS.2 j hj⟩ (nx_L hp1) (by omega) hct hl2 (fun z => by cases z) (fun _ => Or.inl hmx)) ?_
    rintro vX MX ⟨IX, rfl, hfX, hzX, hX⟩
    rcases hX with ⟨u2, p2, rfl, hCX, hSX, hX⟩ | ⟨p2, rfl, hCX, hX⟩
    · obtain ⟨hb2, ub, k2, hn2, hc2⟩ := hX
      have hbd2 := k2.bnd
      refine XP_ifN (x := 1)  rfl (by omega) (fun (b18 : ¬ 1 = 0) => ?_) (fun (b18 : 1 = 0) => absurd b18 (by omega))
      refine XP_n 2 (pc' := 23) (ls' := [.ref (9), .int (nI (o)), .int (nI (i))]) (st' := [.int (nI (10017)), .ref (9)]) (M' := (IX, J, Rx R, N, G)) rfl ?_
      refine XP_call rfl rfl (c_rput (c := sgn (tk b L p1)) hSX (by omega) hCX (by rw [hs]; rfl)) ?_
      rintro vP MP ⟨rfl, IP, rfl, hSP, hCP, hfP, hzP⟩
      refine XP_n 1 (pc' := 25) (ls' := [.ref (9), .int (nI (o)), .int (nI (i) + nI (1))]) (st' := []) (M' := (IP, J, Rx R, N, G)) rfl ?_
      rw [show nI (i) + nI (1) = nI (i + 1) from nI_addE (rfl) rfl]
      refine XP_n 1 (pc' := 8) (ls' := [.ref (9), .int (nI (o)), .int (nI (i + 1))]) (st' := []) (M' := (IP, J, Rx R, N, G)) rfl ?_
      exact ih (i + 1) _ p2 hb2 ub IP (by omega) (by omega) hCP hSP (fun k h1 h2 => (hfP k h1 h2).trans ((hfX k h1 h2).trans ((hfB k h1).trans (hf k h1 h2)))) ((hCP.1.1.trans hC.1.1.symm).trans hz) (ok_b hlw (by omega) k1 hr1 (by omega) k2 (by omega) (by omega)) hn2 (fun z => absurd z (by omega))
    · refine XP_ifN (x := 0)  rfl (by omega) (fun (b18 : ¬ 0 = 0) => absurd b18 (by omega)) (fun (b18 : 0 = 0) => ?_)
      refine XP_n 1 (pc' := 20) (ls' := [.ref (9), .int (nI (o)), .int (nI (i))]) (st' := [.int (nI (0))]) (M' := (IX, J, Rx R, N, G)) rfl ?_
      exact XP_ret rfl ⟨_, rfl, fun k h1 h2 => (hfX k h1 h2).trans ((hfB k h1).trans (hf k h1 h2)), (hCX.1.1.trans hC.1.1.symm).trans hz, Or.inr ⟨_, rfl, hCX, hX.l hld⟩⟩
theorem x_isTerm (hL : L ≤ 160) (hb : ∀ i, i < L → b i ≤ 255) {e o : Nat} (ho5 : o ≤ 5) (sub : CX b L n_Reader_isOne 7 8 12 e o false) : CX b L n_Reader_isTerm 6 6 13 e o false := by
  intro X D I J R N G h u m p hD hC hS hp hu ho hlw hm1 hm2
  have hr := tk_rg (b := b) (L := L) p
  obtain ⟨D, rfl⟩ : ∃ D0, D = D0 + 1 := ⟨D - 1, by omega⟩
  unfold TP
  show XP X _ k_Reader_isTerm 0 [.ref (9), .int (nI (o)), xj] [] _ _
  refine XP_n 2 (pc' := 2) (ls' := [.ref (9), .int (nI (o)), xj]) (st' := [.int (nI (o)), .ref (9)]) (M' := (I, J, Rx R, N, G)) rfl ?_
  refine XP_call rfl rfl (sub X D I J R N G h u m p (by omega) hC hS hp hu ho (lowB_to (by omega) hlw) hm1 hm2) ?_
  rintro vX MX ⟨IX, rfl, hfX, hzX, hX⟩
  rcases hX with ⟨u2, p2, rfl, hCX, hSX, hX⟩ | ⟨p2, rfl, hCX, hX⟩
  · obtain ⟨ha, ua, k1, hn, hc⟩ := hX
    refine XP_ifN (x := 1)  rfl (by omega) (fun (b3 : ¬ 1 = 0) => ?_) (fun (b3 : 1 = 0) => absurd b3 (by omega))
    refine XP_n 2 (pc' := 8) (ls' := [.ref (9), .int (nI (o)), .int (nI (0))]) (st' := []) (M' := (IX, J, Rx R, N, G)) rfl ?_
    exact l_isTerm hL hb sub (by omega) hu ho ho5 hlw L 0 u2 p2 ha ua IX (by omega) (by omega) hCX hSX hfX hzX (k1.down (by omega)) hn (fun z => absurd z (by omega))
  · refine XP_ifN (x := 0)  rfl (by omega) (fun (b3 : ¬ 0 = 0) => absurd b3 (by omega)) (fun (b3 : 0 = 0) => ?_)
    refine XP_n 1 (pc' := 5) (ls' := [.ref (9), .int (nI (o)), xj]) (st' := [.int (nI (0))]) (M' := (IX, J, Rx R, N, G)) rfl ?_
    exact XP_ret rfl ⟨_, rfl, hfX, hzX, Or.inr ⟨_, rfl, hCX, hX⟩⟩
theorem l_isAnd (hL : L ≤ 160) (hb : ∀ i, i < L → b i ≤ 255) {e o : Nat} (sub : CX b L n_Reader_isNot 3 4 15 e o true) {D : Nat} (hD : 15 + 7 * e ≤ D) {h u : List Nat} {m : Bool} {p : Nat} (hu : u.length ≤ p) (ho : cnt h = o) (ho5 : o ≤ 5) (hlw : lowB 2 h = true) : ∀ (n i : Nat) (u1 : List Nat) (p1 : Nat) (ha ua : List Nat) (I1 : Nat → Nat → Int32), L - p1 ≤ n → i ≤ p1 → Cur b L I1 p1 → Sg I1 u1 → (∀ k, k ≠ 9 → k ≠ 11 → I1 k = I k) → I1 9 1 = I 9 1 → Ok0 b L 2 h u m p u1 p1 ha ua → NX 3 (tk b L p1) → (2 ≤ 3 → tk b L p1 = 60 ∨ tk b L p1 = 61 → lowB 4 (unw 5 ha ua).1 = false) → XP X (D + 1) k_Reader_isAnd 8 [.ref 9, .int (nI o), .int (nI i)] [] (I1, J, Rx R, N, G) (QX b L 2 h u m p I J R N G) := by
  obtain ⟨D, rfl⟩ : ∃ D0, D = D0 + 12 := ⟨D - 12, by omega⟩
  intro n
  induction n with
  | zero =>
    intro i u1 p1 ha ua I1 hn1 hi hC hS hf hz k1 hn hc
    have hr := tk_rg (b := b) (L := L) p1
    have hbd := k1.bnd
    have hp1 := hbd.1
    have hpl := pl_le (b := b) (L := L) p1
    have g : tk b L p1 ≠ 1010 := fun z => by
      have := (tk_nx (b := b) (L := L) (p := p1) (by omega)).2
      omega
    refine XP_n 2 (pc' := 10) (ls' := [.ref (9), .int (nI (o)), .int (nI (i))]) (st' := [.int (nI (160)), .int (nI (i))]) (M' := (I1, J, Rx R, N, G)) rfl ?_
    refine XP_icN (x := i) (y := 160) rfl (by omega) (by omega) (fun (b10 : 160 ≤ i) => ?_) (fun (b10 : i < 160) => ?_)
    · refine XP_n 1 (pc' := 27) (ls' := [.ref (9), .int (nI (o)), .int (nI (i))]) (st' := [.int (nI (1))]) (M' := (I1, J, Rx R, N, G)) rfl ?_
      exact XP_ret rfl ⟨_, rfl, hf, hz, Or.inl ⟨_, _, rfl, hC, hS, _, _, k1, ⟨fun _ => hn.1 (by omega), fun _ => hn.2.1 (by omega), fun _ => g, fun z => absurd z (by omega)⟩, hc⟩⟩
    · refine XP_n 2 (pc' := 13) (ls' := [.ref (9), .int (nI (o)), .int (nI (i))]) (st' := [.int (nI (1010)), .ref (9)]) (M' := (I1, J, Rx R, N, G)) rfl ?_
      refine XP_pure rfl rfl (c_stF hC (g) (by omega)) ?_
      refine XP_ifN (x := 0)  rfl (by omega) (fun (b14 : 0 = 0) => ?_) (fun (b14 : ¬ 0 = 0) => absurd b14 (by omega))
      refine XP_n 1 (pc' := 27) (ls' := [.ref (9), .int (nI (o)), .int (nI (i))]) (st' := [.int (nI (1))]) (M' := (I1, J, Rx R, N, G)) rfl ?_
      exact XP_ret rfl ⟨_, rfl, hf, hz, Or.inl ⟨_, _, rfl, hC, hS, _, _, k1, ⟨fun _ => hn.1 (by omega), fun _ => hn.2.1 (by omega), fun _ => g, fun z => absurd z (by omega)⟩, hc⟩⟩
  | succ n ih =>
    intro i u1 p1 ha ua I1 hn1 hi hC hS hf hz k1 hn hc
    have hr := tk_rg (b := b) (L := L) p1
    have hbd := k1.bnd
    have hp1 := hbd.1
    have hpl := pl_le (b := b) (L := L) p1
    by_cases g : tk b L p1 = 1010
    rotate_left
    · skip
      refine XP_n 2 (pc' := 10) (ls' := [.ref (9), .int (nI (o)), .int (nI (i))]) (st' := [.int (nI (160)), .int (nI (i))]) (M' := (I1, J, Rx R, N, G)) rfl ?_
      refine XP_icN (x := i) (y := 160) rfl (by omega) (by omega) (fun (b10 : 160 ≤ i) => ?_) (fun (b10 : i < 160) => ?_)
      · refine XP_n 1 (pc' := 27) (ls' := [.ref (9), .int (nI (o)), .int (nI (i))]) (st' := [.int (nI (1))]) (M' := (I1, J, Rx R, N, G)) rfl ?_
        exact XP_ret rfl ⟨_, rfl, hf, hz, Or.inl ⟨_, _, rfl, hC, hS, _, _, k1, ⟨fun _ => hn.1 (by omega), fun _ => hn.2.1 (by omega), fun _ => g, fun z => absurd z (by omega)⟩, hc⟩⟩
      · refine XP_n 2 (pc' := 13) (ls' := [.ref (9), .int (nI (o)), .int (nI (i))]) (st' := [.int (nI (1010)), .ref (9)]) (M' := (I1, J, Rx R, N, G)) rfl ?_
        refine XP_pure rfl rfl (c_stF hC (g) (by omega)) ?_
        refine XP_ifN (x := 0)  rfl (by omega) (fun (b14 : 0 = 0) => ?_) (fun (b14 : ¬ 0 = 0) => absurd b14 (by omega))
        refine XP_n 1 (pc' := 27) (ls' := [.ref (9), .int (nI (o)), .int (nI (i))]) (st' := [.int (nI (1))]) (M' := (I1, J, Rx R, N, G)) rfl ?_
        exact XP_ret rfl ⟨_, rfl, hf, hz, Or.inl ⟨_, _, rfl, hC, hS, _, _, k1, ⟨fun _ => hn.1 (by omega), fun _ => hn.2.1 (by omega), fun _ => g, fun z => absurd z (by omega)⟩, hc⟩⟩
    have htn := tk_nx (b := b) (L := L) (p := p1) (by omega)
    have hs : sgn (tk b L p1) = 12 := by rw [g]; rfl
    have hr1 : rk (sgn (tk b L p1)) = 2 := by rw [hs]; rfl
    have hct : cnt (sgn (tk b L p1) :: h) = o := by rw [hs]; show 0 + cnt h = o; omega
    have hl2 : lowB 4 (sgn (tk b L p1) :: h) = true := by rw [hs]; rfl
    have hmx : Nat.ble (sgn (tk b L p1)) 12 = true := by rw [hs]; rfl
    have hld := lead_b hlw k1 hr1 (by omega) (by omega) (by omega)
    refine XP_n 2 (pc' := 10) (ls' := [.ref (9), .int (nI (o)), .int (nI (i))]) (st' := [.int (nI (160)), .int (nI (i))]) (M' := (I1, J, Rx R, N, G)) rfl ?_
    refine XP_icN (x := i) (y := 160) rfl (by omega) (by omega) (fun (b10 : 160 ≤ i) => absurd b10 (by omega)) (fun (b10 : i < 160) => ?_)
    refine XP_n 2 (pc' := 13) (ls' := [.ref (9), .int (nI (o)), .int (nI (i))]) (st' := [.int (nI (1010)), .ref (9)]) (M' := (I1, J, Rx R, N, G)) rfl ?_
    refine XP_call rfl rfl (c_stT hC hL hb hp1 (g)) ?_
    rintro vB MB ⟨rfl, IB, rfl, hCB, hfB, hsB⟩
    refine XP_ifN (x := 1)  rfl (by omega) (fun (b14 : 1 = 0) => absurd b14 (by omega)) (fun (b14 : ¬ 1 = 0) => ?_)
    refine XP_n 2 (pc' := 17) (ls' := [.ref (9), .int (nI (o)), .int (nI (i))]) (st' := [.int (nI (o)), .ref (9)]) (M' := (IB, J, Rx R, N, G)) rfl ?_
    refine XP_call rfl rfl (sub X (D + 12) IB J R N G (sgn (tk b L p1) :: h) u1 (Nat.ble (sgn (tk b L p1)) 12) (nx b L p1) hD hCB ⟨hsB.trans hS.1, fun j hj => by rw [hfB 11 (by omega)]; exact hS.2 j hj⟩ (nx_L hp1) (by omega) hct hl2 (fun _ => hmx) (fun z => by cases z)) ?_
    rintro vX MX ⟨IX, rfl, hfX, hzX, hX⟩
    rcases hX with ⟨u2, p2, rfl, hCX, hSX, hX⟩ | ⟨p2, rfl, hCX, hX⟩
    · obtain ⟨hb2, ub, k2, hn2, hc2⟩ := hX
      have hbd2 := k2.bnd
      refine XP_ifN (x := 1)  rfl (by omega) (fun (b18 : ¬ 1 = 0) => ?_) (fun (b18 : 1 = 0) => absurd b18 (by omega))
      refine XP_n 2 (pc' := 23) (ls' := [.ref (9), .int (nI (o)), .int (nI (i))]) (st' := [.int (nI (10011)), .ref (9)]) (M' := (IX, J, Rx R, N, G)) rfl ?_
      refine XP_call rfl rfl (c_rput (c := sgn (tk b L p1)) hSX (by omega) hCX (by rw [hs]; rfl)) ?_
      rintro vP MP ⟨rfl, IP, rfl, hSP, hCP, hfP, hzP⟩
      refine XP_n 1 (pc' := 25) (ls' := [.ref (9), .int (nI (o)), .int (nI (i) + nI (1))]) (st' := []) (M' := (IP, J, Rx R, N, G)) rfl ?_
      rw [show nI (i) + nI (1) = nI (i + 1) from nI_addE (rfl) rfl]
      refine XP_n 1 (pc' := 8) (ls' := [.ref (9), .int (nI (o)), .int (nI (i + 1))]) (st' := []) (M' := (IP, J, Rx R, N, G)) rfl ?_
      exact ih (i + 1) _ p2 hb2 ub IP (by omega) (by omega) hCP hSP (fun k h1 h2 => (hfP k h1 h2).trans ((hfX k h1 h2).trans ((hfB k h1).trans (hf k h1 h2)))) ((hCP.1.1.trans hC.1.1.symm).trans hz) (ok_b hlw (by omega) k1 hr1 (by omega) k2 (by omega) (by omega)) hn2 (fun _ => hc2 (by omega))
    · refine XP_ifN (x := 0)  rfl (by omega) (fun (b18 : ¬ 0 = 0) => absurd b18 (by omega)) (fun (b18 : 0 = 0) => ?_)
      refine XP_n 1 (pc' := 20) (ls' := [.ref (9), .int (nI (o)), .int (nI (i))]) (st' := [.int (nI (0))]) (M' := (IX, J, Rx R, N, G)) rfl ?_
      exact XP_ret rfl ⟨_, rfl, fun k h1 h2 => (hfX k h1 h2).trans ((hfB k h1).trans (hf k h1 h2)), (hCX.1.1.trans hC.1.1.symm).trans hz, Or.inr ⟨_, rfl, hCX, hX.l hld⟩⟩
theorem x_isAnd (hL : L ≤ 160) (hb : ∀ i, i < L → b i ≤ 255) {e o : Nat} (ho5 : o ≤ 5) (sub : CX b L n_Reader_isNot 3 4 15 e o true) : CX b L n_Reader_isAnd 2 2 16 e o true := by
  intro X D I J R N G h u m p hD hC hS hp hu ho hlw hm1 hm2
  have hr := tk_rg (b := b) (L := L) p
  obtain ⟨D, rfl⟩ : ∃ D0, D = D0 + 1 := ⟨D - 1, by omega⟩
  unfold TP
  show XP X _ k_Reader_isAnd 0 [.ref (9), .int (nI (o)), xj] [] _ _
  refine XP_n 2 (pc' := 2) (ls' := [.ref (9), .int (nI (o)), xj]) (st' := [.int (nI (o)), .ref (9)]) (M' := (I, J, Rx R, N, G)) rfl ?_
  refine XP_call rfl rfl (sub X D I J R N G h u m p (by omega) hC hS hp hu ho (lowB_to (by omega) hlw) hm1 hm2) ?_
  rintro vX MX ⟨IX, rfl, hfX, hzX, hX⟩
  rcases hX with ⟨u2, p2, rfl, hCX, hSX, hX⟩ | ⟨p2, rfl, hCX, hX⟩
  · obtain ⟨ha, ua, k1, hn, hc⟩ := hX
    refine XP_ifN (x := 1)  rfl (by omega) (fun (b3 : ¬ 1 = 0) => ?_) (fun (b3 : 1 = 0) => absurd b3 (by omega))
    refine XP_n 2 (pc' := 8) (ls' := [.ref (9), .int (nI (o)), .int (nI (0))]) (st' := []) (M' := (IX, J, Rx R, N, G)) rfl ?_
    exact l_isAnd hL hb sub (by omega) hu ho ho5 hlw L 0 u2 p2 ha ua IX (by omega) (by omega) hCX hSX hfX hzX (k1.down (by omega)) hn (fun _ => hc (by omega))
  · refine XP_ifN (x := 0)  rfl (by omega) (fun (b3 : ¬ 0 = 0) => absurd b3 (by omega)) (fun (b3 : 0 = 0) => ?_)
    refine XP_n 1 (pc' := 5) (ls' := [.ref (9), .int (nI (o)), xj]) (st' := [.int (nI (0))]) (M' := (IX, J, Rx R, N, G)) rfl ?_
    exact XP_ret rfl ⟨_, rfl, hfX, hzX, Or.inr ⟨_, rfl, hCX, hX⟩⟩
theorem l_isOr (hL : L ≤ 160) (hb : ∀ i, i < L → b i ≤ 255) {e o : Nat} (sub : CX b L n_Reader_isAnd 2 2 16 e o true) {D : Nat} (hD : 16 + 7 * e ≤ D) {h u : List Nat} {m : Bool} {p : Nat} (hu : u.length ≤ p) (ho : cnt h = o) (ho5 : o ≤ 5) (hlw : lowB 1 h = true) : ∀ (n i : Nat) (u1 : List Nat) (p1 : Nat) (ha ua : List Nat) (I1 : Nat → Nat → Int32), L - p1 ≤ n → i ≤ p1 → Cur b L I1 p1 → Sg I1 u1 → (∀ k, k ≠ 9 → k ≠ 11 → I1 k = I k) → I1 9 1 = I 9 1 → Ok0 b L 1 h u m p u1 p1 ha ua → NX 2 (tk b L p1) → (1 ≤ 3 → tk b L p1 = 60 ∨ tk b L p1 = 61 → lowB 4 (unw 5 ha ua).1 = false) → XP X (D + 1) k_Reader_isOr 8 [.ref 9, .int (nI o), .int (nI i)] [] (I1, J, Rx R, N, G) (QX b L 1 h u m p I J R N G) := by
  obtain ⟨D, rfl⟩ : ∃ D0, D = D0 + 12 := ⟨D - 12, by omega⟩
  intro n
  induction n with
  | zero =>
    intro i u1 p1 ha ua I1 hn1 hi hC hS hf hz k1 hn hc
    have hr := tk_rg (b := b) (L := L) p1
    have hbd := k1.bnd
    have hp1 := hbd.1
    have hpl := pl_le (b := b) (L := L) p1
    have g : tk b L p1 ≠ 1009 := fun z => by
      have := (tk_nx (b := b) (L := L) (p := p1) (by omega)).2
      omega
    refine XP_n 2 (pc' := 10) (ls' := [.ref (9), .int (nI (o)), .int (nI (i))]) (st' := [.int (nI (160)), .int (nI (i))]) (M' := (I1, J, Rx R, N, G)) rfl ?_
    refine XP_icN (x := i) (y := 160) rfl (by omega) (by omega) (fun (b10 : 160 ≤ i) => ?_) (fun (b10 : i < 160) => ?_)
    · refine XP_n 1 (pc' := 27) (ls' := [.ref (9), .int (nI (o)), .int (nI (i))]) (st' := [.int (nI (1))]) (M' := (I1, J, Rx R, N, G)) rfl ?_
      exact XP_ret rfl ⟨_, rfl, hf, hz, Or.inl ⟨_, _, rfl, hC, hS, _, _, k1, ⟨fun _ => hn.1 (by omega), fun _ => hn.2.1 (by omega), fun _ => hn.2.2.1 (by omega), fun _ => g⟩, hc⟩⟩
    · refine XP_n 2 (pc' := 13) (ls' := [.ref (9), .int (nI (o)), .int (nI (i))]) (st' := [.int (nI (1009)), .ref (9)]) (M' := (I1, J, Rx R, N, G)) rfl ?_
      refine XP_pure rfl rfl (c_stF hC (g) (by omega)) ?_
      refine XP_ifN (x := 0)  rfl (by omega) (fun (b14 : 0 = 0) => ?_) (fun (b14 : ¬ 0 = 0) => absurd b14 (by omega))
      refine XP_n 1 (pc' := 27) (ls' := [.ref (9), .int (nI (o)), .int (nI (i))]) (st' := [.int (nI (1))]) (M' := (I1, J, Rx R, N, G)) rfl ?_
      exact XP_ret rfl ⟨_, rfl, hf, hz, Or.inl ⟨_, _, rfl, hC, hS, _, _, k1, ⟨fun _ => hn.1 (by omega), fun _ => hn.2.1 (by omega), fun _ => hn.2.2.1 (by omega), fun _ => g⟩, hc⟩⟩
  | succ n ih =>
    intro i u1 p1 ha ua I1 hn1 hi hC hS hf hz k1 hn hc
    have hr := tk_rg (b := b) (L := L) p1
    have hbd := k1.bnd
    have hp1 := hbd.1
    have hpl := pl_le (b := b) (L := L) p1
    by_cases g : tk b L p1 = 1009
    rotate_left
    · skip
      refine XP_n 2 (pc' := 10) (ls' := [.ref (9), .int (nI (o)), .int (nI (i))]) (st' := [.int (nI (160)), .int (nI (i))]) (M' := (I1, J, Rx R, N, G)) rfl ?_
      refine XP_icN (x := i) (y := 160) rfl (by omega) (by omega) (fun (b10 : 160 ≤ i) => ?_) (fun (b10 : i < 160) => ?_)
      · refine XP_n 1 (pc' := 27) (ls' := [.ref (9), .int (nI (o)), .int (nI (i))]) (st' := [.int (nI (1))]) (M' := (I1, J, Rx R, N, G)) rfl ?_
        exact XP_ret rfl ⟨_, rfl, hf, hz, Or.inl ⟨_, _, rfl, hC, hS, _, _, k1, ⟨fun _ => hn.1 (by omega), fun _ => hn.2.1 (by omega), fun _ => hn.2.2.1 (by omega), fun _ => g⟩, hc⟩⟩
      · refine XP_n 2 (pc' := 13) (ls' := [.ref (9), .int (nI (o)), .int (nI (i))]) (st' := [.int (nI (1009)), .ref (9)]) (M' := (I1, J, Rx R, N, G)) rfl ?_
        refine XP_pure rfl rfl (c_stF hC (g) (by omega)) ?_
        refine XP_ifN (x := 0)  rfl (by omega) (fun (b14 : 0 = 0) => ?_) (fun (b14 : ¬ 0 = 0) => absurd b14 (by omega))
        refine XP_n 1 (pc' := 27) (ls' := [.ref (9), .int (nI (o)), .int (nI (i))]) (st' := [.int (nI (1))]) (M' := (I1, J, Rx R, N, G)) rfl ?_
        exact XP_ret rfl ⟨_, rfl, hf, hz, Or.inl ⟨_, _, rfl, hC, hS, _, _, k1, ⟨fun _ => hn.1 (by omega), fun _ => hn.2.1 (by omega), fun _ => hn.2.2.1 (by omega), fun _ => g⟩, hc⟩⟩
    have htn := tk_nx (b := b) (L := L) (p := p1) (by omega)
    have hs : sgn (tk b L p1) = 11 := by rw [g]; rfl
    have hr1 : rk (sgn (tk b L p1)) = 1 := by rw [hs]; rfl
    have hct : cnt (sgn (tk b L p1) :: h) = o := by rw [hs]; show 0 + cnt h = o; omega
    have hl2 : lowB 2 (sgn (tk b L p1) :: h) = true := by rw [hs]; rfl
    have hmx : Nat.ble (sgn (tk b L p1)) 12 = true := by rw [hs]; rfl
    have hld := lead_b hlw k1 hr1 (by omega) (by omega) (by omega)
    refine XP_n 2 (pc' := 10) (ls' := [.ref (9), .int (nI (o)), .int (nI (i))]) (st' := [.int (nI (160)), .int (nI (i))]) (M' := (I1, J, Rx R, N, G)) rfl ?_
    refine XP_icN (x := i) (y := 160) rfl (by omega) (by omega) (fun (b10 : 160 ≤ i) => absurd b10 (by omega)) (fun (b10 : i < 160) => ?_)
    refine XP_n 2 (pc' := 13) (ls' := [.ref (9), .int (nI (o)), .int (nI (i))]) (st' := [.int (nI (1009)), .ref (9)]) (M' := (I1, J, Rx R, N, G)) rfl ?_
    refine XP_call rfl rfl (c_stT hC hL hb hp1 (g)) ?_
    rintro vB MB ⟨rfl, IB, rfl, hCB, hfB, hsB⟩
    refine XP_ifN (x := 1)  rfl (by omega) (fun (b14 : 1 = 0) => absurd b14 (by omega)) (fun (b14 : ¬ 1 = 0) => ?_)
    refine XP_n 2 (pc' := 17) (ls' := [.ref (9), .int (nI (o)), .int (nI (i))]) (st' := [.int (nI (o)), .ref (9)]) (M' := (IB, J, Rx R, N, G)) rfl ?_
    refine XP_call rfl rfl (sub X (D + 12) IB J R N G (sgn (tk b L p1) :: h) u1 (Nat.ble (sgn (tk b L p1)) 12) (nx b L p1) hD hCB ⟨hsB.trans hS.1, fun j hj => by rw [hfB 11 (by omega)]; exact hS.2 j hj⟩ (nx_L hp1) (by omega) hct hl2 (fun _ => hmx) (fun z => by cases z)) ?_
    rintro vX MX ⟨IX, rfl, hfX, hzX, hX⟩
    rcases hX with ⟨u2, p2, rfl, hCX, hSX, hX⟩ | ⟨p2, rfl, hCX, hX⟩
    · obtain ⟨hb2, ub, k2, hn2, hc2⟩ := hX
      have hbd2 := k2.bnd
      refine XP_ifN (x := 1)  rfl (by omega) (fun (b18 : ¬ 1 = 0) => ?_) (fun (b18 : 1 = 0) => absurd b18 (by omega))
      refine XP_n 2 (pc' := 23) (ls' := [.ref (9), .int (nI (o)), .int (nI (i))]) (st' := [.int (nI (10010)), .ref (9)]) (M' := (IX, J, Rx R, N, G)) rfl ?_
      refine XP_call rfl rfl (c_rput (c := sgn (tk b L p1)) hSX (by omega) hCX (by rw [hs]; rfl)) ?_
      rintro vP MP ⟨rfl, IP, rfl, hSP, hCP, hfP, hzP⟩
      refine XP_n 1 (pc' := 25) (ls' := [.ref (9), .int (nI (o)), .int (nI (i) + nI (1))]) (st' := []) (M' := (IP, J, Rx R, N, G)) rfl ?_
      rw [show nI (i) + nI (1) = nI (i + 1) from nI_addE (rfl) rfl]
      refine XP_n 1 (pc' := 8) (ls' := [.ref (9), .int (nI (o)), .int (nI (i + 1))]) (st' := []) (M' := (IP, J, Rx R, N, G)) rfl ?_
      exact ih (i + 1) _ p2 hb2 ub IP (by omega) (by omega) hCP hSP (fun k h1 h2 => (hfP k h1 h2).trans ((hfX k h1 h2).trans ((hfB k h1).trans (hf k h1 h2)))) ((hCP.1.1.trans hC.1.1.symm).trans hz) (ok_b hlw (by omega) k1 hr1 (by omega) k2 (by omega) (by omega)) hn2 (fun _ => hc2 (by omega))
    · refine XP_ifN (x := 0)  rfl (by omega) (fun (b18 : ¬ 0 = 0) => absurd b18 (by omega)) (fun (b18 : 0 = 0) => ?_)
      refine XP_n 1 (pc' := 20) (ls' := [.ref (9), .int (nI (o)), .int (nI (i))]) (st' := [.int (nI (0))]) (M' := (IX, J, Rx R, N, G)) rfl ?_
      exact XP_ret rfl ⟨_, rfl, fun k h1 h2 => (hfX k h1 h2).trans ((hfB k h1).trans (hf k h1 h2)), (hCX.1.1.trans hC.1.1.symm).trans hz, Or.inr ⟨_, rfl, hCX, hX.l hld⟩⟩
theorem x_isOr (hL : L ≤ 160) (hb : ∀ i, i < L → b i ≤ 255) {e o : Nat} (ho5 : o ≤ 5) (sub : CX b L n_Reader_isAnd 2 2 16 e o true) : CX b L n_Reader_isOr 1 1 17 e o true := by
  intro X D I J R N G h u m p hD hC hS hp hu ho hlw hm1 hm2
  have hr := tk_rg (b := b) (L := L) p
  obtain ⟨D, rfl⟩ : ∃ D0, D = D0 + 1 := ⟨D - 1, by omega⟩
  unfold TP
  show XP X _ k_Reader_isOr 0 [.ref (9), .int (nI (o)), xj] [] _ _
  refine XP_n 2 (pc' := 2) (ls' := [.ref (9), .int (nI (o)), xj]) (st' := [.int (nI (o)), .ref (9)]) (M' := (I, J, Rx R, N, G)) rfl ?_
  refine XP_call rfl rfl (sub X D I J R N G h u m p (by omega) hC hS hp hu ho (lowB_to (by omega) hlw) hm1 hm2) ?_
  rintro vX MX ⟨IX, rfl, hfX, hzX, hX⟩
  rcases hX with ⟨u2, p2, rfl, hCX, hSX, hX⟩ | ⟨p2, rfl, hCX, hX⟩
  · obtain ⟨ha, ua, k1, hn, hc⟩ := hX
    refine XP_ifN (x := 1)  rfl (by omega) (fun (b3 : ¬ 1 = 0) => ?_) (fun (b3 : 1 = 0) => absurd b3 (by omega))
    refine XP_n 2 (pc' := 8) (ls' := [.ref (9), .int (nI (o)), .int (nI (0))]) (st' := []) (M' := (IX, J, Rx R, N, G)) rfl ?_
    exact l_isOr hL hb sub (by omega) hu ho ho5 hlw L 0 u2 p2 ha ua IX (by omega) (by omega) hCX hSX hfX hzX (k1.down (by omega)) hn (fun _ => hc (by omega))
  · refine XP_ifN (x := 0)  rfl (by omega) (fun (b3 : ¬ 0 = 0) => absurd b3 (by omega)) (fun (b3 : 0 = 0) => ?_)
    refine XP_n 1 (pc' := 5) (ls' := [.ref (9), .int (nI (o)), xj]) (st' := [.int (nI (0))]) (M' := (IX, J, Rx R, N, G)) rfl ?_
    exact XP_ret rfl ⟨_, rfl, hfX, hzX, Or.inr ⟨_, rfl, hCX, hX⟩⟩
end
