/-! the class's reading of a text -/
section
variable {b : Nat → Nat} {L : Nat}
def PartOk (b : Nat → Nat) (L k P : Nat) (u u' : List Nat) (P' : Nat) : Prop := tk b L P = 1006 + k ∧ ∃ p, OkX b L 1 [] u true (nx b L P) u' p ∧ tk b L p = 59 ∧ P' = nx b L p
def PartFail (b : Nat → Nat) (L k P : Nat) (u : List Nat) (q : Nat) : Prop := (tk b L P ≠ 1006 + k ∧ q = P) ∨ (tk b L P = 1006 + k ∧ FailAt b L (([], u), true, true, nx b L P) q)
def TxOk (b : Nat → Nat) (L : Nat) (u1 u2 u3 : List Nat) (P3 : Nat) : Prop := ∃ P1 P2, PartOk b L 0 0 [] u1 P1 ∧ PartOk b L 1 P1 u1 u2 P2 ∧ PartOk b L 2 P2 u2 u3 P3
def TxFail (b : Nat → Nat) (L q : Nat) : Prop := PartFail b L 0 0 [] q ∨ ∃ u1 P1, PartOk b L 0 0 [] u1 P1 ∧ (PartFail b L 1 P1 u1 q ∨ ∃ u2 P2, PartOk b L 1 P1 u1 u2 P2 ∧ (PartFail b L 2 P2 u2 q ∨ ∃ u3 P3, PartOk b L 2 P2 u2 u3 P3 ∧ tk b L P3 ≠ 2001 ∧ q = P3))
theorem PartOk.bnd {k P : Nat} {u u' : List Nat} {P' : Nat} (h : PartOk b L k P u u' P') (hP : P ≤ L) (hk : k < 3) : P' ≤ L ∧ u'.length + P + 2 ≤ u.length + P' ∧ ∃ em, u' = u ++ em ∧ wfe em := by
  obtain ⟨h1, p, ⟨ha, ua, k0, -, -⟩, h2, rfl⟩ := h
  have hb := k0.bnd
  have t1 := (tk_nx (b := b) (L := L) (p := P) (by omega)).1
  have t2 := (tk_nx (b := b) (L := L) (p := p) (by omega)).1
  refine ⟨nx_L hb.1, by omega, ?_⟩
  obtain ⟨em, m1, a, c, -⟩ := k0
  exact ⟨em, a, c⟩
end
section
variable {X : hX} {d : Nat} {s I : Nat → Nat → Int32} {J : Nat → Nat → Int64} {R : Nat → Nat → Option Nat} {N : Nat → Nat} {G : hG} {b : Nat → Nat} {L : Nat}
theorem l_rp0 (hL : L ≤ 160) (hb : ∀ i, i < L → b i ≤ 255) {P : Nat} {u : List Nat} (hP : P ≤ L) (hu : u.length ≤ P) (x1 x2 : Value) (hC : Cur b L I P) (hS : Sg I u) {Q : Option Value → hM → Prop} (kOk : ∀ (I1 : Nat → Nat → Int32) (u' : List Nat) (P' : Nat), PartOk b L 0 P u u' P' → Cur b L I1 P' → Sg I1 u' → (∀ k, k ≠ 9 → k ≠ 11 → I1 k = I k) → XP X (d + 80) k_Reader_read 22 [.ref 9, x1, x2] [] (I1, J, Rx R, N, G) Q) (kBad : ∀ (I1 : Nat → Nat → Int32) (q : Nat), PartFail b L 0 P u q → Cur b L I1 q → (∀ k, k ≠ 9 → k ≠ 11 → I1 k = I k) → XP X (d + 80) k_Reader_read 20 [.ref 9, x1, x2] [] (I1, J, Rx R, N, G) Q) : XP X (d + 80) k_Reader_read 8 [.ref 9, x1, x2] [] (I, J, Rx R, N, G) Q := by
  have hr := tk_rg (b := b) (L := L) P
  by_cases g : tk b L P = 1006
  rotate_left
  · skip
    refine XP_n 2 (pc' := 10) (ls' := [.ref (9), x1, x2]) (st' := [.int (nI (1006)), .ref (9)]) (M' := (I, J, Rx R, N, G)) rfl ?_
    refine XP_pure rfl rfl (c_stF hC (g) (by omega)) ?_
    refine XP_ifN (x := 0)  rfl (by omega) (fun (b11 : 0 = 0) => ?_) (fun (b11 : ¬ 0 = 0) => absurd b11 (by omega))
    exact kBad _ P (Or.inl ⟨g, rfl⟩) hC (fun _ _ _ => rfl)
  have htn := tk_nx (b := b) (L := L) (p := P) (by omega)
  refine XP_n 2 (pc' := 10) (ls' := [.ref (9), x1, x2]) (st' := [.int (nI (1006)), .ref (9)]) (M' := (I, J, Rx R, N, G)) rfl ?_
  refine XP_call rfl rfl (c_stT hC hL hb hP (g)) ?_
  rintro vB MB ⟨rfl, IB, rfl, hCB, hfB, hsB⟩
  refine XP_ifN (x := 1)  rfl (by omega) (fun (b11 : 1 = 0) => absurd b11 (by omega)) (fun (b11 : ¬ 1 = 0) => ?_)
  refine XP_n 2 (pc' := 14) (ls' := [.ref (9), x1, x2]) (st' := [.int (nI (0)), .ref (9)]) (M' := (IB, J, Rx R, N, G)) rfl ?_
  refine XP_call rfl rfl ((x_all hL hb 5 0 rfl).2.2 X (d + 79) IB J R N G [] u true (nx b L P) (by omega) hCB ⟨hsB.trans hS.1, fun j hj => by rw [hfB 11 (by omega)]; exact hS.2 j hj⟩ (nx_L hP) (by omega) rfl rfl (fun _ => rfl) (fun z => by cases z)) ?_
  rintro vX MX ⟨IX, rfl, hfX, hzX, hX⟩
  rcases hX with ⟨u2, p2, rfl, hCX, hSX, hX⟩ | ⟨p2, rfl, hCX, hX⟩
  · obtain ⟨ha, ua, k0, hn, hc⟩ := hX
    have hbd := k0.bnd
    have hr2 := tk_rg (b := b) (L := L) p2
    by_cases g2 : tk b L p2 = 59
    · refine XP_ifN (x := 1)  rfl (by omega) (fun (b15 : 1 = 0) => absurd b15 (by omega)) (fun (b15 : ¬ 1 = 0) => ?_)
      refine XP_n 2 (pc' := 18) (ls' := [.ref (9), x1, x2]) (st' := [.int (nI (59)), .ref (9)]) (M' := (IX, J, Rx R, N, G)) rfl ?_
      refine XP_call rfl rfl (c_stT hCX hL hb hbd.1 (g2)) ?_
      rintro vC MC ⟨rfl, IC, rfl, hCC, hfC, hsC⟩
      refine XP_ifN (x := 1)  rfl (by omega) (fun (b19 : ¬ 1 = 0) => ?_) (fun (b19 : 1 = 0) => absurd b19 (by omega))
      exact kOk IC u2 _ ⟨g, p2, ⟨ha, ua, k0, hn, hc⟩, g2, rfl⟩ hCC ⟨hsC.trans hSX.1, fun j hj => by rw [hfC 11 (by omega)]; exact hSX.2 j hj⟩ (fun k h1 h2 => (hfC k h1).trans ((hfX k h1 h2).trans (hfB k h1)))
    · refine XP_ifN (x := 1)  rfl (by omega) (fun (b15 : 1 = 0) => absurd b15 (by omega)) (fun (b15 : ¬ 1 = 0) => ?_)
      refine XP_n 2 (pc' := 18) (ls' := [.ref (9), x1, x2]) (st' := [.int (nI (59)), .ref (9)]) (M' := (IX, J, Rx R, N, G)) rfl ?_
      refine XP_pure rfl rfl (c_stF hCX (g2) (by omega)) ?_
      refine XP_ifN (x := 0)  rfl (by omega) (fun (b19 : ¬ 0 = 0) => absurd b19 (by omega)) (fun (b19 : 0 = 0) => ?_)
      exact kBad IX p2 (Or.inr ⟨g, fail_top ⟨ha, ua, k0, hn, hc⟩ g2⟩) hCX (fun k h1 h2 => (hfX k h1 h2).trans (hfB k h1))
  · refine XP_ifN (x := 0)  rfl (by omega) (fun (b15 : 0 = 0) => ?_) (fun (b15 : ¬ 0 = 0) => absurd b15 (by omega))
    exact kBad IX p2 (Or.inr ⟨g, hX⟩) hCX (fun k h1 h2 => (hfX k h1 h2).trans (hfB k h1))
theorem l_rp1 (hL : L ≤ 160) (hb : ∀ i, i < L → b i ≤ 255) {P : Nat} {u : List Nat} (hP : P ≤ L) (hu : u.length ≤ P) (x1 : Int32) (x2 : Value) (hC : Cur b L I P) (hS : Sg I u) {Q : Option Value → hM → Prop} (kOk : ∀ (I1 : Nat → Nat → Int32) (u' : List Nat) (P' : Nat), PartOk b L 1 P u u' P' → Cur b L I1 P' → Sg I1 u' → (∀ k, k ≠ 9 → k ≠ 11 → I1 k = I k) → XP X (d + 80) k_Reader_read 39 [.ref 9, .int (x1), x2] [] (I1, J, Rx R, N, G) Q) (kBad : ∀ (I1 : Nat → Nat → Int32) (q : Nat), PartFail b L 1 P u q → Cur b L I1 q → (∀ k, k ≠ 9 → k ≠ 11 → I1 k = I k) → XP X (d + 80) k_Reader_read 37 [.ref 9, .int (x1), x2] [] (I1, J, Rx R, N, G) Q) : XP X (d + 80) k_Reader_read 25 [.ref 9, .int (x1), x2] [] (I, J, Rx R, N, G) Q := by
  have hr := tk_rg (b := b) (L := L) P
  by_cases g : tk b L P = 1007
  rotate_left
  · skip
    refine XP_n 2 (pc' := 27) (ls' := [.ref (9), .int (x1), x2]) (st' := [.int (nI (1007)), .ref (9)]) (M' := (I, J, Rx R, N, G)) rfl ?_
    refine XP_pure rfl rfl (c_stF hC (g) (by omega)) ?_
    refine XP_ifN (x := 0)  rfl (by omega) (fun (b28 : 0 = 0) => ?_) (fun (b28 : ¬ 0 = 0) => absurd b28 (by omega))
    exact kBad _ P (Or.inl ⟨g, rfl⟩) hC (fun _ _ _ => rfl)
  have htn := tk_nx (b := b) (L := L) (p := P) (by omega)
  refine XP_n 2 (pc' := 27) (ls' := [.ref (9), .int (x1), x2]) (st' := [.int (nI (1007)), .ref (9)]) (M' := (I, J, Rx R, N, G)) rfl ?_
  refine XP_call rfl rfl (c_stT hC hL hb hP (g)) ?_
  rintro vB MB ⟨rfl, IB, rfl, hCB, hfB, hsB⟩
  refine XP_ifN (x := 1)  rfl (by omega) (fun (b28 : 1 = 0) => absurd b28 (by omega)) (fun (b28 : ¬ 1 = 0) => ?_)
  refine XP_n 2 (pc' := 31) (ls' := [.ref (9), .int (x1), x2]) (st' := [.int (nI (0)), .ref (9)]) (M' := (IB, J, Rx R, N, G)) rfl ?_
  refine XP_call rfl rfl ((x_all hL hb 5 0 rfl).2.2 X (d + 79) IB J R N G [] u true (nx b L P) (by omega) hCB ⟨hsB.trans hS.1, fun j hj => by rw [hfB 11 (by omega)]; exact hS.2 j hj⟩ (nx_L hP) (by omega) rfl rfl (fun _ => rfl) (fun z => by cases z)) ?_
  rintro vX MX ⟨IX, rfl, hfX, hzX, hX⟩
  rcases hX with ⟨u2, p2, rfl, hCX, hSX, hX⟩ | ⟨p2, rfl, hCX, hX⟩
  · obtain ⟨ha, ua, k0, hn, hc⟩ := hX
    have hbd := k0.bnd
    have hr2 := tk_rg (b := b) (L := L) p2
    by_cases g2 : tk b L p2 = 59
    · refine XP_ifN (x := 1)  rfl (by omega) (fun (b32 : 1 = 0) => absurd b32 (by omega)) (fun (b32 : ¬ 1 = 0) => ?_)
      refine XP_n 2 (pc' := 35) (ls' := [.ref (9), .int (x1), x2]) (st' := [.int (nI (59)), .ref (9)]) (M' := (IX, J, Rx R, N, G)) rfl ?_
      refine XP_call rfl rfl (c_stT hCX hL hb hbd.1 (g2)) ?_
      rintro vC MC ⟨rfl, IC, rfl, hCC, hfC, hsC⟩
      refine XP_ifN (x := 1)  rfl (by omega) (fun (b36 : ¬ 1 = 0) => ?_) (fun (b36 : 1 = 0) => absurd b36 (by omega))
      exact kOk IC u2 _ ⟨g, p2, ⟨ha, ua, k0, hn, hc⟩, g2, rfl⟩ hCC ⟨hsC.trans hSX.1, fun j hj => by rw [hfC 11 (by omega)]; exact hSX.2 j hj⟩ (fun k h1 h2 => (hfC k h1).trans ((hfX k h1 h2).trans (hfB k h1)))
    · refine XP_ifN (x := 1)  rfl (by omega) (fun (b32 : 1 = 0) => absurd b32 (by omega)) (fun (b32 : ¬ 1 = 0) => ?_)
      refine XP_n 2 (pc' := 35) (ls' := [.ref (9), .int (x1), x2]) (st' := [.int (nI (59)), .ref (9)]) (M' := (IX, J, Rx R, N, G)) rfl ?_
      refine XP_pure rfl rfl (c_stF hCX (g2) (by omega)) ?_
      refine XP_ifN (x := 0)  rfl (by omega) (fun (b36 : ¬ 0 = 0) => absurd b36 (by omega)) (fun (b36 : 0 = 0) => ?_)
      exact kBad IX p2 (Or.inr ⟨g, fail_top ⟨ha, ua, k0, hn, hc⟩ g2⟩) hCX (fun k h1 h2 => (hfX k h1 h2).trans (hfB k h1))
  · refine XP_ifN (x := 0)  rfl (by omega) (fun (b32 : 0 = 0) => ?_) (fun (b32 : ¬ 0 = 0) => absurd b32 (by omega))
    exact kBad IX p2 (Or.inr ⟨g, hX⟩) hCX (fun k h1 h2 => (hfX k h1 h2).trans (hfB k h1))
theorem l_rp2 (hL : L ≤ 160) (hb : ∀ i, i < L → b i ≤ 255) {P : Nat} {u : List Nat} (hP : P ≤ L) (hu : u.length ≤ P) (x1 x2 : Int32) (hC : Cur b L I P) (hS : Sg I u) {Q : Option Value → hM → Prop} (kOk : ∀ (I1 : Nat → Nat → Int32) (u' : List Nat) (P' : Nat), PartOk b L 2 P u u' P' → Cur b L I1 P' → Sg I1 u' → (∀ k, k ≠ 9 → k ≠ 11 → I1 k = I k) → XP X (d + 80) k_Reader_read 54 [.ref 9, .int (x1), .int (x2)] [] (I1, J, Rx R, N, G) Q) (kBad : ∀ (I1 : Nat → Nat → Int32) (q : Nat), PartFail b L 2 P u q → Cur b L I1 q → (∀ k, k ≠ 9 → k ≠ 11 → I1 k = I k) → XP X (d + 80) k_Reader_read 58 [.ref 9, .int (x1), .int (x2)] [] (I1, J, Rx R, N, G) Q) : XP X (d + 80) k_Reader_read 42 [.ref 9, .int (x1), .int (x2)] [] (I, J, Rx R, N, G) Q := by
  have hr := tk_rg (b := b) (L := L) P
  by_cases g : tk b L P = 1008
  rotate_left
  · skip
    refine XP_n 2 (pc' := 44) (ls' := [.ref (9), .int (x1), .int (x2)]) (st' := [.int (nI (1008)), .ref (9)]) (M' := (I, J, Rx R, N, G)) rfl ?_
    refine XP_pure rfl rfl (c_stF hC (g) (by omega)) ?_
    refine XP_ifN (x := 0)  rfl (by omega) (fun (b45 : 0 = 0) => ?_) (fun (b45 : ¬ 0 = 0) => absurd b45 (by omega))
    exact kBad _ P (Or.inl ⟨g, rfl⟩) hC (fun _ _ _ => rfl)
  have htn := tk_nx (b := b) (L := L) (p := P) (by omega)
  refine XP_n 2 (pc' := 44) (ls' := [.ref (9), .int (x1), .int (x2)]) (st' := [.int (nI (1008)), .ref (9)]) (M' := (I, J, Rx R, N, G)) rfl ?_
  refine XP_call rfl rfl (c_stT hC hL hb hP (g)) ?_
  rintro vB MB ⟨rfl, IB, rfl, hCB, hfB, hsB⟩
  refine XP_ifN (x := 1)  rfl (by omega) (fun (b45 : 1 = 0) => absurd b45 (by omega)) (fun (b45 : ¬ 1 = 0) => ?_)
  refine XP_n 2 (pc' := 48) (ls' := [.ref (9), .int (x1), .int (x2)]) (st' := [.int (nI (0)), .ref (9)]) (M' := (IB, J, Rx R, N, G)) rfl ?_
  refine XP_call rfl rfl ((x_all hL hb 5 0 rfl).2.2 X (d + 79) IB J R N G [] u true (nx b L P) (by omega) hCB ⟨hsB.trans hS.1, fun j hj => by rw [hfB 11 (by omega)]; exact hS.2 j hj⟩ (nx_L hP) (by omega) rfl rfl (fun _ => rfl) (fun z => by cases z)) ?_
  rintro vX MX ⟨IX, rfl, hfX, hzX, hX⟩
  rcases hX with ⟨u2, p2, rfl, hCX, hSX, hX⟩ | ⟨p2, rfl, hCX, hX⟩
  · obtain ⟨ha, ua, k0, hn, hc⟩ := hX
    have hbd := k0.bnd
    have hr2 := tk_rg (b := b) (L := L) p2
    by_cases g2 : tk b L p2 = 59
    · refine XP_ifN (x := 1)  rfl (by omega) (fun (b49 : 1 = 0) => absurd b49 (by omega)) (fun (b49 : ¬ 1 = 0) => ?_)
      refine XP_n 2 (pc' := 52) (ls' := [.ref (9), .int (x1), .int (x2)]) (st' := [.int (nI (59)), .ref (9)]) (M' := (IX, J, Rx R, N, G)) rfl ?_
      refine XP_call rfl rfl (c_stT hCX hL hb hbd.1 (g2)) ?_
      rintro vC MC ⟨rfl, IC, rfl, hCC, hfC, hsC⟩
      refine XP_ifN (x := 1)  rfl (by omega) (fun (b53 : 1 = 0) => absurd b53 (by omega)) (fun (b53 : ¬ 1 = 0) => ?_)
      exact kOk IC u2 _ ⟨g, p2, ⟨ha, ua, k0, hn, hc⟩, g2, rfl⟩ hCC ⟨hsC.trans hSX.1, fun j hj => by rw [hfC 11 (by omega)]; exact hSX.2 j hj⟩ (fun k h1 h2 => (hfC k h1).trans ((hfX k h1 h2).trans (hfB k h1)))
    · refine XP_ifN (x := 1)  rfl (by omega) (fun (b49 : 1 = 0) => absurd b49 (by omega)) (fun (b49 : ¬ 1 = 0) => ?_)
      refine XP_n 2 (pc' := 52) (ls' := [.ref (9), .int (x1), .int (x2)]) (st' := [.int (nI (59)), .ref (9)]) (M' := (IX, J, Rx R, N, G)) rfl ?_
      refine XP_pure rfl rfl (c_stF hCX (g2) (by omega)) ?_
      refine XP_ifN (x := 0)  rfl (by omega) (fun (b53 : 0 = 0) => ?_) (fun (b53 : ¬ 0 = 0) => absurd b53 (by omega))
      exact kBad IX p2 (Or.inr ⟨g, fail_top ⟨ha, ua, k0, hn, hc⟩ g2⟩) hCX (fun k h1 h2 => (hfX k h1 h2).trans (hfB k h1))
  · refine XP_ifN (x := 0)  rfl (by omega) (fun (b49 : 0 = 0) => ?_) (fun (b49 : ¬ 0 = 0) => absurd b49 (by omega))
    exact kBad IX p2 (Or.inr ⟨g, hX⟩) hCX (fun k h1 h2 => (hfX k h1 h2).trans (hfB k h1))
end
