/-! the class's reading of an expression -/
def Sg (I : Nat → Nat → Int32) (u : List Nat) : Prop := I 9 7 = nI u.length ∧ ∀ j, j < u.length → I 11 j = nI (trS (u.getD j 0))
theorem tr_nm {t : Nat} (h1 : 1000 ≤ t) (h2 : t < 1006) : nI (10000 + t - 1000) = nI (trS (t - 1000)) := by
  have e : trS (t - 1000) = 10000 + t - 1000 := by
    unfold trS
    rw [if_neg (by omega), if_pos (by omega)]
    omega
  rw [e]
theorem gd_app {u : List Nat} {c j : Nat} : (u ++ [c]).getD j 0 = if j < u.length then u.getD j 0 else if j = u.length then c else 0 := by
  by_cases g : j < u.length
  · rw [if_pos g]
    simp [List.getD, List.getElem?_append, g]
  · rw [if_neg g]
    by_cases e : j = u.length
    · rw [if_pos e, e]
      simp [List.getD]
    · rw [if_neg e]
      simp only [List.getD]
      rw [List.getElem?_eq_none (by rw [List.length_append]; show u.length + 1 ≤ j; omega)]
      rfl
abbrev QX (b : Nat → Nat) (L : Nat) (r : Nat) (h u : List Nat) (m : Bool) (p : Nat) (I : Nat → Nat → Int32) (J : Nat → Nat → Int64) (R : Nat → Nat → Option Nat) (N : Nat → Nat) (G : hG) : Option Value → hM → Prop := fun v M' => ∃ I', M' = (I', J, Rx R, N, G) ∧ (∀ k, k ≠ 9 → k ≠ 11 → I' k = I k) ∧ I' 9 1 = I 9 1 ∧
  ((∃ u' p', v = some (.int (nI 1)) ∧ Cur b L I' p' ∧ Sg I' u' ∧ OkX b L r h u m p u' p') ∨ (∃ p', v = some (.int (nI 0)) ∧ Cur b L I' p' ∧ FailAt b L ((h, u), true, m, p) p'))
/-- what method y does, for what is read with r, where k and e bound the depth -/
def CX (b : Nat → Nat) (L : Nat) (y r lw k e o : Nat) (mc : Bool) : Prop := ∀ (X : hX) (D : Nat) (I : Nat → Nat → Int32) (J : Nat → Nat → Int64) (R : Nat → Nat → Option Nat) (N : Nat → Nat) (G : hG) (h u : List Nat) (m : Bool) (p : Nat), k + 7 * e ≤ D → Cur b L I p → Sg I u → p ≤ L → u.length ≤ p → cnt h = o → lowB lw h = true → (mc = true → m = true) → (mc = false → m = false ∨ tk b L p ≠ 1011) → TP X D y [.ref 9, .int (nI o)] (I, J, Rx R, N, G) (QX b L r h u m p I J R N G)
section
variable {X : hX} {d : Nat} {s I : Nat → Nat → Int32} {J : Nat → Nat → Int64} {R : Nat → Nat → Option Nat} {N : Nat → Nat} {G : hG} {b : Nat → Nat} {L : Nat}
theorem Cur.of {I' : Nat → Nat → Int32} {p : Nat} (h : Cur b L I p) (h1 : ∀ j, j ≠ 7 → I' 9 j = I 9 j) (h2 : I' 10 = I 10) : Cur b L I' p := by
  obtain ⟨⟨a, c⟩, d, e, f, g⟩ := h
  refine ⟨⟨by rw [h1 1 (by omega)]; exact a, fun i hi => by rw [h2]; exact c i hi⟩, by rw [h1 2 (by omega)]; exact d, by rw [h1 3 (by omega)]; exact e, by rw [h1 5 (by omega)]; exact f, fun z => by rw [h1 4 (by omega)]; exact g z⟩
theorem c_rput {u : List Nat} (hS : Sg I u) (hu : u.length < 160) {p : Nat} (hC : Cur b L I p) {c : Nat} {x : Int32} (hx : x = nI (trS c)) : TP X d n_Reader_put [.ref 9, .int x] (I, J, Rx R, N, G) (fun v M' => v = none ∧ ∃ I', M' = (I', J, Rx R, N, G) ∧ Sg I' (u ++ [c]) ∧ Cur b L I' p ∧ (∀ k, k ≠ 9 → k ≠ 11 → I' k = I k) ∧ I' 9 1 = I 9 1) := by
  unfold TP
  show XP X _ k_Reader_put 0 [.ref (9), .int (x)] [] _ _
  refine XP_n 2 (pc' := 2) (ls' := [.ref (9), .int (x)]) (st' := [.int (I 9 7)]) (M' := (I, J, Rx R, N, G)) rfl ?_
  rw [hS.1]
  refine XP_ifN (x := u.length)  rfl (by omega) (fun (b2 : u.length < 0) => absurd b2 (by omega)) (fun (b2 : 0 ≤ u.length) => ?_)
  refine XP_n 2 (pc' := 5) (ls' := [.ref (9), .int (x)]) (st' := [.int (I 9 7)]) (M' := (I, J, Rx R, N, G)) rfl ?_
  rw [hS.1]
  refine XP_n 3 (pc' := 8) (ls' := [.ref (9), .int (x)]) (st' := [.int (nI (160)), .int (nI (u.length))]) (M' := (I, J, Rx R, N, G)) rfl ?_
  refine XP_icN (x := u.length) (y := 160) rfl (by omega) (by omega) (fun (b8 : 160 ≤ u.length) => absurd b8 (by omega)) (fun (b8 : u.length < 160) => ?_)
  refine XP_n 5 (pc' := 14) (ls' := [.ref (9), .int (x)]) (st' := [.int (I 9 7), .ref (9), .ref (11)]) (M' := (I, J, Rx R, N, G)) rfl ?_
  rw [hS.1]
  refine XP_n 3 (pc' := 17) (ls' := [.ref (9), .int (x)]) (st' := [.int ((nI (u.length)) + (nI (1))), .ref (9), .int (nI (u.length)), .ref (11)]) (M' := (I, J, Rx R, N, G)) rfl ?_
  rw [show (nI (u.length)) + (nI (1)) = nI (u.length + 1) from nI_addE (rfl) (rfl)]
  refine XP_n 2 (pc' := 19) (ls' := [.ref (9), .int (x)]) (st' := [.int (x), .int (nI (u.length)), .ref (11)]) (M' := ((rw2 I 9 7 (nI (u.length + 1))), J, Rx R, N, G)) rfl ?_
  refine XP_iast rfl rfl (show u.length < 160 by omega) rfl (by omega) ?_
  refine XP_ret rfl ⟨rfl, _, rfl, ⟨by rw [List.length_append]; rfl, fun j hj => ?_⟩, hC.of (fun j hj => by rw [rw2_ro (show (9 : Nat) ≠ 11 by omega), rw2_c, if_neg hj]) (by rw [rw2_ro (show (10 : Nat) ≠ 11 by omega), rw2_ro (show (10 : Nat) ≠ 9 by omega)]), fun k h1 h2 => by rw [rw2_ro h2, rw2_ro h1], rfl⟩
  rw [List.length_append] at hj
  have hj : j < u.length + 1 := hj
  rw [rw2_c, gd_app]
  by_cases e : j = u.length
  · rw [if_pos e, if_neg (by omega), if_pos e]
    exact hx
  · rw [if_neg e, if_pos (by omega), rw2_ro (show (11 : Nat) ≠ 9 by omega)]
    exact hS.2 j (by omega)
theorem x_one (hL : L ≤ 160) (hb : ∀ i, i < L → b i ≤ 255) {e o : Nat} (heo : o + e = 5) (ih1 : ∀ e' o', e = e' + 1 → o' = o + 1 → CX b L n_Reader_isOne 7 8 12 e' o' false) (ihO : ∀ e' o', e = e' + 1 → o' = o + 1 → CX b L n_Reader_isOr 1 1 17 e' o' true) : CX b L n_Reader_isOne 7 8 12 e o false := by
  intro X D I J R N G h u m p hD hC hS hp hu ho hlw hm1 hm2
  have hr := tk_rg (b := b) (L := L) p
  obtain ⟨D, rfl⟩ : ∃ D0, D = D0 + 12 := ⟨D - 12, by omega⟩
  by_cases g1 : tk b L p = 2000
  · have htv := tv_lt hb hp g1
    have htn := tk_nx (b := b) (L := L) (p := p) (by omega)
    have hpl := pl_le (b := b) (L := L) p
    unfold TP
    show XP X _ k_Reader_isOne 0 [.ref (9), .int (nI (o))] [] _ _
    refine XP_n 2 (pc' := 2) (ls' := [.ref (9), .int (nI (o))]) (st' := [.int (I 9 3)]) (M' := (I, J, Rx R, N, G)) rfl ?_
    rw [hC.2.2.1]
    refine XP_n 1 (pc' := 3) (ls' := [.ref (9), .int (nI (o))]) (st' := [.int (nI (2000)), .int (nI (tk b L p))]) (M' := (I, J, Rx R, N, G)) rfl ?_
    refine XP_icN (x := tk b L p) (y := 2000) rfl (by omega) (by omega) (fun (b3 : ¬ tk b L p = 2000) => absurd b3 (by omega)) (fun (b3 : tk b L p = 2000) => ?_)
    refine XP_n 3 (pc' := 7) (ls' := [.ref (9), .int (nI (o))]) (st' := [.int (I 9 4), .ref (9)]) (M' := (I, J, Rx R, N, G)) rfl ?_
    rw [hC.2.2.2.2 g1]
    refine XP_call rfl rfl (c_rput (c := 100000 + tv b L p) hS (by omega) hC (by unfold trS; rw [if_pos (by omega), Nat.add_sub_cancel_left])) ?_
    rintro vA MA ⟨rfl, IA, rfl, hSA, hCA, hfA, hzA⟩
    refine XP_n 1 (pc' := 9) (ls' := [.ref (9), .int (nI (o))]) (st' := [.ref (9)]) (M' := (IA, J, Rx R, N, G)) rfl ?_
    refine XP_call rfl rfl (c_step hCA.1 hL hb (nx_L hp) hCA.2.2.2.1) ?_
    rintro vB MB ⟨rfl, IB, rfl, hCB, hfB, hsB⟩
    refine XP_n 1 (pc' := 11) (ls' := [.ref (9), .int (nI (o))]) (st' := [.int (nI (1))]) (M' := (IB, J, Rx R, N, G)) rfl ?_
    exact XP_ret rfl ⟨_, rfl, fun k h1 h2 => (hfB k h1).trans (hfA k h1 h2), (hCB.1.1).trans hC.1.1.symm, Or.inl ⟨_, _, rfl, hCB, ⟨hsB.trans hSA.1, fun j hj => by rw [hfB 11 (by omega)]; exact hSA.2 j hj⟩, _, _, ok_num hb hp g1, ⟨fun z => absurd z (by omega), fun z => absurd z (by omega), fun z => absurd z (by omega), fun z => absurd z (by omega)⟩, fun z => absurd z (by omega)⟩⟩
  by_cases g2 : 1000 ≤ tk b L p ∧ tk b L p < 1006
  · have htn := tk_nx (b := b) (L := L) (p := p) (by omega)
    have hpl := pl_le (b := b) (L := L) p
    unfold TP
    show XP X _ k_Reader_isOne 0 [.ref (9), .int (nI (o))] [] _ _
    refine XP_n 2 (pc' := 2) (ls' := [.ref (9), .int (nI (o))]) (st' := [.int (I 9 3)]) (M' := (I, J, Rx R, N, G)) rfl ?_
    rw [hC.2.2.1]
    refine XP_n 1 (pc' := 3) (ls' := [.ref (9), .int (nI (o))]) (st' := [.int (nI (2000)), .int (nI (tk b L p))]) (M' := (I, J, Rx R, N, G)) rfl ?_
    refine XP_icN (x := tk b L p) (y := 2000) rfl (by omega) (by omega) (fun (b3 : ¬ tk b L p = 2000) => ?_) (fun (b3 : tk b L p = 2000) => absurd b3 (by omega))
    refine XP_n 2 (pc' := 14) (ls' := [.ref (9), .int (nI (o))]) (st' := [.int (I 9 3)]) (M' := (I, J, Rx R, N, G)) rfl ?_
    rw [hC.2.2.1]
    refine XP_n 1 (pc' := 15) (ls' := [.ref (9), .int (nI (o))]) (st' := [.int (nI (1000)), .int (nI (tk b L p))]) (M' := (I, J, Rx R, N, G)) rfl ?_
    refine XP_icN (x := tk b L p) (y := 1000) rfl (by omega) (by omega) (fun (b15 : tk b L p < 1000) => absurd b15 (by omega)) (fun (b15 : 1000 ≤ tk b L p) => ?_)
    refine XP_n 2 (pc' := 18) (ls' := [.ref (9), .int (nI (o))]) (st' := [.int (I 9 3)]) (M' := (I, J, Rx R, N, G)) rfl ?_
    rw [hC.2.2.1]
    refine XP_n 1 (pc' := 19) (ls' := [.ref (9), .int (nI (o))]) (st' := [.int (nI (1006)), .int (nI (tk b L p))]) (M' := (I, J, Rx R, N, G)) rfl ?_
    refine XP_icN (x := tk b L p) (y := 1006) rfl (by omega) (by omega) (fun (b19 : 1006 ≤ tk b L p) => absurd b19 (by omega)) (fun (b19 : tk b L p < 1006) => ?_)
    refine XP_n 4 (pc' := 24) (ls' := [.ref (9), .int (nI (o))]) (st' := [.int (I 9 3), .int (nI (10000)), .ref (9)]) (M' := (I, J, Rx R, N, G)) rfl ?_
    rw [hC.2.2.1]
    refine XP_n 3 (pc' := 27) (ls' := [.ref (9), .int (nI (o))]) (st' := [.int (((nI (10000)) + (nI (tk b L p))) - (nI (1000))), .ref (9)]) (M' := (I, J, Rx R, N, G)) rfl ?_
    rw [show ((nI (10000)) + (nI (tk b L p))) - (nI (1000)) = nI (10000 + tk b L p - 1000) from nI_subE (nI_addE (rfl) (rfl)) (rfl) (by omega)]
    refine XP_call rfl rfl (c_rput (c := tk b L p - 1000) hS (by omega) hC (tr_nm g2.1 g2.2)) ?_
    rintro vA MA ⟨rfl, IA, rfl, hSA, hCA, hfA, hzA⟩
    refine XP_n 1 (pc' := 29) (ls' := [.ref (9), .int (nI (o))]) (st' := [.ref (9)]) (M' := (IA, J, Rx R, N, G)) rfl ?_
    refine XP_call rfl rfl (c_step hCA.1 hL hb (nx_L hp) hCA.2.2.2.1) ?_
    rintro vB MB ⟨rfl, IB, rfl, hCB, hfB, hsB⟩
    refine XP_n 1 (pc' := 31) (ls' := [.ref (9), .int (nI (o))]) (st' := [.int (nI (1))]) (M' := (IB, J, Rx R, N, G)) rfl ?_
    exact XP_ret rfl ⟨_, rfl, fun k h1 h2 => (hfB k h1).trans (hfA k h1 h2), (hCB.1.1).trans hC.1.1.symm, Or.inl ⟨_, _, rfl, hCB, ⟨hsB.trans hSA.1, fun j hj => by rw [hfB 11 (by omega)]; exact hSA.2 j hj⟩, _, _, ok_name hp g2.1 g2.2, ⟨fun z => absurd z (by omega), fun z => absurd z (by omega), fun z => absurd z (by omega), fun z => absurd z (by omega)⟩, fun z => absurd z (by omega)⟩⟩
  have hfl : cnt h = 5 ∨ (tk b L p ≠ 45 ∧ tk b L p ≠ 40 ∧ (tk b L p ≠ 1011 ∨ m = false)) → FailAt b L ((h, u), true, m, p) p := fail_one g1 g2
  have hm3 : tk b L p ≠ 1011 ∨ m = false := (hm2 rfl).symm
  by_cases g3 : o = 5
  · skip
    by_cases g4 : tk b L p < 1000
    · skip
      unfold TP
      show XP X _ k_Reader_isOne 0 [.ref (9), .int (nI (o))] [] _ _
      refine XP_n 2 (pc' := 2) (ls' := [.ref (9), .int (nI (o))]) (st' := [.int (I 9 3)]) (M' := (I, J, Rx R, N, G)) rfl ?_
      rw [hC.2.2.1]
      refine XP_n 1 (pc' := 3) (ls' := [.ref (9), .int (nI (o))]) (st' := [.int (nI (2000)), .int (nI (tk b L p))]) (M' := (I, J, Rx R, N, G)) rfl ?_
      refine XP_icN (x := tk b L p) (y := 2000) rfl (by omega) (by omega) (fun (b3 : ¬ tk b L p = 2000) => ?_) (fun (b3 : tk b L p = 2000) => absurd b3 (by omega))
      refine XP_n 2 (pc' := 14) (ls' := [.ref (9), .int (nI (o))]) (st' := [.int (I 9 3)]) (M' := (I, J, Rx R, N, G)) rfl ?_
      rw [hC.2.2.1]
      refine XP_n 1 (pc' := 15) (ls' := [.ref (9), .int (nI (o))]) (st' := [.int (nI (1000)), .int (nI (tk b L p))]) (M' := (I, J, Rx R, N, G)) rfl ?_
      refine XP_icN (x := tk b L p) (y := 1000) rfl (by omega) (by omega) (fun (b15 : tk b L p < 1000) => ?_) (fun (b15 : 1000 ≤ tk b L p) => absurd b15 (by omega))
      refine XP_n 2 (pc' := 34) (ls' := [.ref (9), .int (nI (o))]) (st' := [.int (nI (5)), .int (nI (o))]) (M' := (I, J, Rx R, N, G)) rfl ?_
      refine XP_icN (x := o) (y := 5) rfl (by omega) (by omega) (fun (b34 : o < 5) => absurd b34 (by omega)) (fun (b34 : 5 ≤ o) => ?_)
      refine XP_n 1 (pc' := 36) (ls' := [.ref (9), .int (nI (o))]) (st' := [.int (nI (0))]) (M' := (I, J, Rx R, N, G)) rfl ?_
      exact XP_ret rfl ⟨_, rfl, fun _ _ _ => rfl, rfl, Or.inr ⟨_, rfl, hC, hfl (Or.inl (by omega))⟩⟩
    · skip
      unfold TP
      show XP X _ k_Reader_isOne 0 [.ref (9), .int (nI (o))] [] _ _
      refine XP_n 2 (pc' := 2) (ls' := [.ref (9), .int (nI (o))]) (st' := [.int (I 9 3)]) (M' := (I, J, Rx R, N, G)) rfl ?_
      rw [hC.2.2.1]
      refine XP_n 1 (pc' := 3) (ls' := [.ref (9), .int (nI (o))]) (st' := [.int (nI (2000)), .int (nI (tk b L p))]) (M' := (I, J, Rx R, N, G)) rfl ?_
      refine XP_icN (x := tk b L p) (y := 2000) rfl (by omega) (by omega) (fun (b3 : ¬ tk b L p = 2000) => ?_) (fun (b3 : tk b L p = 2000) => absurd b3 (by omega))
      refine XP_n 2 (pc' := 14) (ls' := [.ref (9), .int (nI (o))]) (st' := [.int (I 9 3)]) (M' := (I, J, Rx R, N, G)) rfl ?_
      rw [hC.2.2.1]
      refine XP_n 1 (pc' := 15) (ls' := [.ref (9), .int (nI (o))]) (st' := [.int (nI (1000)), .int (nI (tk b L p))]) (M' := (I, J, Rx R, N, G)) rfl ?_
      refine XP_icN (x := tk b L p) (y := 1000) rfl (by omega) (by omega) (fun (b15 : tk b L p < 1000) => absurd b15 (by omega)) (fun (b15 : 1000 ≤ tk b L p) => ?_)
      refine XP_n 2 (pc' := 18) (ls' := [.ref (9), .int (nI (o))]) (st' := [.int (I 9 3)]) (M' := (I, J, Rx R, N, G)) rfl ?_
      rw [hC.2.2.1]
      refine XP_n 1 (pc' := 19) (ls' := [.ref (9), .int (nI (o))]) (st' := [.int (nI (1006)), .int (nI (tk b L p))]) (M' := (I, J, Rx R, N, G)) rfl ?_
      refine XP_icN (x := tk b L p) (y := 1006) rfl (by omega) (by omega) (fun (b19 : 1006 ≤ tk b L p) => ?_) (fun (b19 : tk b L p < 1006) => absurd b19 (by omega))
      refine XP_n 2 (pc' := 34) (ls' := [.ref (9), .int (nI (o))]) (st' := [.int (nI (5)), .int (nI (o))]) (M' := (I, J, Rx R, N, G)) rfl ?_
      refine XP_icN (x := o) (y := 5) rfl (by omega) (by omega) (fun (b34 : o < 5) => absurd b34 (by omega)) (fun (b34 : 5 ≤ o) => ?_)
      refine XP_n 1 (pc' := 36) (ls' := [.ref (9), .int (nI (o))]) (st' := [.int (nI (0))]) (M' := (I, J, Rx R, N, G)) rfl ?_
      exact XP_ret rfl ⟨_, rfl, fun _ _ _ => rfl, rfl, Or.inr ⟨_, rfl, hC, hfl (Or.inl (by omega))⟩⟩
  obtain ⟨e1, rfl⟩ : ∃ e1, e = e1 + 1 := ⟨e - 1, by omega⟩
  have hcn : cnt h ≠ 5 := by omega
  by_cases g5 : tk b L p = 45
  · have htn := tk_nx (b := b) (L := L) (p := p) (by omega)
    have hpl := pl_le (b := b) (L := L) p
    have hst : stp b L ((h, u), true, m, p) = some ((19 :: h, u), true, false, nx b L p) := stp_pre hcn (Or.inr (Or.inl ⟨g5, rfl, rfl⟩))
    have hc19 : cnt (19 :: h) = o + 1 := by show 1 + cnt h = o + 1; omega
    unfold TP
    show XP X _ k_Reader_isOne 0 [.ref (9), .int (nI (o))] [] _ _
    refine XP_n 2 (pc' := 2) (ls' := [.ref (9), .int (nI (o))]) (st' := [.int (I 9 3)]) (M' := (I, J, Rx R, N, G)) rfl ?_
    rw [hC.2.2.1]
    refine XP_n 1 (pc' := 3) (ls' := [.ref (9), .int (nI (o))]) (st' := [.int (nI (2000)), .int (nI (tk b L p))]) (M' := (I, J, Rx R, N, G)) rfl ?_
    refine XP_icN (x := tk b L p) (y := 2000) rfl (by omega) (by omega) (fun (b3 : ¬ tk b L p = 2000) => ?_) (fun (b3 : tk b L p = 2000) => absurd b3 (by omega))
    refine XP_n 2 (pc' := 14) (ls' := [.ref (9), .int (nI (o))]) (st' := [.int (I 9 3)]) (M' := (I, J, Rx R, N, G)) rfl ?_
    rw [hC.2.2.1]
    refine XP_n 1 (pc' := 15) (ls' := [.ref (9), .int (nI (o))]) (st' := [.int (nI (1000)), .int (nI (tk b L p))]) (M' := (I, J, Rx R, N, G)) rfl ?_
    refine XP_icN (x := tk b L p) (y := 1000) rfl (by omega) (by omega) (fun (b15 : tk b L p < 1000) => ?_) (fun (b15 : 1000 ≤ tk b L p) => absurd b15 (by omega))
    refine XP_n 2 (pc' := 34) (ls' := [.ref (9), .int (nI (o))]) (st' := [.int (nI (5)), .int (nI (o))]) (M' := (I, J, Rx R, N, G)) rfl ?_
    refine XP_icN (x := o) (y := 5) rfl (by omega) (by omega) (fun (b34 : o < 5) => ?_) (fun (b34 : 5 ≤ o) => absurd b34 (by omega))
    refine XP_n 2 (pc' := 39) (ls' := [.ref (9), .int (nI (o))]) (st' := [.int (nI (45)), .ref (9)]) (M' := (I, J, Rx R, N, G)) rfl ?_
    refine XP_call rfl rfl (c_stT hC hL hb hp (g5)) ?_
    rintro vB MB ⟨rfl, IB, rfl, hCB, hfB, hsB⟩
    refine XP_ifN (x := 1)  rfl (by omega) (fun (b40 : 1 = 0) => absurd b40 (by omega)) (fun (b40 : ¬ 1 = 0) => ?_)
    refine XP_n 4 (pc' := 45) (ls' := [.ref (9), .int (nI (o))]) (st' := [.int ((nI (o)) + (nI (1))), .ref (9)]) (M' := (IB, J, Rx R, N, G)) rfl ?_
    rw [show (nI (o)) + (nI (1)) = nI (o + 1) from nI_addE (rfl) (rfl)]
    refine XP_call rfl rfl (ih1 e1 (o + 1) rfl rfl X (D + 11) IB J R N G (19 :: h) u false (nx b L p) (by omega) hCB ⟨hsB.trans hS.1, fun j hj => by rw [hfB 11 (by omega)]; exact hS.2 j hj⟩ (nx_L hp) (by omega) hc19 rfl (fun z => by cases z) (fun _ => Or.inl rfl)) ?_
    rintro vX MX ⟨IX, rfl, hfX, hzX, hX⟩
    rcases hX with ⟨u2, p2, rfl, hCX, hSX, hX⟩ | ⟨p2, rfl, hCX, hX⟩
    · obtain ⟨ha, ua, k0, -, -⟩ := hX
      have hbd := k0.bnd
      have hpl2 := pl_le (b := b) (L := L) p2
      refine XP_ifN (x := 1)  rfl (by omega) (fun (b46 : ¬ 1 = 0) => ?_) (fun (b46 : 1 = 0) => absurd b46 (by omega))
      refine XP_n 2 (pc' := 51) (ls' := [.ref (9), .int (nI (o))]) (st' := [.int (nI (10018)), .ref (9)]) (M' := (IX, J, Rx R, N, G)) rfl ?_
      refine XP_call rfl rfl (c_rput (c := 19) hSX (by omega) hCX (rfl)) ?_
      rintro vP MP ⟨rfl, IP, rfl, hSP, hCP, hfP, hzP⟩
      refine XP_n 1 (pc' := 53) (ls' := [.ref (9), .int (nI (o))]) (st' := [.int (nI (1))]) (M' := (IP, J, Rx R, N, G)) rfl ?_
      exact XP_ret rfl ⟨_, rfl, fun k h1 h2 => (hfP k h1 h2).trans ((hfX k h1 h2).trans (hfB k h1)), (hCP.1.1).trans hC.1.1.symm, Or.inl ⟨_, _, rfl, hCP, hSP, _, _, ok_u htn.1 hst (Or.inr rfl) (by decide) k0, ⟨fun z => absurd z (by omega), fun z => absurd z (by omega), fun z => absurd z (by omega), fun z => absurd z (by omega)⟩, fun z => absurd z (by omega)⟩⟩
    · refine XP_ifN (x := 0)  rfl (by omega) (fun (b46 : ¬ 0 = 0) => absurd b46 (by omega)) (fun (b46 : 0 = 0) => ?_)
      refine XP_n 1 (pc' := 48) (ls' := [.ref (9), .int (nI (o))]) (st' := [.int (nI (0))]) (M' := (IX, J, Rx R, N, G)) rfl ?_
      exact XP_ret rfl ⟨_, rfl, fun k h1 h2 => (hfX k h1 h2).trans (hfB k h1), (hCX.1.1).trans hC.1.1.symm, Or.inr ⟨_, rfl, hCX, hX.l (Leads.one hst)⟩⟩
  by_cases g6 : tk b L p = 40
  · have htn := tk_nx (b := b) (L := L) (p := p) (by omega)
    have hpl := pl_le (b := b) (L := L) p
    have hst : stp b L ((h, u), true, m, p) = some ((0 :: h, u), true, true, nx b L p) := stp_pre hcn (Or.inr (Or.inr ⟨g6, rfl, rfl⟩))
    have hc0 : cnt (0 :: h) = o + 1 := by show 1 + cnt h = o + 1; omega
    unfold TP
    show XP X _ k_Reader_isOne 0 [.ref (9), .int (nI (o))] [] _ _
    refine XP_n 2 (pc' := 2) (ls' := [.ref (9), .int (nI (o))]) (st' := [.int (I 9 3)]) (M' := (I, J, Rx R, N, G)) rfl ?_
    rw [hC.2.2.1]
    refine XP_n 1 (pc' := 3) (ls' := [.ref (9), .int (nI (o))]) (st' := [.int (nI (2000)), .int (nI (tk b L p))]) (M' := (I, J, Rx R, N, G)) rfl ?_
    refine XP_icN (x := tk b L p) (y := 2000) rfl (by omega) (by omega) (fun (b3 : ¬ tk b L p = 2000) => ?_) (fun (b3 : tk b L p = 2000) => absurd b3 (by omega))
    refine XP_n 2 (pc' := 14) (ls' := [.ref (9), .int (nI (o))]) (st' := [.int (I 9 3)]) (M' := (I, J, Rx R, N, G)) rfl ?_
    rw [hC.2.2.1]
    refine XP_n 1 (pc' := 15) (ls' := [.ref (9), .int (nI (o))]) (st' := [.int (nI (1000)), .int (nI (tk b L p))]) (M' := (I, J, Rx R, N, G)) rfl ?_
    refine XP_icN (x := tk b L p) (y := 1000) rfl (by omega) (by omega) (fun (b15 : tk b L p < 1000) => ?_) (fun (b15 : 1000 ≤ tk b L p) => absurd b15 (by omega))
    refine XP_n 2 (pc' := 34) (ls' := [.ref (9), .int (nI (o))]) (st' := [.int (nI (5)), .int (nI (o))]) (M' := (I, J, Rx R, N, G)) rfl ?_
    refine XP_icN (x := o) (y := 5) rfl (by omega) (by omega) (fun (b34 : o < 5) => ?_) (fun (b34 : 5 ≤ o) => absurd b34 (by omega))
    refine XP_n 2 (pc' := 39) (ls' := [.ref (9), .int (nI (o))]) (st' := [.int (nI (45)), .ref (9)]) (M' := (I, J, Rx R, N, G)) rfl ?_
    refine XP_pure rfl rfl (c_stF hC (g5) (by omega)) ?_
    refine XP_ifN (x := 0)  rfl (by omega) (fun (b40 : 0 = 0) => ?_) (fun (b40 : ¬ 0 = 0) => absurd b40 (by omega))
    refine XP_n 2 (pc' := 56) (ls' := [.ref (9), .int (nI (o))]) (st' := [.int (nI (40)), .ref (9)]) (M' := (I, J, Rx R, N, G)) rfl ?_
    refine XP_call rfl rfl (c_stT hC hL hb hp (g6)) ?_
    rintro vB MB ⟨rfl, IB, rfl, hCB, hfB, hsB⟩
    refine XP_ifN (x := 1)  rfl (by omega) (fun (b57 : 1 = 0) => absurd b57 (by omega)) (fun (b57 : ¬ 1 = 0) => ?_)
    refine XP_n 4 (pc' := 62) (ls' := [.ref (9), .int (nI (o))]) (st' := [.int ((nI (o)) + (nI (1))), .ref (9)]) (M' := (IB, J, Rx R, N, G)) rfl ?_
    rw [show (nI (o)) + (nI (1)) = nI (o + 1) from nI_addE (rfl) (rfl)]
    refine XP_call rfl rfl (ihO e1 (o + 1) rfl rfl X (D + 11) IB J R N G (0 :: h) u true (nx b L p) (by omega) hCB ⟨hsB.trans hS.1, fun j hj => by rw [hfB 11 (by omega)]; exact hS.2 j hj⟩ (nx_L hp) (by omega) hc0 rfl (fun _ => rfl) (fun z => by cases z)) ?_
    rintro vX MX ⟨IX, rfl, hfX, hzX, hX⟩
    rcases hX with ⟨u2, p2, rfl, hCX, hSX, hX⟩ | ⟨p2, rfl, hCX, hX⟩
    · obtain ⟨ha, ua, k0, hn, hc⟩ := hX
      have hbd := k0.bnd
      by_cases g7 : tk b L p2 = 41
      · refine XP_ifN (x := 1)  rfl (by omega) (fun (b63 : 1 = 0) => absurd b63 (by omega)) (fun (b63 : ¬ 1 = 0) => ?_)
        refine XP_n 2 (pc' := 66) (ls' := [.ref (9), .int (nI (o))]) (st' := [.int (nI (41)), .ref (9)]) (M' := (IX, J, Rx R, N, G)) rfl ?_
        refine XP_call rfl rfl (c_stT hCX hL hb hbd.1 (g7)) ?_
        rintro vC MC ⟨rfl, IC, rfl, hCC, hfC, hsC⟩
        refine XP_ifN (x := 1)  rfl (by omega) (fun (b67 : 1 = 0) => absurd b67 (by omega)) (fun (b67 : ¬ 1 = 0) => ?_)
        refine XP_n 2 (pc' := 71) (ls' := [.ref (9), .int (nI (o))]) (st' := [.int (nI (1))]) (M' := (IC, J, Rx R, N, G)) rfl ?_
        exact XP_ret rfl ⟨_, rfl, fun k h1 h2 => (hfC k h1).trans ((hfX k h1 h2).trans (hfB k h1)), (hCC.1.1).trans hC.1.1.symm, Or.inl ⟨_, _, rfl, hCC, ⟨hsC.trans hSX.1, fun j hj => by rw [hfC 11 (by omega)]; exact hSX.2 j hj⟩, _, _, ok_par htn.1 hst k0 g7, ⟨fun z => absurd z (by omega), fun z => absurd z (by omega), fun z => absurd z (by omega), fun z => absurd z (by omega)⟩, fun z => absurd z (by omega)⟩⟩
      · refine XP_ifN (x := 1)  rfl (by omega) (fun (b63 : 1 = 0) => absurd b63 (by omega)) (fun (b63 : ¬ 1 = 0) => ?_)
        refine XP_n 2 (pc' := 66) (ls' := [.ref (9), .int (nI (o))]) (st' := [.int (nI (41)), .ref (9)]) (M' := (IX, J, Rx R, N, G)) rfl ?_
        refine XP_pure rfl rfl (c_stF hCX (g7) (by omega)) ?_
        refine XP_ifN (x := 0)  rfl (by omega) (fun (b67 : 0 = 0) => ?_) (fun (b67 : ¬ 0 = 0) => absurd b67 (by omega))
        refine XP_n 1 (pc' := 71) (ls' := [.ref (9), .int (nI (o))]) (st' := [.int (nI (0))]) (M' := (IX, J, Rx R, N, G)) rfl ?_
        exact XP_ret rfl ⟨_, rfl, fun k h1 h2 => (hfX k h1 h2).trans (hfB k h1), (hCX.1.1).trans hC.1.1.symm, Or.inr ⟨_, rfl, hCX, fail_par hst ⟨ha, ua, k0, hn, hc⟩ g7⟩⟩
    · refine XP_ifN (x := 0)  rfl (by omega) (fun (b63 : 0 = 0) => ?_) (fun (b63 : ¬ 0 = 0) => absurd b63 (by omega))
      refine XP_n 1 (pc' := 71) (ls' := [.ref (9), .int (nI (o))]) (st' := [.int (nI (0))]) (M' := (IX, J, Rx R, N, G)) rfl ?_
      exact XP_ret rfl ⟨_, rfl, fun k h1 h2 => (hfX k h1 h2).trans (hfB k h1), (hCX.1.1).trans hC.1.1.symm, Or.inr ⟨_, rfl, hCX, hX.l (Leads.one hst)⟩⟩
  by_cases g4 : tk b L p < 1000
  · skip
    unfold TP
    show XP X _ k_Reader_isOne 0 [.ref (9), .int (nI (o))] [] _ _
    refine XP_n 2 (pc' := 2) (ls' := [.ref (9), .int (nI (o))]) (st' := [.int (I 9 3)]) (M' := (I, J, Rx R, N, G)) rfl ?_
    rw [hC.2.2.1]
    refine XP_n 1 (pc' := 3) (ls' := [.ref (9), .int (nI (o))]) (st' := [.int (nI (2000)), .int (nI (tk b L p))]) (M' := (I, J, Rx R, N, G)) rfl ?_
    refine XP_icN (x := tk b L p) (y := 2000) rfl (by omega) (by omega) (fun (b3 : ¬ tk b L p = 2000) => ?_) (fun (b3 : tk b L p = 2000) => absurd b3 (by omega))
    refine XP_n 2 (pc' := 14) (ls' := [.ref (9), .int (nI (o))]) (st' := [.int (I 9 3)]) (M' := (I, J, Rx R, N, G)) rfl ?_
    rw [hC.2.2.1]
    refine XP_n 1 (pc' := 15) (ls' := [.ref (9), .int (nI (o))]) (st' := [.int (nI (1000)), .int (nI (tk b L p))]) (M' := (I, J, Rx R, N, G)) rfl ?_
    refine XP_icN (x := tk b L p) (y := 1000) rfl (by omega) (by omega) (fun (b15 : tk b L p < 1000) => ?_) (fun (b15 : 1000 ≤ tk b L p) => absurd b15 (by omega))
    refine XP_n 2 (pc' := 34) (ls' := [.ref (9), .int (nI (o))]) (st' := [.int (nI (5)), .int (nI (o))]) (M' := (I, J, Rx R, N, G)) rfl ?_
    refine XP_icN (x := o) (y := 5) rfl (by omega) (by omega) (fun (b34 : o < 5) => ?_) (fun (b34 : 5 ≤ o) => absurd b34 (by omega))
    refine XP_n 2 (pc' := 39) (ls' := [.ref (9), .int (nI (o))]) (st' := [.int (nI (45)), .ref (9)]) (M' := (I, J, Rx R, N, G)) rfl ?_
    refine XP_pure rfl rfl (c_stF hC (g5) (by omega)) ?_
    refine XP_ifN (x := 0)  rfl (by omega) (fun (b40 : 0 = 0) => ?_) (fun (b40 : ¬ 0 = 0) => absurd b40 (by omega))
    refine XP_n 2 (pc' := 56) (ls' := [.ref (9), .int (nI (o))]) (st' := [.int (nI (40)), .ref (9)]) (M' := (I, J, Rx R, N, G)) rfl ?_
    refine XP_pure rfl rfl (c_stF hC (g6) (by omega)) ?_
    refine XP_ifN (x := 0)  rfl (by omega) (fun (b57 : 0 = 0) => ?_) (fun (b57 : ¬ 0 = 0) => absurd b57 (by omega))
    refine XP_n 1 (pc' := 71) (ls' := [.ref (9), .int (nI (o))]) (st' := [.int (nI (0))]) (M' := (I, J, Rx R, N, G)) rfl ?_
    exact XP_ret rfl ⟨_, rfl, fun _ _ _ => rfl, rfl, Or.inr ⟨_, rfl, hC, hfl (Or.inr ⟨g5, g6, hm3⟩)⟩⟩
  · skip
    unfold TP
    show XP X _ k_Reader_isOne 0 [.ref (9), .int (nI (o))] [] _ _
    refine XP_n 2 (pc' := 2) (ls' := [.ref (9), .int (nI (o))]) (st' := [.int (I 9 3)]) (M' := (I, J, Rx R, N, G)) rfl ?_
    rw [hC.2.2.1]
    refine XP_n 1 (pc' := 3) (ls' := [.ref (9), .int (nI (o))]) (st' := [.int (nI (2000)), .int (nI (tk b L p))]) (M' := (I, J, Rx R, N, G)) rfl ?_
    refine XP_icN (x := tk b L p) (y := 2000) rfl (by omega) (by omega) (fun (b3 : ¬ tk b L p = 2000) => ?_) (fun (b3 : tk b L p = 2000) => absurd b3 (by omega))
    refine XP_n 2 (pc' := 14) (ls' := [.ref (9), .int (nI (o))]) (st' := [.int (I 9 3)]) (M' := (I, J, Rx R, N, G)) rfl ?_
    rw [hC.2.2.1]
    refine XP_n 1 (pc' := 15) (ls' := [.ref (9), .int (nI (o))]) (st' := [.int (nI (1000)), .int (nI (tk b L p))]) (M' := (I, J, Rx R, N, G)) rfl ?_
    refine XP_icN (x := tk b L p) (y := 1000) rfl (by omega) (by omega) (fun (b15 : tk b L p < 1000) => absurd b15 (by omega)) (fun (b15 : 1000 ≤ tk b L p) => ?_)
    refine XP_n 2 (pc' := 18) (ls' := [.ref (9), .int (nI (o))]) (st' := [.int (I 9 3)]) (M' := (I, J, Rx R, N, G)) rfl ?_
    rw [hC.2.2.1]
    refine XP_n 1 (pc' := 19) (ls' := [.ref (9), .int (nI (o))]) (st' := [.int (nI (1006)), .int (nI (tk b L p))]) (M' := (I, J, Rx R, N, G)) rfl ?_
    refine XP_icN (x := tk b L p) (y := 1006) rfl (by omega) (by omega) (fun (b19 : 1006 ≤ tk b L p) => ?_) (fun (b19 : tk b L p < 1006) => absurd b19 (by omega))
    refine XP_n 2 (pc' := 34) (ls' := [.ref (9), .int (nI (o))]) (st' := [.int (nI (5)), .int (nI (o))]) (M' := (I, J, Rx R, N, G)) rfl ?_
    refine XP_icN (x := o) (y := 5) rfl (by omega) (by omega) (fun (b34 : o < 5) => ?_) (fun (b34 : 5 ≤ o) => absurd b34 (by omega))
    refine XP_n 2 (pc' := 39) (ls' := [.ref (9), .int (nI (o))]) (st' := [.int (nI (45)), .ref (9)]) (M' := (I, J, Rx R, N, G)) rfl ?_
    refine XP_pure rfl rfl (c_stF hC (g5) (by omega)) ?_
    refine XP_ifN (x := 0)  rfl (by omega) (fun (b40 : 0 = 0) => ?_) (fun (b40 : ¬ 0 = 0) => absurd b40 (by omega))
    refine XP_n 2 (pc' := 56) (ls' := [.ref (9), .int (nI (o))]) (st' := [.int (nI (40)), .ref (9)]) (M' := (I, J, Rx R, N, G)) rfl ?_
    refine XP_pure rfl rfl (c_stF hC (g6) (by omega)) ?_
    refine XP_ifN (x := 0)  rfl (by omega) (fun (b57 : 0 = 0) => ?_) (fun (b57 : ¬ 0 = 0) => absurd b57 (by omega))
    refine XP_n 1 (pc' := 71) (ls' := [.ref (9), .int (nI (o))]) (st' := [.int (nI (0))]) (M' := (I, J, Rx R, N, G)) rfl ?_
    exact XP_ret rfl ⟨_, rfl, fun _ _ _ => rfl, rfl, Or.inr ⟨_, rfl, hC, hfl (Or.inr ⟨g5, g6, hm3⟩)⟩⟩
end
