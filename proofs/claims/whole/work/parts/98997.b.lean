/-! the model's reading of a text: a part -/
section
variable {X : hX} {d : Nat} {s I : Nat → Nat → Int32} {J : Nat → Nat → Int64} {R : Nat → Nat → Option Nat} {N : Nat → Nat} {G : hG} {B : Nat → Nat → Int32} {t : Nat} {b : Nat → Nat} {L : Nat}
theorem MO.of {u : List Nat} {I' : Nat → Nat → Int32} (h : MO B t I u) (h1 : I' 117 = I 117) (h2 : I' 99 52 = I 99 52) : MO B t I' u := ⟨h2.trans h.1, fun j => by rw [h1]; exact h.2 j⟩
theorem MO.bs {u : List Nat} {B' : Nat → Nat → Int32} (h : MO B t I u) (h1 : B' 117 = B 117) : MO B' t I u := ⟨h.1, fun j => by rw [h1]; exact h.2 j⟩
theorem Fr0.s118 {j : Nat} {x : Int32} (h : Fr0 B I) : Fr0 (rw2 B 118 j x) (rw2 I 118 j x) := by
  refine ⟨fun k h1 h2 h3 => ?_, fun i hi => ?_⟩
  · by_cases e : k = 118
    · subst e
      funext y
      rw [rw2_c, rw2_c, h.1 118 h1 h2 h3]
    · rw [rw2_ro e, rw2_ro e]
      exact h.1 k h1 h2 h3
  · rw [rw2_ro (show (99 : Nat) ≠ 118 by omega), rw2_ro (show (99 : Nat) ≠ 118 by omega)]
    exact h.2 i hi
theorem endU_acc {S : PS} {u : List Nat} (h1 : S.2.1 = false) (h2 : tk b L S.2.2.2 = 59) (h3 : unw 1 S.1.1 S.1.2 = ([], u)) : endU b L S = u := by
  obtain ⟨⟨h, v⟩, w, m, p⟩ := S
  have h1 : w = false := h1
  have h2 : tk b L p = 59 := h2
  have h3 : unw 1 h v = ([], u) := h3
  subst h1
  show (if tk b L p = 59 ∨ tk b L p = 41 then (unw 1 h v).2 else _) = u
  rw [if_pos (Or.inl h2), h3]
theorem acc_stp {S : PS} (h1 : S.2.1 = false) (h2 : tk b L S.2.2.2 = 59) : stp b L S = none := by
  obtain ⟨⟨h, v⟩, w, m, p⟩ := S
  have h1 : w = false := h1
  have h2 : tk b L p = 59 := h2
  subst h1
  show stpN b L h v m p = none
  unfold stpN
  rw [if_pos h2]
theorem l_tok0 (hT : TpM B b L) (hL : L ≤ 160) (hb : ∀ i, i < L → b i ≤ 255) (hD : WD J) (ht : t < 6) (k30 : B 99 30 = nI t) {P : Nat} {u : List Nat} {Q : Option Value → hM → Prop} (hO : MO B t I u) (hF : Fr0 B I) (h44 : I 99 44 = nI P) (hu : u.length ≤ P) (hP : P ≤ L) {u' : List Nat} {P' : Nat} (hX : PartOk b L 0 P u u' P') (kk : ∀ I1 : Nat → Nat → Int32, MO (rw2 B 118 (4 * t + 0) (nI u.length)) t I1 u' → Fr0 (rw2 B 118 (4 * t + 0) (nI u.length)) I1 → I1 99 44 = nI P' → XP X (d + 11) k_M_text 16 [.ref 99, .int (nI 1), .int (nI 1)] [] (I1, J, Rx R, N, G) Q) : XP X (d + 11) k_M_text 16 [.ref 99, .int (nI 1), .int (nI 0)] [] (I, J, Rx R, N, G) Q := by
  have hFB : ∀ x, Fr0 B x → Fr0 (rw2 B 118 (4 * t + 0) (nI u.length)) (rw2 x 118 (4 * t + 0) (nI u.length)) := fun x hx => hx.s118
  have hOB : ∀ x w, MO B t x w → MO (rw2 B 118 (4 * t + 0) (nI u.length)) t (rw2 x 118 (4 * t + 0) (nI u.length)) w := fun x w hx => (hx.of (rw2_ro (by omega)) (by rw [rw2_ro (show (99 : Nat) ≠ 118 by omega)])).bs (rw2_ro (by omega))
  refine XP_n 2 (pc' := 18) (ls' := [.ref (99), .int (nI (1)), .int (nI (0))]) (st' := [.int (nI (3)), .int (nI (0))]) (M' := (I, J, Rx R, N, G)) rfl ?_
  refine XP_icN (x := 0) (y := 3) rfl (by omega) (by omega) (fun (b18 : 3 ≤ 0) => absurd b18 (by omega)) (fun (b18 : 0 < 3) => ?_)
  refine XP_n 1 (pc' := 20) (ls' := [.ref (99), .int (nI (1)), .int (nI (0))]) (st' := [.int (nI (1))]) (M' := (I, J, Rx R, N, G)) rfl ?_
  refine XP_ifN (x := 1)  rfl (by omega) (fun (b20 : 1 = 0) => absurd b20 (by omega)) (fun (b20 : ¬ 1 = 0) => ?_)
  refine XP_n 1 (pc' := 22) (ls' := [.ref (99), .int (nI (1)), .int (nI (0))]) (st' := [.ref (99)]) (M' := (I, J, Rx R, N, G)) rfl ?_
  refine XP_call rfl rfl (c_next (hT.fr hF) hL hb hD hP h44) ?_
  rintro v1 M1 ⟨rfl, I1, rfl, hC, f1, f2⟩
  have hF1 : Fr0 B I1 := hF.of f1 f2
  have hO1 : MO B t I1 u := hO.of (f1 117 (by omega)) (f2 52 (by omega))
  have h46 := hC.2.2.2.1
  have hr := tk_rg (b := b) (L := L) P
  have h30 : I1 99 30 = nI t := (hF1.2 30 (by omega)).trans k30
  obtain ⟨g1, p', k0, h59, hP2⟩ := hX
  obtain ⟨T0, l1, l4, l3, l5, l6⟩ := acc_top k0 h59
  have l4b : tk b L T0.2.2.2 = 59 := by rw [l4]; exact h59
  have l2 := acc_stp l5 l4b
  have l7 := endU_acc l5 l4b l6
  have htn := tk_nx (b := b) (L := L) (p := P) (by omega)
  have q46 : I1 99 46 = nI 3 := by
    rw [h46, g1]
    rfl
  have q47 : I1 99 47 = nI 0 := hC.2.2.2.2.2 0 (by omega) (by rw [g1]; rfl)
  have hTB : TpM (rw2 B 118 (4 * t + 0) (nI u.length)) b L := ⟨hT.1, fun i hi => by rw [rw2_ro (show (116 : Nat) ≠ 118 by omega)]; exact hT.2 i hi⟩
  have kB30 : (rw2 B 118 (4 * t + 0) (nI u.length)) 99 30 = nI t := by rw [rw2_ro (show (99 : Nat) ≠ 118 by omega)]; exact k30
  refine XP_n 2 (pc' := 25) (ls' := [.ref (99), .int (nI (1)), .int (nI (0))]) (st' := [.int (I1 99 46)]) (M' := (I1, J, Rx R, N, G)) rfl ?_
  rw [q46]
  refine XP_n 1 (pc' := 26) (ls' := [.ref (99), .int (nI (1)), .int (nI (0))]) (st' := [.int (nI (3)), .int (nI (3))]) (M' := (I1, J, Rx R, N, G)) rfl ?_
  refine XP_icN (x := 3) (y := 3) rfl (by omega) (by omega) (fun (b26 : ¬ 3 = 3) => absurd b26 (by omega)) (fun (b26 : 3 = 3) => ?_)
  refine XP_n 2 (pc' := 29) (ls' := [.ref (99), .int (nI (1)), .int (nI (0))]) (st' := [.int (I1 99 47)]) (M' := (I1, J, Rx R, N, G)) rfl ?_
  rw [q47]
  refine XP_n 1 (pc' := 30) (ls' := [.ref (99), .int (nI (1)), .int (nI (0))]) (st' := [.int (nI (0)), .int (nI (0))]) (M' := (I1, J, Rx R, N, G)) rfl ?_
  refine XP_icN (x := 0) (y := 0) rfl (by omega) (by omega) (fun (b30 : ¬ 0 = 0) => absurd b30 (by omega)) (fun (b30 : 0 = 0) => ?_)
  refine XP_n 8 (pc' := 40) (ls' := [.ref (99), .int (nI (1)), .int (nI (0))]) (st' := [.int (I1 99 30), .int (nI (4)), .ref (118)]) (M' := (I1, J, Rx R, N, G)) rfl ?_
  rw [h30]
  refine XP_n 5 (pc' := 45) (ls' := [.ref (99), .int (nI (1)), .int (nI (0))]) (st' := [.int (I1 99 52), .int (((nI (4)) * (nI (t))) + (nI (0))), .ref (118)]) (M' := (I1, J, Rx R, N, G)) rfl ?_
  rw [show ((nI (4)) * (nI (t))) + (nI (0)) = nI ((4) * (t) + 0) from nI_addE (nI_mulE (rfl) (rfl)) (rfl)]
  rw [hO1.1]
  refine XP_iast rfl rfl (show (4) * (t) + 0 < 24 by omega) rfl (by omega) ?_
  refine XP_n 1 (pc' := 47) (ls' := [.ref (99), .int (nI (1)), .int (nI (0))]) (st' := [.int (nI (1))]) (M' := ((rw2 I1 118 ((4) * (t) + 0) (nI (u.length))), J, Rx R, N, G)) rfl ?_
  refine XP_ifN (x := 1)  rfl (by omega) (fun (b47 : 1 = 0) => absurd b47 (by omega)) (fun (b47 : ¬ 1 = 0) => ?_)
  refine XP_n 1 (pc' := 49) (ls' := [.ref (99), .int (nI (1)), .int (nI (0))]) (st' := [.ref (99)]) (M' := ((rw2 I1 118 ((4) * (t) + 0) (nI (u.length))), J, Rx R, N, G)) rfl ?_
  refine XP_call rfl rfl (c_eRead (It := (rw2 B 118 (4 * t + 0) (nI u.length))) hTB hL hb hD ht kB30 (hOB _ _ hO1) (hFB _ hF1) (by rw [rw2_ro (show (99 : Nat) ≠ 118 by omega)]; exact hC.2.1) (by omega) (nx_L hP) l1 l2) ?_
  rintro v4 M4 ⟨I4, a, rfl, rfl, ha, hacc, hO4, hF4, h45, h444⟩
  obtain rfl : a = 1 := hacc.mpr l3
  rw [l7] at hO4
  rw [l4, ← hP2] at h444
  refine XP_ifN (x := 1)  rfl (by omega) (fun (b50 : 1 = 0) => absurd b50 (by omega)) (fun (b50 : ¬ 1 = 0) => ?_)
  refine XP_n 4 (pc' := 56) (ls' := [.ref (99), .int (nI (1)), .int (nI (0) + nI (1))]) (st' := []) (M' := (I4, J, Rx R, N, G)) rfl ?_
  rw [show nI (0) + nI (1) = nI (1) from nI_addE (rfl) rfl]
  refine XP_n 1 (pc' := 16) (ls' := [.ref (99), .int (nI (1)), .int (nI (1))]) (st' := []) (M' := (I4, J, Rx R, N, G)) rfl ?_
  exact kk I4 hO4 hF4 h444
theorem l_tmis0 (hT : TpM B b L) (hL : L ≤ 160) (hb : ∀ i, i < L → b i ≤ 255) (hD : WD J) (ht : t < 6) (k30 : B 99 30 = nI t) {P : Nat} {u : List Nat} {Q : Option Value → hM → Prop} (hO : MO B t I u) (hF : Fr0 B I) (h44 : I 99 44 = nI P) (hu : u.length ≤ P) (hP : P ≤ L) (g1 : ¬ tk b L P = 1006) (kk : ∀ I1 : Nat → Nat → Int32, MO (rw2 B 118 (4 * t + 0) (nI u.length)) t I1 u → Fr0 (rw2 B 118 (4 * t + 0) (nI u.length)) I1 → I1 99 45 = nI (pl b L P) → XP X (d + 11) k_M_text 16 [.ref 99, .int (nI 0), .int (nI 1)] [] (I1, J, Rx R, N, G) Q) : XP X (d + 11) k_M_text 16 [.ref 99, .int (nI 1), .int (nI 0)] [] (I, J, Rx R, N, G) Q := by
  have hFB : ∀ x, Fr0 B x → Fr0 (rw2 B 118 (4 * t + 0) (nI u.length)) (rw2 x 118 (4 * t + 0) (nI u.length)) := fun x hx => hx.s118
  have hOB : ∀ x w, MO B t x w → MO (rw2 B 118 (4 * t + 0) (nI u.length)) t (rw2 x 118 (4 * t + 0) (nI u.length)) w := fun x w hx => (hx.of (rw2_ro (by omega)) (by rw [rw2_ro (show (99 : Nat) ≠ 118 by omega)])).bs (rw2_ro (by omega))
  refine XP_n 2 (pc' := 18) (ls' := [.ref (99), .int (nI (1)), .int (nI (0))]) (st' := [.int (nI (3)), .int (nI (0))]) (M' := (I, J, Rx R, N, G)) rfl ?_
  refine XP_icN (x := 0) (y := 3) rfl (by omega) (by omega) (fun (b18 : 3 ≤ 0) => absurd b18 (by omega)) (fun (b18 : 0 < 3) => ?_)
  refine XP_n 1 (pc' := 20) (ls' := [.ref (99), .int (nI (1)), .int (nI (0))]) (st' := [.int (nI (1))]) (M' := (I, J, Rx R, N, G)) rfl ?_
  refine XP_ifN (x := 1)  rfl (by omega) (fun (b20 : 1 = 0) => absurd b20 (by omega)) (fun (b20 : ¬ 1 = 0) => ?_)
  refine XP_n 1 (pc' := 22) (ls' := [.ref (99), .int (nI (1)), .int (nI (0))]) (st' := [.ref (99)]) (M' := (I, J, Rx R, N, G)) rfl ?_
  refine XP_call rfl rfl (c_next (hT.fr hF) hL hb hD hP h44) ?_
  rintro v1 M1 ⟨rfl, I1, rfl, hC, f1, f2⟩
  have hF1 : Fr0 B I1 := hF.of f1 f2
  have hO1 : MO B t I1 u := hO.of (f1 117 (by omega)) (f2 52 (by omega))
  have h46 := hC.2.2.2.1
  have hr := tk_rg (b := b) (L := L) P
  have h30 : I1 99 30 = nI t := (hF1.2 30 (by omega)).trans k30
  by_cases g2 : tk b L P = 1006 ∨ tk b L P = 1007 ∨ tk b L P = 1008
  rotate_left
  · have hmt : ¬ mT (tk b L P) = nI 3 := by
      have hgr : tk b L P = 40 ∨ tk b L P = 41 ∨ tk b L P = 59 ∨ tk b L P = 1011 ∨ tk b L P = 2000 ∨ tk b L P = 2001 ∨ tk b L P = 2002 ∨ tk b L P = 1000 ∨ tk b L P = 1001 ∨ tk b L P = 1002 ∨ tk b L P = 1003 ∨ tk b L P = 1004 ∨ tk b L P = 1005 ∨ tk b L P = 43 ∨ tk b L P = 45 ∨ tk b L P = 42 ∨ tk b L P = 60 ∨ tk b L P = 61 ∨ tk b L P = 1009 ∨ tk b L P = 1010 := by omega
      rcases hgr with z | z | z | z | z | z | z | z | z | z | z | z | z | z | z | z | z | z | z | z <;> rw [z] <;> decide
    refine XP_n 2 (pc' := 25) (ls' := [.ref (99), .int (nI (1)), .int (nI (0))]) (st' := [.int (I1 99 46)]) (M' := (I1, J, Rx R, N, G)) rfl ?_
    rw [h46]
    refine XP_n 1 (pc' := 26) (ls' := [.ref (99), .int (nI (1)), .int (nI (0))]) (st' := [.int (nI (3)), .int (mT (tk b L P))]) (M' := (I1, J, Rx R, N, G)) rfl ?_
    refine XP_icD rfl (fun (b26 : ¬ mT (tk b L P) = nI (3)) => ?_) (fun (b26 : mT (tk b L P) = nI (3)) => absurd b26 (by first | exact hmt | exact fun z => z hmt | exact Int32.not_le.mpr hmt | exact Int32.not_lt.mpr (Int32.not_lt.mp hmt) | omega))
    refine XP_n 7 (pc' := 40) (ls' := [.ref (99), .int (nI (0)), .int (nI (0))]) (st' := [.int (I1 99 30), .int (nI (4)), .ref (118)]) (M' := (I1, J, Rx R, N, G)) rfl ?_
    rw [h30]
    refine XP_n 5 (pc' := 45) (ls' := [.ref (99), .int (nI (0)), .int (nI (0))]) (st' := [.int (I1 99 52), .int (((nI (4)) * (nI (t))) + (nI (0))), .ref (118)]) (M' := (I1, J, Rx R, N, G)) rfl ?_
    rw [show ((nI (4)) * (nI (t))) + (nI (0)) = nI ((4) * (t) + 0) from nI_addE (nI_mulE (rfl) (rfl)) (rfl)]
    rw [hO1.1]
    refine XP_iast rfl rfl (show (4) * (t) + 0 < 24 by omega) rfl (by omega) ?_
    refine XP_n 1 (pc' := 47) (ls' := [.ref (99), .int (nI (0)), .int (nI (0))]) (st' := [.int (nI (0))]) (M' := ((rw2 I1 118 ((4) * (t) + 0) (nI (u.length))), J, Rx R, N, G)) rfl ?_
    refine XP_ifN (x := 0)  rfl (by omega) (fun (b47 : 0 = 0) => ?_) (fun (b47 : ¬ 0 = 0) => absurd b47 (by omega))
    refine XP_n 3 (pc' := 56) (ls' := [.ref (99), .int (nI (0)), .int (nI (0) + nI (1))]) (st' := []) (M' := ((rw2 I1 118 ((4) * (t) + 0) (nI (u.length))), J, Rx R, N, G)) rfl ?_
    rw [show nI (0) + nI (1) = nI (1) from nI_addE (rfl) rfl]
    refine XP_n 1 (pc' := 16) (ls' := [.ref (99), .int (nI (0)), .int (nI (1))]) (st' := []) (M' := ((rw2 I1 118 ((4) * (t) + 0) (nI (u.length))), J, Rx R, N, G)) rfl ?_
    exact kk _ (hOB _ _ hO1) (hFB _ hF1) hC.2.2.1
  have q46 : I1 99 46 = nI 3 := by
    rw [h46]
    rcases g2 with z | z | z <;> rw [z] <;> rfl
  have q47 : I1 99 47 = nI (tk b L P - 1006) := by
    have hw := hC.2.2.2.2.2 (tk b L P - 1006) (by omega) (by rcases g2 with z | z | z <;> rw [z] <;> rfl)
    rw [if_pos (by omega)] at hw
    exact hw
  refine XP_n 2 (pc' := 25) (ls' := [.ref (99), .int (nI (1)), .int (nI (0))]) (st' := [.int (I1 99 46)]) (M' := (I1, J, Rx R, N, G)) rfl ?_
  rw [q46]
  refine XP_n 1 (pc' := 26) (ls' := [.ref (99), .int (nI (1)), .int (nI (0))]) (st' := [.int (nI (3)), .int (nI (3))]) (M' := (I1, J, Rx R, N, G)) rfl ?_
  refine XP_icN (x := 3) (y := 3) rfl (by omega) (by omega) (fun (b26 : ¬ 3 = 3) => absurd b26 (by omega)) (fun (b26 : 3 = 3) => ?_)
  refine XP_n 2 (pc' := 29) (ls' := [.ref (99), .int (nI (1)), .int (nI (0))]) (st' := [.int (I1 99 47)]) (M' := (I1, J, Rx R, N, G)) rfl ?_
  rw [q47]
  refine XP_n 1 (pc' := 30) (ls' := [.ref (99), .int (nI (1)), .int (nI (0))]) (st' := [.int (nI (0)), .int (nI (tk b L P - 1006))]) (M' := (I1, J, Rx R, N, G)) rfl ?_
  refine XP_icN (x := tk b L P - 1006) (y := 0) rfl (by omega) (by omega) (fun (b30 : ¬ tk b L P - 1006 = 0) => ?_) (fun (b30 : tk b L P - 1006 = 0) => absurd b30 (by omega))
  refine XP_n 7 (pc' := 40) (ls' := [.ref (99), .int (nI (0)), .int (nI (0))]) (st' := [.int (I1 99 30), .int (nI (4)), .ref (118)]) (M' := (I1, J, Rx R, N, G)) rfl ?_
  rw [h30]
  refine XP_n 5 (pc' := 45) (ls' := [.ref (99), .int (nI (0)), .int (nI (0))]) (st' := [.int (I1 99 52), .int (((nI (4)) * (nI (t))) + (nI (0))), .ref (118)]) (M' := (I1, J, Rx R, N, G)) rfl ?_
  rw [show ((nI (4)) * (nI (t))) + (nI (0)) = nI ((4) * (t) + 0) from nI_addE (nI_mulE (rfl) (rfl)) (rfl)]
  rw [hO1.1]
  refine XP_iast rfl rfl (show (4) * (t) + 0 < 24 by omega) rfl (by omega) ?_
  refine XP_n 1 (pc' := 47) (ls' := [.ref (99), .int (nI (0)), .int (nI (0))]) (st' := [.int (nI (0))]) (M' := ((rw2 I1 118 ((4) * (t) + 0) (nI (u.length))), J, Rx R, N, G)) rfl ?_
  refine XP_ifN (x := 0)  rfl (by omega) (fun (b47 : 0 = 0) => ?_) (fun (b47 : ¬ 0 = 0) => absurd b47 (by omega))
  refine XP_n 3 (pc' := 56) (ls' := [.ref (99), .int (nI (0)), .int (nI (0) + nI (1))]) (st' := []) (M' := ((rw2 I1 118 ((4) * (t) + 0) (nI (u.length))), J, Rx R, N, G)) rfl ?_
  rw [show nI (0) + nI (1) = nI (1) from nI_addE (rfl) rfl]
  refine XP_n 1 (pc' := 16) (ls' := [.ref (99), .int (nI (0)), .int (nI (1))]) (st' := []) (M' := ((rw2 I1 118 ((4) * (t) + 0) (nI (u.length))), J, Rx R, N, G)) rfl ?_
  exact kk _ (hOB _ _ hO1) (hFB _ hF1) hC.2.2.1
theorem l_tfail0 (hT : TpM B b L) (hL : L ≤ 160) (hb : ∀ i, i < L → b i ≤ 255) (hD : WD J) (ht : t < 6) (k30 : B 99 30 = nI t) {P : Nat} {u : List Nat} {Q : Option Value → hM → Prop} (hO : MO B t I u) (hF : Fr0 B I) (h44 : I 99 44 = nI P) (hu : u.length ≤ P) (hP : P ≤ L) {T0 : PS} (g1 : tk b L P = 1006) (l1 : Leads b L (([], u), true, true, nx b L P) T0) (l2 : stp b L T0 = none) (l3 : ¬ Acc b L T0) (kk : ∀ I1 : Nat → Nat → Int32, MO (rw2 B 118 (4 * t + 0) (nI u.length)) t I1 (endU b L T0) → Fr0 (rw2 B 118 (4 * t + 0) (nI u.length)) I1 → I1 99 45 = nI (pl b L T0.2.2.2) → XP X (d + 11) k_M_text 16 [.ref 99, .int (nI 0), .int (nI 1)] [] (I1, J, Rx R, N, G) Q) : XP X (d + 11) k_M_text 16 [.ref 99, .int (nI 1), .int (nI 0)] [] (I, J, Rx R, N, G) Q := by
  have hFB : ∀ x, Fr0 B x → Fr0 (rw2 B 118 (4 * t + 0) (nI u.length)) (rw2 x 118 (4 * t + 0) (nI u.length)) := fun x hx => hx.s118
  have hOB : ∀ x w, MO B t x w → MO (rw2 B 118 (4 * t + 0) (nI u.length)) t (rw2 x 118 (4 * t + 0) (nI u.length)) w := fun x w hx => (hx.of (rw2_ro (by omega)) (by rw [rw2_ro (show (99 : Nat) ≠ 118 by omega)])).bs (rw2_ro (by omega))
  refine XP_n 2 (pc' := 18) (ls' := [.ref (99), .int (nI (1)), .int (nI (0))]) (st' := [.int (nI (3)), .int (nI (0))]) (M' := (I, J, Rx R, N, G)) rfl ?_
  refine XP_icN (x := 0) (y := 3) rfl (by omega) (by omega) (fun (b18 : 3 ≤ 0) => absurd b18 (by omega)) (fun (b18 : 0 < 3) => ?_)
  refine XP_n 1 (pc' := 20) (ls' := [.ref (99), .int (nI (1)), .int (nI (0))]) (st' := [.int (nI (1))]) (M' := (I, J, Rx R, N, G)) rfl ?_
  refine XP_ifN (x := 1)  rfl (by omega) (fun (b20 : 1 = 0) => absurd b20 (by omega)) (fun (b20 : ¬ 1 = 0) => ?_)
  refine XP_n 1 (pc' := 22) (ls' := [.ref (99), .int (nI (1)), .int (nI (0))]) (st' := [.ref (99)]) (M' := (I, J, Rx R, N, G)) rfl ?_
  refine XP_call rfl rfl (c_next (hT.fr hF) hL hb hD hP h44) ?_
  rintro v1 M1 ⟨rfl, I1, rfl, hC, f1, f2⟩
  have hF1 : Fr0 B I1 := hF.of f1 f2
  have hO1 : MO B t I1 u := hO.of (f1 117 (by omega)) (f2 52 (by omega))
  have h46 := hC.2.2.2.1
  have hr := tk_rg (b := b) (L := L) P
  have h30 : I1 99 30 = nI t := (hF1.2 30 (by omega)).trans k30
  have htn := tk_nx (b := b) (L := L) (p := P) (by omega)
  have q46 : I1 99 46 = nI 3 := by
    rw [h46, g1]
    rfl
  have q47 : I1 99 47 = nI 0 := hC.2.2.2.2.2 0 (by omega) (by rw [g1]; rfl)
  have hTB : TpM (rw2 B 118 (4 * t + 0) (nI u.length)) b L := ⟨hT.1, fun i hi => by rw [rw2_ro (show (116 : Nat) ≠ 118 by omega)]; exact hT.2 i hi⟩
  have kB30 : (rw2 B 118 (4 * t + 0) (nI u.length)) 99 30 = nI t := by rw [rw2_ro (show (99 : Nat) ≠ 118 by omega)]; exact k30
  refine XP_n 2 (pc' := 25) (ls' := [.ref (99), .int (nI (1)), .int (nI (0))]) (st' := [.int (I1 99 46)]) (M' := (I1, J, Rx R, N, G)) rfl ?_
  rw [q46]
  refine XP_n 1 (pc' := 26) (ls' := [.ref (99), .int (nI (1)), .int (nI (0))]) (st' := [.int (nI (3)), .int (nI (3))]) (M' := (I1, J, Rx R, N, G)) rfl ?_
  refine XP_icN (x := 3) (y := 3) rfl (by omega) (by omega) (fun (b26 : ¬ 3 = 3) => absurd b26 (by omega)) (fun (b26 : 3 = 3) => ?_)
  refine XP_n 2 (pc' := 29) (ls' := [.ref (99), .int (nI (1)), .int (nI (0))]) (st' := [.int (I1 99 47)]) (M' := (I1, J, Rx R, N, G)) rfl ?_
  rw [q47]
  refine XP_n 1 (pc' := 30) (ls' := [.ref (99), .int (nI (1)), .int (nI (0))]) (st' := [.int (nI (0)), .int (nI (0))]) (M' := (I1, J, Rx R, N, G)) rfl ?_
  refine XP_icN (x := 0) (y := 0) rfl (by omega) (by omega) (fun (b30 : ¬ 0 = 0) => absurd b30 (by omega)) (fun (b30 : 0 = 0) => ?_)
  refine XP_n 8 (pc' := 40) (ls' := [.ref (99), .int (nI (1)), .int (nI (0))]) (st' := [.int (I1 99 30), .int (nI (4)), .ref (118)]) (M' := (I1, J, Rx R, N, G)) rfl ?_
  rw [h30]
  refine XP_n 5 (pc' := 45) (ls' := [.ref (99), .int (nI (1)), .int (nI (0))]) (st' := [.int (I1 99 52), .int (((nI (4)) * (nI (t))) + (nI (0))), .ref (118)]) (M' := (I1, J, Rx R, N, G)) rfl ?_
  rw [show ((nI (4)) * (nI (t))) + (nI (0)) = nI ((4) * (t) + 0) from nI_addE (nI_mulE (rfl) (rfl)) (rfl)]
  rw [hO1.1]
  refine XP_iast rfl rfl (show (4) * (t) + 0 < 24 by omega) rfl (by omega) ?_
  refine XP_n 1 (pc' := 47) (ls' := [.ref (99), .int (nI (1)), .int (nI (0))]) (st' := [.int (nI (1))]) (M' := ((rw2 I1 118 ((4) * (t) + 0) (nI (u.length))), J, Rx R, N, G)) rfl ?_
  refine XP_ifN (x := 1)  rfl (by omega) (fun (b47 : 1 = 0) => absurd b47 (by omega)) (fun (b47 : ¬ 1 = 0) => ?_)
  refine XP_n 1 (pc' := 49) (ls' := [.ref (99), .int (nI (1)), .int (nI (0))]) (st' := [.ref (99)]) (M' := ((rw2 I1 118 ((4) * (t) + 0) (nI (u.length))), J, Rx R, N, G)) rfl ?_
  refine XP_call rfl rfl (c_eRead (It := (rw2 B 118 (4 * t + 0) (nI u.length))) hTB hL hb hD ht kB30 (hOB _ _ hO1) (hFB _ hF1) (by rw [rw2_ro (show (99 : Nat) ≠ 118 by omega)]; exact hC.2.1) (by omega) (nx_L hP) l1 l2) ?_
  rintro v4 M4 ⟨I4, a, rfl, rfl, ha, hacc, hO4, hF4, h45, h444⟩
  have ha0 : a ≠ 1 := fun z => l3 (hacc.mp z)
  obtain rfl : a = 0 := by omega
  refine XP_ifN (x := 0)  rfl (by omega) (fun (b50 : 0 = 0) => ?_) (fun (b50 : ¬ 0 = 0) => absurd b50 (by omega))
  refine XP_n 3 (pc' := 56) (ls' := [.ref (99), .int (nI (0)), .int (nI (0) + nI (1))]) (st' := []) (M' := (I4, J, Rx R, N, G)) rfl ?_
  rw [show nI (0) + nI (1) = nI (1) from nI_addE (rfl) rfl]
  refine XP_n 1 (pc' := 16) (ls' := [.ref (99), .int (nI (0)), .int (nI (1))]) (st' := []) (M' := (I4, J, Rx R, N, G)) rfl ?_
  exact kk I4 hO4 hF4 h45
theorem l_tok1 (hT : TpM B b L) (hL : L ≤ 160) (hb : ∀ i, i < L → b i ≤ 255) (hD : WD J) (ht : t < 6) (k30 : B 99 30 = nI t) {P : Nat} {u : List Nat} {Q : Option Value → hM → Prop} (hO : MO B t I u) (hF : Fr0 B I) (h44 : I 99 44 = nI P) (hu : u.length ≤ P) (hP : P ≤ L) {u' : List Nat} {P' : Nat} (hX : PartOk b L 1 P u u' P') (kk : ∀ I1 : Nat → Nat → Int32, MO (rw2 B 118 (4 * t + 1) (nI u.length)) t I1 u' → Fr0 (rw2 B 118 (4 * t + 1) (nI u.length)) I1 → I1 99 44 = nI P' → XP X (d + 11) k_M_text 16 [.ref 99, .int (nI 1), .int (nI 2)] [] (I1, J, Rx R, N, G) Q) : XP X (d + 11) k_M_text 16 [.ref 99, .int (nI 1), .int (nI 1)] [] (I, J, Rx R, N, G) Q := by
  have hFB : ∀ x, Fr0 B x → Fr0 (rw2 B 118 (4 * t + 1) (nI u.length)) (rw2 x 118 (4 * t + 1) (nI u.length)) := fun x hx => hx.s118
  have hOB : ∀ x w, MO B t x w → MO (rw2 B 118 (4 * t + 1) (nI u.length)) t (rw2 x 118 (4 * t + 1) (nI u.length)) w := fun x w hx => (hx.of (rw2_ro (by omega)) (by rw [rw2_ro (show (99 : Nat) ≠ 118 by omega)])).bs (rw2_ro (by omega))
  refine XP_n 2 (pc' := 18) (ls' := [.ref (99), .int (nI (1)), .int (nI (1))]) (st' := [.int (nI (3)), .int (nI (1))]) (M' := (I, J, Rx R, N, G)) rfl ?_
  refine XP_icN (x := 1) (y := 3) rfl (by omega) (by omega) (fun (b18 : 3 ≤ 1) => absurd b18 (by omega)) (fun (b18 : 1 < 3) => ?_)
  refine XP_n 1 (pc' := 20) (ls' := [.ref (99), .int (nI (1)), .int (nI (1))]) (st' := [.int (nI (1))]) (M' := (I, J, Rx R, N, G)) rfl ?_
  refine XP_ifN (x := 1)  rfl (by omega) (fun (b20 : 1 = 0) => absurd b20 (by omega)) (fun (b20 : ¬ 1 = 0) => ?_)
  refine XP_n 1 (pc' := 22) (ls' := [.ref (99), .int (nI (1)), .int (nI (1))]) (st' := [.ref (99)]) (M' := (I, J, Rx R, N, G)) rfl ?_
  refine XP_call rfl rfl (c_next (hT.fr hF) hL hb hD hP h44) ?_
  rintro v1 M1 ⟨rfl, I1, rfl, hC, f1, f2⟩
  have hF1 : Fr0 B I1 := hF.of f1 f2
  have hO1 : MO B t I1 u := hO.of (f1 117 (by omega)) (f2 52 (by omega))
  have h46 := hC.2.2.2.1
  have hr := tk_rg (b := b) (L := L) P
  have h30 : I1 99 30 = nI t := (hF1.2 30 (by omega)).trans k30
  obtain ⟨g1, p', k0, h59, hP2⟩ := hX
  obtain ⟨T0, l1, l4, l3, l5, l6⟩ := acc_top k0 h59
  have l4b : tk b L T0.2.2.2 = 59 := by rw [l4]; exact h59
  have l2 := acc_stp l5 l4b
  have l7 := endU_acc l5 l4b l6
  have htn := tk_nx (b := b) (L := L) (p := P) (by omega)
  have q46 : I1 99 46 = nI 3 := by
    rw [h46, g1]
    rfl
  have q47 : I1 99 47 = nI 1 := hC.2.2.2.2.2 1 (by omega) (by rw [g1]; rfl)
  have hTB : TpM (rw2 B 118 (4 * t + 1) (nI u.length)) b L := ⟨hT.1, fun i hi => by rw [rw2_ro (show (116 : Nat) ≠ 118 by omega)]; exact hT.2 i hi⟩
  have kB30 : (rw2 B 118 (4 * t + 1) (nI u.length)) 99 30 = nI t := by rw [rw2_ro (show (99 : Nat) ≠ 118 by omega)]; exact k30
  refine XP_n 2 (pc' := 25) (ls' := [.ref (99), .int (nI (1)), .int (nI (1))]) (st' := [.int (I1 99 46)]) (M' := (I1, J, Rx R, N, G)) rfl ?_
  rw [q46]
  refine XP_n 1 (pc' := 26) (ls' := [.ref (99), .int (nI (1)), .int (nI (1))]) (st' := [.int (nI (3)), .int (nI (3))]) (M' := (I1, J, Rx R, N, G)) rfl ?_
  refine XP_icN (x := 3) (y := 3) rfl (by omega) (by omega) (fun (b26 : ¬ 3 = 3) => absurd b26 (by omega)) (fun (b26 : 3 = 3) => ?_)
  refine XP_n 2 (pc' := 29) (ls' := [.ref (99), .int (nI (1)), .int (nI (1))]) (st' := [.int (I1 99 47)]) (M' := (I1, J, Rx R, N, G)) rfl ?_
  rw [q47]
  refine XP_n 1 (pc' := 30) (ls' := [.ref (99), .int (nI (1)), .int (nI (1))]) (st' := [.int (nI (1)), .int (nI (1))]) (M' := (I1, J, Rx R, N, G)) rfl ?_
  refine XP_icN (x := 1) (y := 1) rfl (by omega) (by omega) (fun (b30 : ¬ 1 = 1) => absurd b30 (by omega)) (fun (b30 : 1 = 1) => ?_)
  refine XP_n 8 (pc' := 40) (ls' := [.ref (99), .int (nI (1)), .int (nI (1))]) (st' := [.int (I1 99 30), .int (nI (4)), .ref (118)]) (M' := (I1, J, Rx R, N, G)) rfl ?_
  rw [h30]
  refine XP_n 5 (pc' := 45) (ls' := [.ref (99), .int (nI (1)), .int (nI (1))]) (st' := [.int (I1 99 52), .int (((nI (4)) * (nI (t))) + (nI (1))), .ref (118)]) (M' := (I1, J, Rx R, N, G)) rfl ?_
  rw [show ((nI (4)) * (nI (t))) + (nI (1)) = nI ((4) * (t) + 1) from nI_addE (nI_mulE (rfl) (rfl)) (rfl)]
  rw [hO1.1]
  refine XP_iast rfl rfl (show (4) * (t) + 1 < 24 by omega) rfl (by omega) ?_
  refine XP_n 1 (pc' := 47) (ls' := [.ref (99), .int (nI (1)), .int (nI (1))]) (st' := [.int (nI (1))]) (M' := ((rw2 I1 118 ((4) * (t) + 1) (nI (u.length))), J, Rx R, N, G)) rfl ?_
  refine XP_ifN (x := 1)  rfl (by omega) (fun (b47 : 1 = 0) => absurd b47 (by omega)) (fun (b47 : ¬ 1 = 0) => ?_)
  refine XP_n 1 (pc' := 49) (ls' := [.ref (99), .int (nI (1)), .int (nI (1))]) (st' := [.ref (99)]) (M' := ((rw2 I1 118 ((4) * (t) + 1) (nI (u.length))), J, Rx R, N, G)) rfl ?_
  refine XP_call rfl rfl (c_eRead (It := (rw2 B 118 (4 * t + 1) (nI u.length))) hTB hL hb hD ht kB30 (hOB _ _ hO1) (hFB _ hF1) (by rw [rw2_ro (show (99 : Nat) ≠ 118 by omega)]; exact hC.2.1) (by omega) (nx_L hP) l1 l2) ?_
  rintro v4 M4 ⟨I4, a, rfl, rfl, ha, hacc, hO4, hF4, h45, h444⟩
  obtain rfl : a = 1 := hacc.mpr l3
  rw [l7] at hO4
  rw [l4, ← hP2] at h444
  refine XP_ifN (x := 1)  rfl (by omega) (fun (b50 : 1 = 0) => absurd b50 (by omega)) (fun (b50 : ¬ 1 = 0) => ?_)
  refine XP_n 4 (pc' := 56) (ls' := [.ref (99), .int (nI (1)), .int (nI (1) + nI (1))]) (st' := []) (M' := (I4, J, Rx R, N, G)) rfl ?_
  rw [show nI (1) + nI (1) = nI (2) from nI_addE (rfl) rfl]
  refine XP_n 1 (pc' := 16) (ls' := [.ref (99), .int (nI (1)), .int (nI (2))]) (st' := []) (M' := (I4, J, Rx R, N, G)) rfl ?_
  exact kk I4 hO4 hF4 h444
theorem l_tmis1 (hT : TpM B b L) (hL : L ≤ 160) (hb : ∀ i, i < L → b i ≤ 255) (hD : WD J) (ht : t < 6) (k30 : B 99 30 = nI t) {P : Nat} {u : List Nat} {Q : Option Value → hM → Prop} (hO : MO B t I u) (hF : Fr0 B I) (h44 : I 99 44 = nI P) (hu : u.length ≤ P) (hP : P ≤ L) (g1 : ¬ tk b L P = 1007) (kk : ∀ I1 : Nat → Nat → Int32, MO (rw2 B 118 (4 * t + 1) (nI u.length)) t I1 u → Fr0 (rw2 B 118 (4 * t + 1) (nI u.length)) I1 → I1 99 45 = nI (pl b L P) → XP X (d + 11) k_M_text 16 [.ref 99, .int (nI 0), .int (nI 2)] [] (I1, J, Rx R, N, G) Q) : XP X (d + 11) k_M_text 16 [.ref 99, .int (nI 1), .int (nI 1)] [] (I, J, Rx R, N, G) Q := by
  have hFB : ∀ x, Fr0 B x → Fr0 (rw2 B 118 (4 * t + 1) (nI u.length)) (rw2 x 118 (4 * t + 1) (nI u.length)) := fun x hx => hx.s118
  have hOB : ∀ x w, MO B t x w → MO (rw2 B 118 (4 * t + 1) (nI u.length)) t (rw2 x 118 (4 * t + 1) (nI u.length)) w := fun x w hx => (hx.of (rw2_ro (by omega)) (by rw [rw2_ro (show (99 : Nat) ≠ 118 by omega)])).bs (rw2_ro (by omega))
  refine XP_n 2 (pc' := 18) (ls' := [.ref (99), .int (nI (1)), .int (nI (1))]) (st' := [.int (nI (3)), .int (nI (1))]) (M' := (I, J, Rx R, N, G)) rfl ?_
  refine XP_icN (x := 1) (y := 3) rfl (by omega) (by omega) (fun (b18 : 3 ≤ 1) => absurd b18 (by omega)) (fun (b18 : 1 < 3) => ?_)
  refine XP_n 1 (pc' := 20) (ls' := [.ref (99), .int (nI (1)), .int (nI (1))]) (st' := [.int (nI (1))]) (M' := (I, J, Rx R, N, G)) rfl ?_
  refine XP_ifN (x := 1)  rfl (by omega) (fun (b20 : 1 = 0) => absurd b20 (by omega)) (fun (b20 : ¬ 1 = 0) => ?_)
  refine XP_n 1 (pc' := 22) (ls' := [.ref (99), .int (nI (1)), .int (nI (1))]) (st' := [.ref (99)]) (M' := (I, J, Rx R, N, G)) rfl ?_
  refine XP_call rfl rfl (c_next (hT.fr hF) hL hb hD hP h44) ?_
  rintro v1 M1 ⟨rfl, I1, rfl, hC, f1, f2⟩
  have hF1 : Fr0 B I1 := hF.of f1 f2
  have hO1 : MO B t I1 u := hO.of (f1 117 (by omega)) (f2 52 (by omega))
  have h46 := hC.2.2.2.1
  have hr := tk_rg (b := b) (L := L) P
  have h30 : I1 99 30 = nI t := (hF1.2 30 (by omega)).trans k30
  by_cases g2 : tk b L P = 1006 ∨ tk b L P = 1007 ∨ tk b L P = 1008
  rotate_left
  · have hmt : ¬ mT (tk b L P) = nI 3 := by
      have hgr : tk b L P = 40 ∨ tk b L P = 41 ∨ tk b L P = 59 ∨ tk b L P = 1011 ∨ tk b L P = 2000 ∨ tk b L P = 2001 ∨ tk b L P = 2002 ∨ tk b L P = 1000 ∨ tk b L P = 1001 ∨ tk b L P = 1002 ∨ tk b L P = 1003 ∨ tk b L P = 1004 ∨ tk b L P = 1005 ∨ tk b L P = 43 ∨ tk b L P = 45 ∨ tk b L P = 42 ∨ tk b L P = 60 ∨ tk b L P = 61 ∨ tk b L P = 1009 ∨ tk b L P = 1010 := by omega
      rcases hgr with z | z | z | z | z | z | z | z | z | z | z | z | z | z | z | z | z | z | z | z <;> rw [z] <;> decide
    refine XP_n 2 (pc' := 25) (ls' := [.ref (99), .int (nI (1)), .int (nI (1))]) (st' := [.int (I1 99 46)]) (M' := (I1, J, Rx R, N, G)) rfl ?_
    rw [h46]
    refine XP_n 1 (pc' := 26) (ls' := [.ref (99), .int (nI (1)), .int (nI (1))]) (st' := [.int (nI (3)), .int (mT (tk b L P))]) (M' := (I1, J, Rx R, N, G)) rfl ?_
    refine XP_icD rfl (fun (b26 : ¬ mT (tk b L P) = nI (3)) => ?_) (fun (b26 : mT (tk b L P) = nI (3)) => absurd b26 (by first | exact hmt | exact fun z => z hmt | exact Int32.not_le.mpr hmt | exact Int32.not_lt.mpr (Int32.not_lt.mp hmt) | omega))
    refine XP_n 7 (pc' := 40) (ls' := [.ref (99), .int (nI (0)), .int (nI (1))]) (st' := [.int (I1 99 30), .int (nI (4)), .ref (118)]) (M' := (I1, J, Rx R, N, G)) rfl ?_
    rw [h30]
    refine XP_n 5 (pc' := 45) (ls' := [.ref (99), .int (nI (0)), .int (nI (1))]) (st' := [.int (I1 99 52), .int (((nI (4)) * (nI (t))) + (nI (1))), .ref (118)]) (M' := (I1, J, Rx R, N, G)) rfl ?_
    rw [show ((nI (4)) * (nI (t))) + (nI (1)) = nI ((4) * (t) + 1) from nI_addE (nI_mulE (rfl) (rfl)) (rfl)]
    rw [hO1.1]
    refine XP_iast rfl rfl (show (4) * (t) + 1 < 24 by omega) rfl (by omega) ?_
    refine XP_n 1 (pc' := 47) (ls' := [.ref (99), .int (nI (0)), .int (nI (1))]) (st' := [.int (nI (0))]) (M' := ((rw2 I1 118 ((4) * (t) + 1) (nI (u.length))), J, Rx R, N, G)) rfl ?_
    refine XP_ifN (x := 0)  rfl (by omega) (fun (b47 : 0 = 0) => ?_) (fun (b47 : ¬ 0 = 0) => absurd b47 (by omega))
    refine XP_n 3 (pc' := 56) (ls' := [.ref (99), .int (nI (0)), .int (nI (1) + nI (1))]) (st' := []) (M' := ((rw2 I1 118 ((4) * (t) + 1) (nI (u.length))), J, Rx R, N, G)) rfl ?_
    rw [show nI (1) + nI (1) = nI (2) from nI_addE (rfl) rfl]
    refine XP_n 1 (pc' := 16) (ls' := [.ref (99), .int (nI (0)), .int (nI (2))]) (st' := []) (M' := ((rw2 I1 118 ((4) * (t) + 1) (nI (u.length))), J, Rx R, N, G)) rfl ?_
    exact kk _ (hOB _ _ hO1) (hFB _ hF1) hC.2.2.1
  have q46 : I1 99 46 = nI 3 := by
    rw [h46]
    rcases g2 with z | z | z <;> rw [z] <;> rfl
  have q47 : I1 99 47 = nI (tk b L P - 1006) := by
    have hw := hC.2.2.2.2.2 (tk b L P - 1006) (by omega) (by rcases g2 with z | z | z <;> rw [z] <;> rfl)
    rw [if_pos (by omega)] at hw
    exact hw
  refine XP_n 2 (pc' := 25) (ls' := [.ref (99), .int (nI (1)), .int (nI (1))]) (st' := [.int (I1 99 46)]) (M' := (I1, J, Rx R, N, G)) rfl ?_
  rw [q46]
  refine XP_n 1 (pc' := 26) (ls' := [.ref (99), .int (nI (1)), .int (nI (1))]) (st' := [.int (nI (3)), .int (nI (3))]) (M' := (I1, J, Rx R, N, G)) rfl ?_
  refine XP_icN (x := 3) (y := 3) rfl (by omega) (by omega) (fun (b26 : ¬ 3 = 3) => absurd b26 (by omega)) (fun (b26 : 3 = 3) => ?_)
  refine XP_n 2 (pc' := 29) (ls' := [.ref (99), .int (nI (1)), .int (nI (1))]) (st' := [.int (I1 99 47)]) (M' := (I1, J, Rx R, N, G)) rfl ?_
  rw [q47]
  refine XP_n 1 (pc' := 30) (ls' := [.ref (99), .int (nI (1)), .int (nI (1))]) (st' := [.int (nI (1)), .int (nI (tk b L P - 1006))]) (M' := (I1, J, Rx R, N, G)) rfl ?_
  refine XP_icN (x := tk b L P - 1006) (y := 1) rfl (by omega) (by omega) (fun (b30 : ¬ tk b L P - 1006 = 1) => ?_) (fun (b30 : tk b L P - 1006 = 1) => absurd b30 (by omega))
  refine XP_n 7 (pc' := 40) (ls' := [.ref (99), .int (nI (0)), .int (nI (1))]) (st' := [.int (I1 99 30), .int (nI (4)), .ref (118)]) (M' := (I1, J, Rx R, N, G)) rfl ?_
  rw [h30]
  refine XP_n 5 (pc' := 45) (ls' := [.ref (99), .int (nI (0)), .int (nI (1))]) (st' := [.int (I1 99 52), .int (((nI (4)) * (nI (t))) + (nI (1))), .ref (118)]) (M' := (I1, J, Rx R, N, G)) rfl ?_
  rw [show ((nI (4)) * (nI (t))) + (nI (1)) = nI ((4) * (t) + 1) from nI_addE (nI_mulE (rfl) (rfl)) (rfl)]
  rw [hO1.1]
  refine XP_iast rfl rfl (show (4) * (t) + 1 < 24 by omega) rfl (by omega) ?_
  refine XP_n 1 (pc' := 47) (ls' := [.ref (99), .int (nI (0)), .int (nI (1))]) (st' := [.int (nI (0))]) (M' := ((rw2 I1 118 ((4) * (t) + 1) (nI (u.length))), J, Rx R, N, G)) rfl ?_
  refine XP_ifN (x := 0)  rfl (by omega) (fun (b47 : 0 = 0) => ?_) (fun (b47 : ¬ 0 = 0) => absurd b47 (by omega))
  refine XP_n 3 (pc' := 56) (ls' := [.ref (99), .int (nI (0)), .int (nI (1) + nI (1))]) (st' := []) (M' := ((rw2 I1 118 ((4) * (t) + 1) (nI (u.length))), J, Rx R, N, G)) rfl ?_
  rw [show nI (1) + nI (1) = nI (2) from nI_addE (rfl) rfl]
  refine XP_n 1 (pc' := 16) (ls' := [.ref (99), .int (nI (0)), .int (nI (2))]) (st' := []) (M' := ((rw2 I1 118 ((4) * (t) + 1) (nI (u.length))), J, Rx R, N, G)) rfl ?_
  exact kk _ (hOB _ _ hO1) (hFB _ hF1) hC.2.2.1
theorem l_tfail1 (hT : TpM B b L) (hL : L ≤ 160) (hb : ∀ i, i < L → b i ≤ 255) (hD : WD J) (ht : t < 6) (k30 : B 99 30 = nI t) {P : Nat} {u : List Nat} {Q : Option Value → hM → Prop} (hO : MO B t I u) (hF : Fr0 B I) (h44 : I 99 44 = nI P) (hu : u.length ≤ P) (hP : P ≤ L) {T0 : PS} (g1 : tk b L P = 1007) (l1 : Leads b L (([], u), true, true, nx b L P) T0) (l2 : stp b L T0 = none) (l3 : ¬ Acc b L T0) (kk : ∀ I1 : Nat → Nat → Int32, MO (rw2 B 118 (4 * t + 1) (nI u.length)) t I1 (endU b L T0) → Fr0 (rw2 B 118 (4 * t + 1) (nI u.length)) I1 → I1 99 45 = nI (pl b L T0.2.2.2) → XP X (d + 11) k_M_text 16 [.ref 99, .int (nI 0), .int (nI 2)] [] (I1, J, Rx R, N, G) Q) : XP X (d + 11) k_M_text 16 [.ref 99, .int (nI 1), .int (nI 1)] [] (I, J, Rx R, N, G) Q := by
  have hFB : ∀ x, Fr0 B x → Fr0 (rw2 B 118 (4 * t + 1) (nI u.length)) (rw2 x 118 (4 * t + 1) (nI u.length)) := fun x hx => hx.s118
  have hOB : ∀ x w, MO B t x w → MO (rw2 B 118 (4 * t + 1) (nI u.length)) t (rw2 x 118 (4 * t + 1) (nI u.length)) w := fun x w hx => (hx.of (rw2_ro (by omega)) (by rw [rw2_ro (show (99 : Nat) ≠ 118 by omega)])).bs (rw2_ro (by omega))
  refine XP_n 2 (pc' := 18) (ls' := [.ref (99), .int (nI (1)), .int (nI (1))]) (st' := [.int (nI (3)), .int (nI (1))]) (M' := (I, J, Rx R, N, G)) rfl ?_
  refine XP_icN (x := 1) (y := 3) rfl (by omega) (by omega) (fun (b18 : 3 ≤ 1) => absurd b18 (by omega)) (fun (b18 : 1 < 3) => ?_)
  refine XP_n 1 (pc' := 20) (ls' := [.ref (99), .int (nI (1)), .int (nI (1))]) (st' := [.int (nI (1))]) (M' := (I, J, Rx R, N, G)) rfl ?_
  refine XP_ifN (x := 1)  rfl (by omega) (fun (b20 : 1 = 0) => absurd b20 (by omega)) (fun (b20 : ¬ 1 = 0) => ?_)
  refine XP_n 1 (pc' := 22) (ls' := [.ref (99), .int (nI (1)), .int (nI (1))]) (st' := [.ref (99)]) (M' := (I, J, Rx R, N, G)) rfl ?_
  refine XP_call rfl rfl (c_next (hT.fr hF) hL hb hD hP h44) ?_
  rintro v1 M1 ⟨rfl, I1, rfl, hC, f1, f2⟩
  have hF1 : Fr0 B I1 := hF.of f1 f2
  have hO1 : MO B t I1 u := hO.of (f1 117 (by omega)) (f2 52 (by omega))
  have h46 := hC.2.2.2.1
  have hr := tk_rg (b := b) (L := L) P
  have h30 : I1 99 30 = nI t := (hF1.2 30 (by omega)).trans k30
  have htn := tk_nx (b := b) (L := L) (p := P) (by omega)
  have q46 : I1 99 46 = nI 3 := by
    rw [h46, g1]
    rfl
  have q47 : I1 99 47 = nI 1 := hC.2.2.2.2.2 1 (by omega) (by rw [g1]; rfl)
  have hTB : TpM (rw2 B 118 (4 * t + 1) (nI u.length)) b L := ⟨hT.1, fun i hi => by rw [rw2_ro (show (116 : Nat) ≠ 118 by omega)]; exact hT.2 i hi⟩
  have kB30 : (rw2 B 118 (4 * t + 1) (nI u.length)) 99 30 = nI t := by rw [rw2_ro (show (99 : Nat) ≠ 118 by omega)]; exact k30
  refine XP_n 2 (pc' := 25) (ls' := [.ref (99), .int (nI (1)), .int (nI (1))]) (st' := [.int (I1 99 46)]) (M' := (I1, J, Rx R, N, G)) rfl ?_
  rw [q46]
  refine XP_n 1 (pc' := 26) (ls' := [.ref (99), .int (nI (1)), .int (nI (1))]) (st' := [.int (nI (3)), .int (nI (3))]) (M' := (I1, J, Rx R, N, G)) rfl ?_
  refine XP_icN (x := 3) (y := 3) rfl (by omega) (by omega) (fun (b26 : ¬ 3 = 3) => absurd b26 (by omega)) (fun (b26 : 3 = 3) => ?_)
  refine XP_n 2 (pc' := 29) (ls' := [.ref (99), .int (nI (1)), .int (nI (1))]) (st' := [.int (I1 99 47)]) (M' := (I1, J, Rx R, N, G)) rfl ?_
  rw [q47]
  refine XP_n 1 (pc' := 30) (ls' := [.ref (99), .int (nI (1)), .int (nI (1))]) (st' := [.int (nI (1)), .int (nI (1))]) (M' := (I1, J, Rx R, N, G)) rfl ?_
  refine XP_icN (x := 1) (y := 1) rfl (by omega) (by omega) (fun (b30 : ¬ 1 = 1) => absurd b30 (by omega)) (fun (b30 : 1 = 1) => ?_)
  refine XP_n 8 (pc' := 40) (ls' := [.ref (99), .int (nI (1)), .int (nI (1))]) (st' := [.int (I1 99 30), .int (nI (4)), .ref (118)]) (M' := (I1, J, Rx R, N, G)) rfl ?_
  rw [h30]
  refine XP_n 5 (pc' := 45) (ls' := [.ref (99), .int (nI (1)), .int (nI (1))]) (st' := [.int (I1 99 52), .int (((nI (4)) * (nI (t))) + (nI (1))), .ref (118)]) (M' := (I1, J, Rx R, N, G)) rfl ?_
  rw [show ((nI (4)) * (nI (t))) + (nI (1)) = nI ((4) * (t) + 1) from nI_addE (nI_mulE (rfl) (rfl)) (rfl)]
  rw [hO1.1]
  refine XP_iast rfl rfl (show (4) * (t) + 1 < 24 by omega) rfl (by omega) ?_
  refine XP_n 1 (pc' := 47) (ls' := [.ref (99), .int (nI (1)), .int (nI (1))]) (st' := [.int (nI (1))]) (M' := ((rw2 I1 118 ((4) * (t) + 1) (nI (u.length))), J, Rx R, N, G)) rfl ?_
  refine XP_ifN (x := 1)  rfl (by omega) (fun (b47 : 1 = 0) => absurd b47 (by omega)) (fun (b47 : ¬ 1 = 0) => ?_)
  refine XP_n 1 (pc' := 49) (ls' := [.ref (99), .int (nI (1)), .int (nI (1))]) (st' := [.ref (99)]) (M' := ((rw2 I1 118 ((4) * (t) + 1) (nI (u.length))), J, Rx R, N, G)) rfl ?_
  refine XP_call rfl rfl (c_eRead (It := (rw2 B 118 (4 * t + 1) (nI u.length))) hTB hL hb hD ht kB30 (hOB _ _ hO1) (hFB _ hF1) (by rw [rw2_ro (show (99 : Nat) ≠ 118 by omega)]; exact hC.2.1) (by omega) (nx_L hP) l1 l2) ?_
  rintro v4 M4 ⟨I4, a, rfl, rfl, ha, hacc, hO4, hF4, h45, h444⟩
  have ha0 : a ≠ 1 := fun z => l3 (hacc.mp z)
  obtain rfl : a = 0 := by omega
  refine XP_ifN (x := 0)  rfl (by omega) (fun (b50 : 0 = 0) => ?_) (fun (b50 : ¬ 0 = 0) => absurd b50 (by omega))
  refine XP_n 3 (pc' := 56) (ls' := [.ref (99), .int (nI (0)), .int (nI (1) + nI (1))]) (st' := []) (M' := (I4, J, Rx R, N, G)) rfl ?_
  rw [show nI (1) + nI (1) = nI (2) from nI_addE (rfl) rfl]
  refine XP_n 1 (pc' := 16) (ls' := [.ref (99), .int (nI (0)), .int (nI (2))]) (st' := []) (M' := (I4, J, Rx R, N, G)) rfl ?_
  exact kk I4 hO4 hF4 h45
theorem l_tok2 (hT : TpM B b L) (hL : L ≤ 160) (hb : ∀ i, i < L → b i ≤ 255) (hD : WD J) (ht : t < 6) (k30 : B 99 30 = nI t) {P : Nat} {u : List Nat} {Q : Option Value → hM → Prop} (hO : MO B t I u) (hF : Fr0 B I) (h44 : I 99 44 = nI P) (hu : u.length ≤ P) (hP : P ≤ L) {u' : List Nat} {P' : Nat} (hX : PartOk b L 2 P u u' P') (kk : ∀ I1 : Nat → Nat → Int32, MO (rw2 B 118 (4 * t + 2) (nI u.length)) t I1 u' → Fr0 (rw2 B 118 (4 * t + 2) (nI u.length)) I1 → I1 99 44 = nI P' → XP X (d + 11) k_M_text 16 [.ref 99, .int (nI 1), .int (nI 3)] [] (I1, J, Rx R, N, G) Q) : XP X (d + 11) k_M_text 16 [.ref 99, .int (nI 1), .int (nI 2)] [] (I, J, Rx R, N, G) Q := by
  have hFB : ∀ x, Fr0 B x → Fr0 (rw2 B 118 (4 * t + 2) (nI u.length)) (rw2 x 118 (4 * t + 2) (nI u.length)) := fun x hx => hx.s118
  have hOB : ∀ x w, MO B t x w → MO (rw2 B 118 (4 * t + 2) (nI u.length)) t (rw2 x 118 (4 * t + 2) (nI u.length)) w := fun x w hx => (hx.of (rw2_ro (by omega)) (by rw [rw2_ro (show (99 : Nat) ≠ 118 by omega)])).bs (rw2_ro (by omega))
  refine XP_n 2 (pc' := 18) (ls' := [.ref (99), .int (nI (1)), .int (nI (2))]) (st' := [.int (nI (3)), .int (nI (2))]) (M' := (I, J, Rx R, N, G)) rfl ?_
  refine XP_icN (x := 2) (y := 3) rfl (by omega) (by omega) (fun (b18 : 3 ≤ 2) => absurd b18 (by omega)) (fun (b18 : 2 < 3) => ?_)
  refine XP_n 1 (pc' := 20) (ls' := [.ref (99), .int (nI (1)), .int (nI (2))]) (st' := [.int (nI (1))]) (M' := (I, J, Rx R, N, G)) rfl ?_
  refine XP_ifN (x := 1)  rfl (by omega) (fun (b20 : 1 = 0) => absurd b20 (by omega)) (fun (b20 : ¬ 1 = 0) => ?_)
  refine XP_n 1 (pc' := 22) (ls' := [.ref (99), .int (nI (1)), .int (nI (2))]) (st' := [.ref (99)]) (M' := (I, J, Rx R, N, G)) rfl ?_
  refine XP_call rfl rfl (c_next (hT.fr hF) hL hb hD hP h44) ?_
  rintro v1 M1 ⟨rfl, I1, rfl, hC, f1, f2⟩
  have hF1 : Fr0 B I1 := hF.of f1 f2
  have hO1 : MO B t I1 u := hO.of (f1 117 (by omega)) (f2 52 (by omega))
  have h46 := hC.2.2.2.1
  have hr := tk_rg (b := b) (L := L) P
  have h30 : I1 99 30 = nI t := (hF1.2 30 (by omega)).trans k30
  obtain ⟨g1, p', k0, h59, hP2⟩ := hX
  obtain ⟨T0, l1, l4, l3, l5, l6⟩ := acc_top k0 h59
  have l4b : tk b L T0.2.2.2 = 59 := by rw [l4]; exact h59
  have l2 := acc_stp l5 l4b
  have l7 := endU_acc l5 l4b l6
  have htn := tk_nx (b := b) (L := L) (p := P) (by omega)
  have q46 : I1 99 46 = nI 3 := by
    rw [h46, g1]
    rfl
  have q47 : I1 99 47 = nI 2 := hC.2.2.2.2.2 2 (by omega) (by rw [g1]; rfl)
  have hTB : TpM (rw2 B 118 (4 * t + 2) (nI u.length)) b L := ⟨hT.1, fun i hi => by rw [rw2_ro (show (116 : Nat) ≠ 118 by omega)]; exact hT.2 i hi⟩
  have kB30 : (rw2 B 118 (4 * t + 2) (nI u.length)) 99 30 = nI t := by rw [rw2_ro (show (99 : Nat) ≠ 118 by omega)]; exact k30
  refine XP_n 2 (pc' := 25) (ls' := [.ref (99), .int (nI (1)), .int (nI (2))]) (st' := [.int (I1 99 46)]) (M' := (I1, J, Rx R, N, G)) rfl ?_
  rw [q46]
  refine XP_n 1 (pc' := 26) (ls' := [.ref (99), .int (nI (1)), .int (nI (2))]) (st' := [.int (nI (3)), .int (nI (3))]) (M' := (I1, J, Rx R, N, G)) rfl ?_
  refine XP_icN (x := 3) (y := 3) rfl (by omega) (by omega) (fun (b26 : ¬ 3 = 3) => absurd b26 (by omega)) (fun (b26 : 3 = 3) => ?_)
  refine XP_n 2 (pc' := 29) (ls' := [.ref (99), .int (nI (1)), .int (nI (2))]) (st' := [.int (I1 99 47)]) (M' := (I1, J, Rx R, N, G)) rfl ?_
  rw [q47]
  refine XP_n 1 (pc' := 30) (ls' := [.ref (99), .int (nI (1)), .int (nI (2))]) (st' := [.int (nI (2)), .int (nI (2))]) (M' := (I1, J, Rx R, N, G)) rfl ?_
  refine XP_icN (x := 2) (y := 2) rfl (by omega) (by omega) (fun (b30 : ¬ 2 = 2) => absurd b30 (by omega)) (fun (b30 : 2 = 2) => ?_)
  refine XP_n 8 (pc' := 40) (ls' := [.ref (99), .int (nI (1)), .int (nI (2))]) (st' := [.int (I1 99 30), .int (nI (4)), .ref (118)]) (M' := (I1, J, Rx R, N, G)) rfl ?_
  rw [h30]
  refine XP_n 5 (pc' := 45) (ls' := [.ref (99), .int (nI (1)), .int (nI (2))]) (st' := [.int (I1 99 52), .int (((nI (4)) * (nI (t))) + (nI (2))), .ref (118)]) (M' := (I1, J, Rx R, N, G)) rfl ?_
  rw [show ((nI (4)) * (nI (t))) + (nI (2)) = nI ((4) * (t) + 2) from nI_addE (nI_mulE (rfl) (rfl)) (rfl)]
  rw [hO1.1]
  refine XP_iast rfl rfl (show (4) * (t) + 2 < 24 by omega) rfl (by omega) ?_
  refine XP_n 1 (pc' := 47) (ls' := [.ref (99), .int (nI (1)), .int (nI (2))]) (st' := [.int (nI (1))]) (M' := ((rw2 I1 118 ((4) * (t) + 2) (nI (u.length))), J, Rx R, N, G)) rfl ?_
  refine XP_ifN (x := 1)  rfl (by omega) (fun (b47 : 1 = 0) => absurd b47 (by omega)) (fun (b47 : ¬ 1 = 0) => ?_)
  refine XP_n 1 (pc' := 49) (ls' := [.ref (99), .int (nI (1)), .int (nI (2))]) (st' := [.ref (99)]) (M' := ((rw2 I1 118 ((4) * (t) + 2) (nI (u.length))), J, Rx R, N, G)) rfl ?_
  refine XP_call rfl rfl (c_eRead (It := (rw2 B 118 (4 * t + 2) (nI u.length))) hTB hL hb hD ht kB30 (hOB _ _ hO1) (hFB _ hF1) (by rw [rw2_ro (show (99 : Nat) ≠ 118 by omega)]; exact hC.2.1) (by omega) (nx_L hP) l1 l2) ?_
  rintro v4 M4 ⟨I4, a, rfl, rfl, ha, hacc, hO4, hF4, h45, h444⟩
  obtain rfl : a = 1 := hacc.mpr l3
  rw [l7] at hO4
  rw [l4, ← hP2] at h444
  refine XP_ifN (x := 1)  rfl (by omega) (fun (b50 : 1 = 0) => absurd b50 (by omega)) (fun (b50 : ¬ 1 = 0) => ?_)
  refine XP_n 4 (pc' := 56) (ls' := [.ref (99), .int (nI (1)), .int (nI (2) + nI (1))]) (st' := []) (M' := (I4, J, Rx R, N, G)) rfl ?_
  rw [show nI (2) + nI (1) = nI (3) from nI_addE (rfl) rfl]
  refine XP_n 1 (pc' := 16) (ls' := [.ref (99), .int (nI (1)), .int (nI (3))]) (st' := []) (M' := (I4, J, Rx R, N, G)) rfl ?_
  exact kk I4 hO4 hF4 h444
theorem l_tmis2 (hT : TpM B b L) (hL : L ≤ 160) (hb : ∀ i, i < L → b i ≤ 255) (hD : WD J) (ht : t < 6) (k30 : B 99 30 = nI t) {P : Nat} {u : List Nat} {Q : Option Value → hM → Prop} (hO : MO B t I u) (hF : Fr0 B I) (h44 : I 99 44 = nI P) (hu : u.length ≤ P) (hP : P ≤ L) (g1 : ¬ tk b L P = 1008) (kk : ∀ I1 : Nat → Nat → Int32, MO (rw2 B 118 (4 * t + 2) (nI u.length)) t I1 u → Fr0 (rw2 B 118 (4 * t + 2) (nI u.length)) I1 → I1 99 45 = nI (pl b L P) → XP X (d + 11) k_M_text 16 [.ref 99, .int (nI 0), .int (nI 3)] [] (I1, J, Rx R, N, G) Q) : XP X (d + 11) k_M_text 16 [.ref 99, .int (nI 1), .int (nI 2)] [] (I, J, Rx R, N, G) Q := by
  have hFB : ∀ x, Fr0 B x → Fr0 (rw2 B 118 (4 * t + 2) (nI u.length)) (rw2 x 118 (4 * t + 2) (nI u.length)) := fun x hx => hx.s118
  have hOB : ∀ x w, MO B t x w → MO (rw2 B 118 (4 * t + 2) (nI u.length)) t (rw2 x 118 (4 * t + 2) (nI u.length)) w := fun x w hx => (hx.of (rw2_ro (by omega)) (by rw [rw2_ro (show (99 : Nat) ≠ 118 by omega)])).bs (rw2_ro (by omega))
  refine XP_n 2 (pc' := 18) (ls' := [.ref (99), .int (nI (1)), .int (nI (2))]) (st' := [.int (nI (3)), .int (nI (2))]) (M' := (I, J, Rx R, N, G)) rfl ?_
  refine XP_icN (x := 2) (y := 3) rfl (by omega) (by omega) (fun (b18 : 3 ≤ 2) => absurd b18 (by omega)) (fun (b18 : 2 < 3) => ?_)
  refine XP_n 1 (pc' := 20) (ls' := [.ref (99), .int (nI (1)), .int (nI (2))]) (st' := [.int (nI (1))]) (M' := (I, J, Rx R, N, G)) rfl ?_
  refine XP_ifN (x := 1)  rfl (by omega) (fun (b20 : 1 = 0) => absurd b20 (by omega)) (fun (b20 : ¬ 1 = 0) => ?_)
  refine XP_n 1 (pc' := 22) (ls' := [.ref (99), .int (nI (1)), .int (nI (2))]) (st' := [.ref (99)]) (M' := (I, J, Rx R, N, G)) rfl ?_
  refine XP_call rfl rfl (c_next (hT.fr hF) hL hb hD hP h44) ?_
  rintro v1 M1 ⟨rfl, I1, rfl, hC, f1, f2⟩
  have hF1 : Fr0 B I1 := hF.of f1 f2
  have hO1 : MO B t I1 u := hO.of (f1 117 (by omega)) (f2 52 (by omega))
  have h46 := hC.2.2.2.1
  have hr := tk_rg (b := b) (L := L) P
  have h30 : I1 99 30 = nI t := (hF1.2 30 (by omega)).trans k30
  by_cases g2 : tk b L P = 1006 ∨ tk b L P = 1007 ∨ tk b L P = 1008
  rotate_left
  · have hmt : ¬ mT (tk b L P) = nI 3 := by
      have hgr : tk b L P = 40 ∨ tk b L P = 41 ∨ tk b L P = 59 ∨ tk b L P = 1011 ∨ tk b L P = 2000 ∨ tk b L P = 2001 ∨ tk b L P = 2002 ∨ tk b L P = 1000 ∨ tk b L P = 1001 ∨ tk b L P = 1002 ∨ tk b L P = 1003 ∨ tk b L P = 1004 ∨ tk b L P = 1005 ∨ tk b L P = 43 ∨ tk b L P = 45 ∨ tk b L P = 42 ∨ tk b L P = 60 ∨ tk b L P = 61 ∨ tk b L P = 1009 ∨ tk b L P = 1010 := by omega
      rcases hgr with z | z | z | z | z | z | z | z | z | z | z | z | z | z | z | z | z | z | z | z <;> rw [z] <;> decide
    refine XP_n 2 (pc' := 25) (ls' := [.ref (99), .int (nI (1)), .int (nI (2))]) (st' := [.int (I1 99 46)]) (M' := (I1, J, Rx R, N, G)) rfl ?_
    rw [h46]
    refine XP_n 1 (pc' := 26) (ls' := [.ref (99), .int (nI (1)), .int (nI (2))]) (st' := [.int (nI (3)), .int (mT (tk b L P))]) (M' := (I1, J, Rx R, N, G)) rfl ?_
    refine XP_icD rfl (fun (b26 : ¬ mT (tk b L P) = nI (3)) => ?_) (fun (b26 : mT (tk b L P) = nI (3)) => absurd b26 (by first | exact hmt | exact fun z => z hmt | exact Int32.not_le.mpr hmt | exact Int32.not_lt.mpr (Int32.not_lt.mp hmt) | omega))
    refine XP_n 7 (pc' := 40) (ls' := [.ref (99), .int (nI (0)), .int (nI (2))]) (st' := [.int (I1 99 30), .int (nI (4)), .ref (118)]) (M' := (I1, J, Rx R, N, G)) rfl ?_
    rw [h30]
    refine XP_n 5 (pc' := 45) (ls' := [.ref (99), .int (nI (0)), .int (nI (2))]) (st' := [.int (I1 99 52), .int (((nI (4)) * (nI (t))) + (nI (2))), .ref (118)]) (M' := (I1, J, Rx R, N, G)) rfl ?_
    rw [show ((nI (4)) * (nI (t))) + (nI (2)) = nI ((4) * (t) + 2) from nI_addE (nI_mulE (rfl) (rfl)) (rfl)]
    rw [hO1.1]
    refine XP_iast rfl rfl (show (4) * (t) + 2 < 24 by omega) rfl (by omega) ?_
    refine XP_n 1 (pc' := 47) (ls' := [.ref (99), .int (nI (0)), .int (nI (2))]) (st' := [.int (nI (0))]) (M' := ((rw2 I1 118 ((4) * (t) + 2) (nI (u.length))), J, Rx R, N, G)) rfl ?_
    refine XP_ifN (x := 0)  rfl (by omega) (fun (b47 : 0 = 0) => ?_) (fun (b47 : ¬ 0 = 0) => absurd b47 (by omega))
    refine XP_n 3 (pc' := 56) (ls' := [.ref (99), .int (nI (0)), .int (nI (2) + nI (1))]) (st' := []) (M' := ((rw2 I1 118 ((4) * (t) + 2) (nI (u.length))), J, Rx R, N, G)) rfl ?_
    rw [show nI (2) + nI (1) = nI (3) from nI_addE (rfl) rfl]
    refine XP_n 1 (pc' := 16) (ls' := [.ref (99), .int (nI (0)), .int (nI (3))]) (st' := []) (M' := ((rw2 I1 118 ((4) * (t) + 2) (nI (u.length))), J, Rx R, N, G)) rfl ?_
    exact kk _ (hOB _ _ hO1) (hFB _ hF1) hC.2.2.1
  have q46 : I1 99 46 = nI 3 := by
    rw [h46]
    rcases g2 with z | z | z <;> rw [z] <;> rfl
  have q47 : I1 99 47 = nI (tk b L P - 1006) := by
    have hw := hC.2.2.2.2.2 (tk b L P - 1006) (by omega) (by rcases g2 with z | z | z <;> rw [z] <;> rfl)
    rw [if_pos (by omega)] at hw
    exact hw
  refine XP_n 2 (pc' := 25) (ls' := [.ref (99), .int (nI (1)), .int (nI (2))]) (st' := [.int (I1 99 46)]) (M' := (I1, J, Rx R, N, G)) rfl ?_
  rw [q46]
  refine XP_n 1 (pc' := 26) (ls' := [.ref (99), .int (nI (1)), .int (nI (2))]) (st' := [.int (nI (3)), .int (nI (3))]) (M' := (I1, J, Rx R, N, G)) rfl ?_
  refine XP_icN (x := 3) (y := 3) rfl (by omega) (by omega) (fun (b26 : ¬ 3 = 3) => absurd b26 (by omega)) (fun (b26 : 3 = 3) => ?_)
  refine XP_n 2 (pc' := 29) (ls' := [.ref (99), .int (nI (1)), .int (nI (2))]) (st' := [.int (I1 99 47)]) (M' := (I1, J, Rx R, N, G)) rfl ?_
  rw [q47]
  refine XP_n 1 (pc' := 30) (ls' := [.ref (99), .int (nI (1)), .int (nI (2))]) (st' := [.int (nI (2)), .int (nI (tk b L P - 1006))]) (M' := (I1, J, Rx R, N, G)) rfl ?_
  refine XP_icN (x := tk b L P - 1006) (y := 2) rfl (by omega) (by omega) (fun (b30 : ¬ tk b L P - 1006 = 2) => ?_) (fun (b30 : tk b L P - 1006 = 2) => absurd b30 (by omega))
  refine XP_n 7 (pc' := 40) (ls' := [.ref (99), .int (nI (0)), .int (nI (2))]) (st' := [.int (I1 99 30), .int (nI (4)), .ref (118)]) (M' := (I1, J, Rx R, N, G)) rfl ?_
  rw [h30]
  refine XP_n 5 (pc' := 45) (ls' := [.ref (99), .int (nI (0)), .int (nI (2))]) (st' := [.int (I1 99 52), .int (((nI (4)) * (nI (t))) + (nI (2))), .ref (118)]) (M' := (I1, J, Rx R, N, G)) rfl ?_
  rw [show ((nI (4)) * (nI (t))) + (nI (2)) = nI ((4) * (t) + 2) from nI_addE (nI_mulE (rfl) (rfl)) (rfl)]
  rw [hO1.1]
  refine XP_iast rfl rfl (show (4) * (t) + 2 < 24 by omega) rfl (by omega) ?_
  refine XP_n 1 (pc' := 47) (ls' := [.ref (99), .int (nI (0)), .int (nI (2))]) (st' := [.int (nI (0))]) (M' := ((rw2 I1 118 ((4) * (t) + 2) (nI (u.length))), J, Rx R, N, G)) rfl ?_
  refine XP_ifN (x := 0)  rfl (by omega) (fun (b47 : 0 = 0) => ?_) (fun (b47 : ¬ 0 = 0) => absurd b47 (by omega))
  refine XP_n 3 (pc' := 56) (ls' := [.ref (99), .int (nI (0)), .int (nI (2) + nI (1))]) (st' := []) (M' := ((rw2 I1 118 ((4) * (t) + 2) (nI (u.length))), J, Rx R, N, G)) rfl ?_
  rw [show nI (2) + nI (1) = nI (3) from nI_addE (rfl) rfl]
  refine XP_n 1 (pc' := 16) (ls' := [.ref (99), .int (nI (0)), .int (nI (3))]) (st' := []) (M' := ((rw2 I1 118 ((4) * (t) + 2) (nI (u.length))), J, Rx R, N, G)) rfl ?_
  exact kk _ (hOB _ _ hO1) (hFB _ hF1) hC.2.2.1
theorem l_tfail2 (hT : TpM B b L) (hL : L ≤ 160) (hb : ∀ i, i < L → b i ≤ 255) (hD : WD J) (ht : t < 6) (k30 : B 99 30 = nI t) {P : Nat} {u : List Nat} {Q : Option Value → hM → Prop} (hO : MO B t I u) (hF : Fr0 B I) (h44 : I 99 44 = nI P) (hu : u.length ≤ P) (hP : P ≤ L) {T0 : PS} (g1 : tk b L P = 1008) (l1 : Leads b L (([], u), true, true, nx b L P) T0) (l2 : stp b L T0 = none) (l3 : ¬ Acc b L T0) (kk : ∀ I1 : Nat → Nat → Int32, MO (rw2 B 118 (4 * t + 2) (nI u.length)) t I1 (endU b L T0) → Fr0 (rw2 B 118 (4 * t + 2) (nI u.length)) I1 → I1 99 45 = nI (pl b L T0.2.2.2) → XP X (d + 11) k_M_text 16 [.ref 99, .int (nI 0), .int (nI 3)] [] (I1, J, Rx R, N, G) Q) : XP X (d + 11) k_M_text 16 [.ref 99, .int (nI 1), .int (nI 2)] [] (I, J, Rx R, N, G) Q := by
  have hFB : ∀ x, Fr0 B x → Fr0 (rw2 B 118 (4 * t + 2) (nI u.length)) (rw2 x 118 (4 * t + 2) (nI u.length)) := fun x hx => hx.s118
  have hOB : ∀ x w, MO B t x w → MO (rw2 B 118 (4 * t + 2) (nI u.length)) t (rw2 x 118 (4 * t + 2) (nI u.length)) w := fun x w hx => (hx.of (rw2_ro (by omega)) (by rw [rw2_ro (show (99 : Nat) ≠ 118 by omega)])).bs (rw2_ro (by omega))
  refine XP_n 2 (pc' := 18) (ls' := [.ref (99), .int (nI (1)), .int (nI (2))]) (st' := [.int (nI (3)), .int (nI (2))]) (M' := (I, J, Rx R, N, G)) rfl ?_
  refine XP_icN (x := 2) (y := 3) rfl (by omega) (by omega) (fun (b18 : 3 ≤ 2) => absurd b18 (by omega)) (fun (b18 : 2 < 3) => ?_)
  refine XP_n 1 (pc' := 20) (ls' := [.ref (99), .int (nI (1)), .int (nI (2))]) (st' := [.int (nI (1))]) (M' := (I, J, Rx R, N, G)) rfl ?_
  refine XP_ifN (x := 1)  rfl (by omega) (fun (b20 : 1 = 0) => absurd b20 (by omega)) (fun (b20 : ¬ 1 = 0) => ?_)
  refine XP_n 1 (pc' := 22) (ls' := [.ref (99), .int (nI (1)), .int (nI (2))]) (st' := [.ref (99)]) (M' := (I, J, Rx R, N, G)) rfl ?_
  refine XP_call rfl rfl (c_next (hT.fr hF) hL hb hD hP h44) ?_
  rintro v1 M1 ⟨rfl, I1, rfl, hC, f1, f2⟩
  have hF1 : Fr0 B I1 := hF.of f1 f2
  have hO1 : MO B t I1 u := hO.of (f1 117 (by omega)) (f2 52 (by omega))
  have h46 := hC.2.2.2.1
  have hr := tk_rg (b := b) (L := L) P
  have h30 : I1 99 30 = nI t := (hF1.2 30 (by omega)).trans k30
  have htn := tk_nx (b := b) (L := L) (p := P) (by omega)
  have q46 : I1 99 46 = nI 3 := by
    rw [h46, g1]
    rfl
  have q47 : I1 99 47 = nI 2 := hC.2.2.2.2.2 2 (by omega) (by rw [g1]; rfl)
  have hTB : TpM (rw2 B 118 (4 * t + 2) (nI u.length)) b L := ⟨hT.1, fun i hi => by rw [rw2_ro (show (116 : Nat) ≠ 118 by omega)]; exact hT.2 i hi⟩
  have kB30 : (rw2 B 118 (4 * t + 2) (nI u.length)) 99 30 = nI t := by rw [rw2_ro (show (99 : Nat) ≠ 118 by omega)]; exact k30
  refine XP_n 2 (pc' := 25) (ls' := [.ref (99), .int (nI (1)), .int (nI (2))]) (st' := [.int (I1 99 46)]) (M' := (I1, J, Rx R, N, G)) rfl ?_
  rw [q46]
  refine XP_n 1 (pc' := 26) (ls' := [.ref (99), .int (nI (1)), .int (nI (2))]) (st' := [.int (nI (3)), .int (nI (3))]) (M' := (I1, J, Rx R, N, G)) rfl ?_
  refine XP_icN (x := 3) (y := 3) rfl (by omega) (by omega) (fun (b26 : ¬ 3 = 3) => absurd b26 (by omega)) (fun (b26 : 3 = 3) => ?_)
  refine XP_n 2 (pc' := 29) (ls' := [.ref (99), .int (nI (1)), .int (nI (2))]) (st' := [.int (I1 99 47)]) (M' := (I1, J, Rx R, N, G)) rfl ?_
  rw [q47]
  refine XP_n 1 (pc' := 30) (ls' := [.ref (99), .int (nI (1)), .int (nI (2))]) (st' := [.int (nI (2)), .int (nI (2))]) (M' := (I1, J, Rx R, N, G)) rfl ?_
  refine XP_icN (x := 2) (y := 2) rfl (by omega) (by omega) (fun (b30 : ¬ 2 = 2) => absurd b30 (by omega)) (fun (b30 : 2 = 2) => ?_)
  refine XP_n 8 (pc' := 40) (ls' := [.ref (99), .int (nI (1)), .int (nI (2))]) (st' := [.int (I1 99 30), .int (nI (4)), .ref (118)]) (M' := (I1, J, Rx R, N, G)) rfl ?_
  rw [h30]
  refine XP_n 5 (pc' := 45) (ls' := [.ref (99), .int (nI (1)), .int (nI (2))]) (st' := [.int (I1 99 52), .int (((nI (4)) * (nI (t))) + (nI (2))), .ref (118)]) (M' := (I1, J, Rx R, N, G)) rfl ?_
  rw [show ((nI (4)) * (nI (t))) + (nI (2)) = nI ((4) * (t) + 2) from nI_addE (nI_mulE (rfl) (rfl)) (rfl)]
  rw [hO1.1]
  refine XP_iast rfl rfl (show (4) * (t) + 2 < 24 by omega) rfl (by omega) ?_
  refine XP_n 1 (pc' := 47) (ls' := [.ref (99), .int (nI (1)), .int (nI (2))]) (st' := [.int (nI (1))]) (M' := ((rw2 I1 118 ((4) * (t) + 2) (nI (u.length))), J, Rx R, N, G)) rfl ?_
  refine XP_ifN (x := 1)  rfl (by omega) (fun (b47 : 1 = 0) => absurd b47 (by omega)) (fun (b47 : ¬ 1 = 0) => ?_)
  refine XP_n 1 (pc' := 49) (ls' := [.ref (99), .int (nI (1)), .int (nI (2))]) (st' := [.ref (99)]) (M' := ((rw2 I1 118 ((4) * (t) + 2) (nI (u.length))), J, Rx R, N, G)) rfl ?_
  refine XP_call rfl rfl (c_eRead (It := (rw2 B 118 (4 * t + 2) (nI u.length))) hTB hL hb hD ht kB30 (hOB _ _ hO1) (hFB _ hF1) (by rw [rw2_ro (show (99 : Nat) ≠ 118 by omega)]; exact hC.2.1) (by omega) (nx_L hP) l1 l2) ?_
  rintro v4 M4 ⟨I4, a, rfl, rfl, ha, hacc, hO4, hF4, h45, h444⟩
  have ha0 : a ≠ 1 := fun z => l3 (hacc.mp z)
  obtain rfl : a = 0 := by omega
  refine XP_ifN (x := 0)  rfl (by omega) (fun (b50 : 0 = 0) => ?_) (fun (b50 : ¬ 0 = 0) => absurd b50 (by omega))
  refine XP_n 3 (pc' := 56) (ls' := [.ref (99), .int (nI (0)), .int (nI (2) + nI (1))]) (st' := []) (M' := (I4, J, Rx R, N, G)) rfl ?_
  rw [show nI (2) + nI (1) = nI (3) from nI_addE (rfl) rfl]
  refine XP_n 1 (pc' := 16) (ls' := [.ref (99), .int (nI (0)), .int (nI (3))]) (st' := []) (M' := (I4, J, Rx R, N, G)) rfl ?_
  exact kk I4 hO4 hF4 h45
end
