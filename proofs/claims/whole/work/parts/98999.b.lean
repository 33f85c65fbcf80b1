/-! the model's text, whole -/
section
variable {X : hX} {d : Nat} {s I : Nat → Nat → Int32} {J : Nat → Nat → Int64} {R : Nat → Nat → Option Nat} {N : Nat → Nat} {G : hG} {B : Nat → Nat → Int32} {t : Nat} {b : Nat → Nat} {L : Nat}
theorem l_tbad (ht : t < 6) (k30 : B 99 30 = nI t) {u : List Nat} (hO : MO B t I u) (hF : Fr0 B I) {p : Nat} (h45 : I 99 45 = nI p) (x2 : Value) {Q : Option Value → hM → Prop} (kk : Q (some (.int (cI (-100) - nI p))) (rw2 (rw2 I 118 (4 * t + 3) (nI u.length)) 99 27 (nI 0), J, Rx R, N, G)) : XP X (d + 11) k_M_text 68 [.ref 99, .int (nI 0), x2] [] (I, J, Rx R, N, G) Q := by
  have h30 : I 99 30 = nI t := (hF.2 30 (by omega)).trans k30
  refine XP_n 5 (pc' := 73) (ls' := [.ref (99), .int (nI (0)), x2]) (st' := [.int (I 99 30), .int (nI (4)), .ref (118)]) (M' := (I, J, Rx R, N, G)) rfl ?_
  rw [h30]
  refine XP_n 5 (pc' := 78) (ls' := [.ref (99), .int (nI (0)), x2]) (st' := [.int (I 99 52), .int (((nI (4)) * (nI (t))) + (nI (3))), .ref (118)]) (M' := (I, J, Rx R, N, G)) rfl ?_
  rw [show ((nI (4)) * (nI (t))) + (nI (3)) = nI ((4) * (t) + 3) from nI_addE (nI_mulE (rfl) (rfl)) (rfl)]
  rw [hO.1]
  refine XP_iast rfl rfl (show (4) * (t) + 3 < 24 by omega) rfl (by omega) ?_
  refine XP_n 4 (pc' := 83) (ls' := [.ref (99), .int (nI (0)), x2]) (st' := [.int (nI (0))]) (M' := ((rw2 (rw2 I 118 ((4) * (t) + 3) (nI (u.length))) 99 27 (nI (0))), J, Rx R, N, G)) rfl ?_
  refine XP_ifN (x := 0)  rfl (by omega) (fun (b83 : ¬ 0 = 0) => absurd b83 (by omega)) (fun (b83 : 0 = 0) => ?_)
  refine XP_n 3 (pc' := 87) (ls' := [.ref (99), .int (nI (0)), x2]) (st' := [.int (I 99 45), .int (cI (-100))]) (M' := ((rw2 (rw2 I 118 ((4) * (t) + 3) (nI (u.length))) 99 27 (nI (0))), J, Rx R, N, G)) rfl ?_
  rw [h45]
  refine XP_n 1 (pc' := 88) (ls' := [.ref (99), .int (nI (0)), x2]) (st' := [.int ((cI (-100)) - (nI (p)))]) (M' := ((rw2 (rw2 I 118 ((4) * (t) + 3) (nI (u.length))) 99 27 (nI (0))), J, Rx R, N, G)) rfl ?_
  exact XP_ret rfl kk
theorem l_tgood (ht : t < 6) (k30 : B 99 30 = nI t) {u : List Nat} (hO : MO B t I u) (hF : Fr0 B I) (x2 : Value) {Q : Option Value → hM → Prop} (kk : Q (some (.int (nI t))) (rw2 (rw2 (rw2 I 118 (4 * t + 3) (nI u.length)) 99 27 (nI 0)) 99 30 (nI (t + 1)), J, Rx R, N, G)) : XP X (d + 11) k_M_text 68 [.ref 99, .int (nI 1), x2] [] (I, J, Rx R, N, G) Q := by
  have h30 : I 99 30 = nI t := (hF.2 30 (by omega)).trans k30
  refine XP_n 5 (pc' := 73) (ls' := [.ref (99), .int (nI (1)), x2]) (st' := [.int (I 99 30), .int (nI (4)), .ref (118)]) (M' := (I, J, Rx R, N, G)) rfl ?_
  rw [h30]
  refine XP_n 5 (pc' := 78) (ls' := [.ref (99), .int (nI (1)), x2]) (st' := [.int (I 99 52), .int (((nI (4)) * (nI (t))) + (nI (3))), .ref (118)]) (M' := (I, J, Rx R, N, G)) rfl ?_
  rw [show ((nI (4)) * (nI (t))) + (nI (3)) = nI ((4) * (t) + 3) from nI_addE (nI_mulE (rfl) (rfl)) (rfl)]
  rw [hO.1]
  refine XP_iast rfl rfl (show (4) * (t) + 3 < 24 by omega) rfl (by omega) ?_
  refine XP_n 4 (pc' := 83) (ls' := [.ref (99), .int (nI (1)), x2]) (st' := [.int (nI (1))]) (M' := ((rw2 (rw2 I 118 ((4) * (t) + 3) (nI (u.length))) 99 27 (nI (0))), J, Rx R, N, G)) rfl ?_
  refine XP_ifN (x := 1)  rfl (by omega) (fun (b83 : ¬ 1 = 0) => ?_) (fun (b83 : 1 = 0) => absurd b83 (by omega))
  refine XP_n 3 (pc' := 92) (ls' := [.ref (99), .int (nI (1)), x2]) (st' := [.int (I 99 30), .ref (99)]) (M' := ((rw2 (rw2 I 118 ((4) * (t) + 3) (nI (u.length))) 99 27 (nI (0))), J, Rx R, N, G)) rfl ?_
  rw [h30]
  refine XP_n 2 (pc' := 94) (ls' := [.ref (99), .int (nI (1)), x2]) (st' := [.int ((nI (t)) + (nI (1))), .ref (99)]) (M' := ((rw2 (rw2 I 118 ((4) * (t) + 3) (nI (u.length))) 99 27 (nI (0))), J, Rx R, N, G)) rfl ?_
  rw [show (nI (t)) + (nI (1)) = nI (t + 1) from nI_addE (rfl) (rfl)]
  refine XP_n 5 (pc' := 99) (ls' := [.ref (99), .int (nI (1)), x2]) (st' := [.int ((nI (t + 1)) - (nI (1)))]) (M' := ((rw2 (rw2 (rw2 I 118 ((4) * (t) + 3) (nI (u.length))) 99 27 (nI (0))) 99 30 (nI (t + 1))), J, Rx R, N, G)) rfl ?_
  rw [show nI (t + 1) - nI 1 = nI t from nI_subE rfl rfl (by omega)]
  exact XP_ret rfl kk
theorem l_t16_1 (ht : t < 6) (k30 : B 99 30 = nI t) {u : List Nat} (hO : MO B t I u) (hF : Fr0 B I) {p : Nat} (h45 : I 99 45 = nI p) {Q : Option Value → hM → Prop} (kk : Q (some (.int (cI (-100) - nI p))) (rw2 (rw2 I 118 (4 * t + 3) (nI u.length)) 99 27 (nI 0), J, Rx R, N, G)) : XP X (d + 11) k_M_text 16 [.ref 99, .int (nI 0), .int (nI 1)] [] (I, J, Rx R, N, G) Q := by
  refine XP_n 2 (pc' := 18) (ls' := [.ref (99), .int (nI (0)), .int (nI (1))]) (st' := [.int (nI (3)), .int (nI (1))]) (M' := (I, J, Rx R, N, G)) rfl ?_
  refine XP_icN (x := 1) (y := 3) rfl (by omega) (by omega) (fun (b18 : 3 ≤ 1) => absurd b18 (by omega)) (fun (b18 : 1 < 3) => ?_)
  refine XP_n 1 (pc' := 20) (ls' := [.ref (99), .int (nI (0)), .int (nI (1))]) (st' := [.int (nI (0))]) (M' := (I, J, Rx R, N, G)) rfl ?_
  refine XP_ifN (x := 0)  rfl (by omega) (fun (b20 : 0 = 0) => ?_) (fun (b20 : ¬ 0 = 0) => absurd b20 (by omega))
  refine XP_n 1 (pc' := 58) (ls' := [.ref (99), .int (nI (0)), .int (nI (1))]) (st' := [.int (nI (0))]) (M' := (I, J, Rx R, N, G)) rfl ?_
  refine XP_ifN (x := 0)  rfl (by omega) (fun (b58 : 0 = 0) => ?_) (fun (b58 : ¬ 0 = 0) => absurd b58 (by omega))
  exact l_tbad ht k30 hO hF h45 _ kk
theorem l_t16_2 (ht : t < 6) (k30 : B 99 30 = nI t) {u : List Nat} (hO : MO B t I u) (hF : Fr0 B I) {p : Nat} (h45 : I 99 45 = nI p) {Q : Option Value → hM → Prop} (kk : Q (some (.int (cI (-100) - nI p))) (rw2 (rw2 I 118 (4 * t + 3) (nI u.length)) 99 27 (nI 0), J, Rx R, N, G)) : XP X (d + 11) k_M_text 16 [.ref 99, .int (nI 0), .int (nI 2)] [] (I, J, Rx R, N, G) Q := by
  refine XP_n 2 (pc' := 18) (ls' := [.ref (99), .int (nI (0)), .int (nI (2))]) (st' := [.int (nI (3)), .int (nI (2))]) (M' := (I, J, Rx R, N, G)) rfl ?_
  refine XP_icN (x := 2) (y := 3) rfl (by omega) (by omega) (fun (b18 : 3 ≤ 2) => absurd b18 (by omega)) (fun (b18 : 2 < 3) => ?_)
  refine XP_n 1 (pc' := 20) (ls' := [.ref (99), .int (nI (0)), .int (nI (2))]) (st' := [.int (nI (0))]) (M' := (I, J, Rx R, N, G)) rfl ?_
  refine XP_ifN (x := 0)  rfl (by omega) (fun (b20 : 0 = 0) => ?_) (fun (b20 : ¬ 0 = 0) => absurd b20 (by omega))
  refine XP_n 1 (pc' := 58) (ls' := [.ref (99), .int (nI (0)), .int (nI (2))]) (st' := [.int (nI (0))]) (M' := (I, J, Rx R, N, G)) rfl ?_
  refine XP_ifN (x := 0)  rfl (by omega) (fun (b58 : 0 = 0) => ?_) (fun (b58 : ¬ 0 = 0) => absurd b58 (by omega))
  exact l_tbad ht k30 hO hF h45 _ kk
theorem l_t16_3 (ht : t < 6) (k30 : B 99 30 = nI t) {u : List Nat} (hO : MO B t I u) (hF : Fr0 B I) {p : Nat} (h45 : I 99 45 = nI p) {Q : Option Value → hM → Prop} (kk : Q (some (.int (cI (-100) - nI p))) (rw2 (rw2 I 118 (4 * t + 3) (nI u.length)) 99 27 (nI 0), J, Rx R, N, G)) : XP X (d + 11) k_M_text 16 [.ref 99, .int (nI 0), .int (nI 3)] [] (I, J, Rx R, N, G) Q := by
  refine XP_n 2 (pc' := 18) (ls' := [.ref (99), .int (nI (0)), .int (nI (3))]) (st' := [.int (nI (3)), .int (nI (3))]) (M' := (I, J, Rx R, N, G)) rfl ?_
  refine XP_icN (x := 3) (y := 3) rfl (by omega) (by omega) (fun (b18 : 3 ≤ 3) => ?_) (fun (b18 : 3 < 3) => absurd b18 (by omega))
  refine XP_n 1 (pc' := 58) (ls' := [.ref (99), .int (nI (0)), .int (nI (3))]) (st' := [.int (nI (0))]) (M' := (I, J, Rx R, N, G)) rfl ?_
  refine XP_ifN (x := 0)  rfl (by omega) (fun (b58 : 0 = 0) => ?_) (fun (b58 : ¬ 0 = 0) => absurd b58 (by omega))
  exact l_tbad ht k30 hO hF h45 _ kk
theorem l_tend0 (hT : TpM B b L) (hL : L ≤ 160) (hb : ∀ i, i < L → b i ≤ 255) (hD : WD J) (ht : t < 6) (k30 : B 99 30 = nI t) {P : Nat} {u : List Nat} {Q : Option Value → hM → Prop} (hO : MO B t I u) (hF : Fr0 B I) (h44 : I 99 44 = nI P) (hP : P ≤ L) (g : tk b L P ≠ 2001) (kk : ∀ I1 : Nat → Nat → Int32, MO B t I1 u → Fr0 B I1 → Q (some (.int (cI (-100) - nI (pl b L P)))) (rw2 (rw2 I1 118 (4 * t + 3) (nI u.length)) 99 27 (nI 0), J, Rx R, N, G)) : XP X (d + 11) k_M_text 16 [.ref 99, .int (nI 1), .int (nI 3)] [] (I, J, Rx R, N, G) Q := by
  refine XP_n 2 (pc' := 18) (ls' := [.ref (99), .int (nI (1)), .int (nI (3))]) (st' := [.int (nI (3)), .int (nI (3))]) (M' := (I, J, Rx R, N, G)) rfl ?_
  refine XP_icN (x := 3) (y := 3) rfl (by omega) (by omega) (fun (b18 : 3 ≤ 3) => ?_) (fun (b18 : 3 < 3) => absurd b18 (by omega))
  refine XP_n 1 (pc' := 58) (ls' := [.ref (99), .int (nI (1)), .int (nI (3))]) (st' := [.int (nI (1))]) (M' := (I, J, Rx R, N, G)) rfl ?_
  refine XP_ifN (x := 1)  rfl (by omega) (fun (b58 : 1 = 0) => absurd b58 (by omega)) (fun (b58 : ¬ 1 = 0) => ?_)
  refine XP_n 1 (pc' := 60) (ls' := [.ref (99), .int (nI (1)), .int (nI (3))]) (st' := [.ref (99)]) (M' := (I, J, Rx R, N, G)) rfl ?_
  refine XP_call rfl rfl (c_next (hT.fr hF) hL hb hD hP h44) ?_
  rintro v1 M1 ⟨rfl, I1, rfl, hC, f1, f2⟩
  have hF1 : Fr0 B I1 := hF.of f1 f2
  have hO1 : MO B t I1 u := hO.of (f1 117 (by omega)) (f2 52 (by omega))
  have h46 := hC.2.2.2.1
  have hr := tk_rg (b := b) (L := L) P
  refine XP_n 2 (pc' := 63) (ls' := [.ref (99), .int (nI (1)), .int (nI (3))]) (st' := [.int (I1 99 46)]) (M' := (I1, J, Rx R, N, G)) rfl ?_
  rw [h46]
  have hmt : ¬ mT (tk b L P) = nI 0 := by
    have hgr : tk b L P = 40 ∨ tk b L P = 41 ∨ tk b L P = 59 ∨ tk b L P = 1011 ∨ tk b L P = 2000 ∨ tk b L P = 2002 ∨ tk b L P = 1000 ∨ tk b L P = 1001 ∨ tk b L P = 1002 ∨ tk b L P = 1003 ∨ tk b L P = 1004 ∨ tk b L P = 1005 ∨ tk b L P = 43 ∨ tk b L P = 45 ∨ tk b L P = 42 ∨ tk b L P = 60 ∨ tk b L P = 61 ∨ tk b L P = 1009 ∨ tk b L P = 1010 ∨ tk b L P = 1006 ∨ tk b L P = 1007 ∨ tk b L P = 1008 := by omega
    rcases hgr with z | z | z | z | z | z | z | z | z | z | z | z | z | z | z | z | z | z | z | z | z | z <;> rw [z] <;> decide
  refine XP_ifD rfl (fun b63 => ?_) (fun b63 => absurd b63 hmt)
  refine XP_n 2 (pc' := 68) (ls' := [.ref (99), .int (nI (0)), .int (nI (3))]) (st' := []) (M' := (I1, J, Rx R, N, G)) rfl ?_
  exact l_tbad ht k30 hO1 hF1 hC.2.2.1 _ (kk _ hO1 hF1)
theorem l_tend1 (hT : TpM B b L) (hL : L ≤ 160) (hb : ∀ i, i < L → b i ≤ 255) (hD : WD J) (ht : t < 6) (k30 : B 99 30 = nI t) {P : Nat} {u : List Nat} {Q : Option Value → hM → Prop} (hO : MO B t I u) (hF : Fr0 B I) (h44 : I 99 44 = nI P) (hP : P ≤ L) (g : tk b L P = 2001) (kk : ∀ I1 : Nat → Nat → Int32, MO B t I1 u → Fr0 B I1 → Q (some (.int (nI t))) (rw2 (rw2 (rw2 I1 118 (4 * t + 3) (nI u.length)) 99 27 (nI 0)) 99 30 (nI (t + 1)), J, Rx R, N, G)) : XP X (d + 11) k_M_text 16 [.ref 99, .int (nI 1), .int (nI 3)] [] (I, J, Rx R, N, G) Q := by
  refine XP_n 2 (pc' := 18) (ls' := [.ref (99), .int (nI (1)), .int (nI (3))]) (st' := [.int (nI (3)), .int (nI (3))]) (M' := (I, J, Rx R, N, G)) rfl ?_
  refine XP_icN (x := 3) (y := 3) rfl (by omega) (by omega) (fun (b18 : 3 ≤ 3) => ?_) (fun (b18 : 3 < 3) => absurd b18 (by omega))
  refine XP_n 1 (pc' := 58) (ls' := [.ref (99), .int (nI (1)), .int (nI (3))]) (st' := [.int (nI (1))]) (M' := (I, J, Rx R, N, G)) rfl ?_
  refine XP_ifN (x := 1)  rfl (by omega) (fun (b58 : 1 = 0) => absurd b58 (by omega)) (fun (b58 : ¬ 1 = 0) => ?_)
  refine XP_n 1 (pc' := 60) (ls' := [.ref (99), .int (nI (1)), .int (nI (3))]) (st' := [.ref (99)]) (M' := (I, J, Rx R, N, G)) rfl ?_
  refine XP_call rfl rfl (c_next (hT.fr hF) hL hb hD hP h44) ?_
  rintro v1 M1 ⟨rfl, I1, rfl, hC, f1, f2⟩
  have hF1 : Fr0 B I1 := hF.of f1 f2
  have hO1 : MO B t I1 u := hO.of (f1 117 (by omega)) (f2 52 (by omega))
  have h46 := hC.2.2.2.1
  have hr := tk_rg (b := b) (L := L) P
  refine XP_n 2 (pc' := 63) (ls' := [.ref (99), .int (nI (1)), .int (nI (3))]) (st' := [.int (I1 99 46)]) (M' := (I1, J, Rx R, N, G)) rfl ?_
  rw [h46]
  have hmt : mT (tk b L P) = nI 0 := by rw [g]; rfl
  refine XP_ifD rfl (fun b63 => absurd hmt b63) (fun b63 => ?_)
  refine XP_n 3 (pc' := 68) (ls' := [.ref (99), .int (nI (1)), .int (nI (3))]) (st' := []) (M' := (I1, J, Rx R, N, G)) rfl ?_
  exact l_tgood ht k30 hO1 hF1 _ (kk _ hO1 hF1)
end
section
variable {t : Nat} {b : Nat → Nat} {L : Nat}
theorem l_pf0 (hL : L ≤ 160) (hb : ∀ i, i < L → b i ≤ 255) (ht : t < 6) {P q : Nat} {u : List Nat} (hu : u.length ≤ P) (hP : P ≤ L) (hpf : PartFail b L 0 P u q) : ∃ uf : List Nat, ∀ {Q : Option Value → hM → Prop} (X : hX) (d : Nat) (I B : Nat → Nat → Int32) (J : Nat → Nat → Int64) (R : Nat → Nat → Option Nat) (N : Nat → Nat) (G : hG), TpM B b L → WD J → B 99 30 = nI t → MO B t I u → Fr0 B I → I 99 44 = nI P → (∀ I1 : Nat → Nat → Int32, MO (rw2 B 118 (4 * t + 0) (nI u.length)) t I1 uf → Fr0 (rw2 B 118 (4 * t + 0) (nI u.length)) I1 → Q (some (.int (cI (-100) - nI (pl b L q)))) (rw2 (rw2 I1 118 (4 * t + 3) (nI uf.length)) 99 27 (nI 0), J, Rx R, N, G)) → XP X (d + 11) k_M_text 16 [.ref 99, .int (nI 1), .int (nI 0)] [] (I, J, Rx R, N, G) Q := by
  have kB : ∀ (B : Nat → Nat → Int32) x, B 99 30 = nI t → (rw2 B 118 (4 * t + 0) x) 99 30 = nI t := fun B x h => by rw [rw2_ro (show (99 : Nat) ≠ 118 by omega)]; exact h
  rcases hpf with ⟨g1, rfl⟩ | ⟨g1, T0, l1, rfl, l2, l3⟩
  · exact ⟨u, fun X d I B J R N G hT hD k30 hO hF h44 kk => l_tmis0 hT hL hb hD ht k30 hO hF h44 hu hP g1 (fun I1 c1 c2 c3 => l_t16_1 ht (kB _ _ k30) c1 c2 c3 (kk I1 c1 c2))⟩
  · exact ⟨endU b L T0, fun X d I B J R N G hT hD k30 hO hF h44 kk => l_tfail0 hT hL hb hD ht k30 hO hF h44 hu hP g1 l1 l2 l3 (fun I1 c1 c2 c3 => l_t16_1 ht (kB _ _ k30) c1 c2 c3 (kk I1 c1 c2))⟩
theorem l_pf1 (hL : L ≤ 160) (hb : ∀ i, i < L → b i ≤ 255) (ht : t < 6) {P q : Nat} {u : List Nat} (hu : u.length ≤ P) (hP : P ≤ L) (hpf : PartFail b L 1 P u q) : ∃ uf : List Nat, ∀ {Q : Option Value → hM → Prop} (X : hX) (d : Nat) (I B : Nat → Nat → Int32) (J : Nat → Nat → Int64) (R : Nat → Nat → Option Nat) (N : Nat → Nat) (G : hG), TpM B b L → WD J → B 99 30 = nI t → MO B t I u → Fr0 B I → I 99 44 = nI P → (∀ I1 : Nat → Nat → Int32, MO (rw2 B 118 (4 * t + 1) (nI u.length)) t I1 uf → Fr0 (rw2 B 118 (4 * t + 1) (nI u.length)) I1 → Q (some (.int (cI (-100) - nI (pl b L q)))) (rw2 (rw2 I1 118 (4 * t + 3) (nI uf.length)) 99 27 (nI 0), J, Rx R, N, G)) → XP X (d + 11) k_M_text 16 [.ref 99, .int (nI 1), .int (nI 1)] [] (I, J, Rx R, N, G) Q := by
  have kB : ∀ (B : Nat → Nat → Int32) x, B 99 30 = nI t → (rw2 B 118 (4 * t + 1) x) 99 30 = nI t := fun B x h => by rw [rw2_ro (show (99 : Nat) ≠ 118 by omega)]; exact h
  rcases hpf with ⟨g1, rfl⟩ | ⟨g1, T0, l1, rfl, l2, l3⟩
  · exact ⟨u, fun X d I B J R N G hT hD k30 hO hF h44 kk => l_tmis1 hT hL hb hD ht k30 hO hF h44 hu hP g1 (fun I1 c1 c2 c3 => l_t16_2 ht (kB _ _ k30) c1 c2 c3 (kk I1 c1 c2))⟩
  · exact ⟨endU b L T0, fun X d I B J R N G hT hD k30 hO hF h44 kk => l_tfail1 hT hL hb hD ht k30 hO hF h44 hu hP g1 l1 l2 l3 (fun I1 c1 c2 c3 => l_t16_2 ht (kB _ _ k30) c1 c2 c3 (kk I1 c1 c2))⟩
theorem l_pf2 (hL : L ≤ 160) (hb : ∀ i, i < L → b i ≤ 255) (ht : t < 6) {P q : Nat} {u : List Nat} (hu : u.length ≤ P) (hP : P ≤ L) (hpf : PartFail b L 2 P u q) : ∃ uf : List Nat, ∀ {Q : Option Value → hM → Prop} (X : hX) (d : Nat) (I B : Nat → Nat → Int32) (J : Nat → Nat → Int64) (R : Nat → Nat → Option Nat) (N : Nat → Nat) (G : hG), TpM B b L → WD J → B 99 30 = nI t → MO B t I u → Fr0 B I → I 99 44 = nI P → (∀ I1 : Nat → Nat → Int32, MO (rw2 B 118 (4 * t + 2) (nI u.length)) t I1 uf → Fr0 (rw2 B 118 (4 * t + 2) (nI u.length)) I1 → Q (some (.int (cI (-100) - nI (pl b L q)))) (rw2 (rw2 I1 118 (4 * t + 3) (nI uf.length)) 99 27 (nI 0), J, Rx R, N, G)) → XP X (d + 11) k_M_text 16 [.ref 99, .int (nI 1), .int (nI 2)] [] (I, J, Rx R, N, G) Q := by
  have kB : ∀ (B : Nat → Nat → Int32) x, B 99 30 = nI t → (rw2 B 118 (4 * t + 2) x) 99 30 = nI t := fun B x h => by rw [rw2_ro (show (99 : Nat) ≠ 118 by omega)]; exact h
  rcases hpf with ⟨g1, rfl⟩ | ⟨g1, T0, l1, rfl, l2, l3⟩
  · exact ⟨u, fun X d I B J R N G hT hD k30 hO hF h44 kk => l_tmis2 hT hL hb hD ht k30 hO hF h44 hu hP g1 (fun I1 c1 c2 c3 => l_t16_3 ht (kB _ _ k30) c1 c2 c3 (kk I1 c1 c2))⟩
  · exact ⟨endU b L T0, fun X d I B J R N G hT hD k30 hO hF h44 kk => l_tfail2 hT hL hb hD ht k30 hO hF h44 hu hP g1 l1 l2 l3 (fun I1 c1 c2 c3 => l_t16_3 ht (kB _ _ k30) c1 c2 c3 (kk I1 c1 c2))⟩
end
/-- the state after a text read or not -/
def sT (sb : Nat → Nat → Int32) (t : Nat) (uf : List Nat) : Nat → Nat → Int32 := rw2 (rw2 (blk sb 117 (200 * t) uf.length (fun j => nI (uf.getD j 0))) 118 (4 * t + 3) (nI uf.length)) 99 27 (nI 0)
section
variable {s sb I I1 B : Nat → Nat → Int32} {uf : List Nat} {t : Nat}
theorem sT_k {k : Nat} (h1 : k ≠ 99) (h2 : k ≠ 117) (h3 : k ≠ 118) : sT sb t uf k = sb k := by
  unfold sT
  rw [rw2_ro h1, rw2_ro h3, blk_ro h2]
theorem sT_99 {j : Nat} (h : j ≠ 27) : sT sb t uf 99 j = sb 99 j := by
  unfold sT
  rw [rw2_off (by omega), rw2_ro (by omega), blk_ro (by omega)]
theorem sT_118 {j : Nat} (h : j ≠ 4 * t + 3) : sT sb t uf 118 j = sb 118 j := by
  unfold sT
  rw [rw2_ro (by omega), rw2_off (by omega), blk_ro (by omega)]
theorem sT_n : sT sb t uf 118 (4 * t + 3) = nI uf.length := by
  unfold sT
  rw [rw2_ro (by omega), rw2_on]
theorem sT_in {j : Nat} (h : j < uf.length) : sT sb t uf 117 (200 * t + j) = nI (uf.getD j 0) := by
  unfold sT
  rw [rw2_ro (by omega), rw2_ro (by omega), blk_on h]
theorem sT_D (h1 : ∀ k, k ≠ 118 → sb k = s k) (h2 : ∀ j, j < 4 * cTx s → sb 118 j = s 118 j) : TxD s (sT sb (cTx s) uf) := by
  refine ⟨fun k a1 a2 a3 _ _ => (sT_k a1 a2 a3).trans (h1 k a3), fun j a1 _ => by rw [sT_99 a1, h1 99 (by omega)], by unfold sT; exact rw2_on, fun j hj => ?_, fun j hj => by rw [sT_118 (by omega)]; exact h2 j hj⟩
  unfold sT
  rw [rw2_ro (by omega), rw2_ro (by omega), blk_off (by omega), h1 117 (by omega)]
theorem mpM_99 {j a b : Nat} (h : mpM 99 j = some (a, b)) : j < 44 ∨ 52 < j := by
  by_cases e : j < 44 ∨ 52 < j
  · exact e
  · have hj : j = 44 ∨ j = 45 ∨ j = 46 ∨ j = 47 ∨ j = 48 ∨ j = 49 ∨ j = 50 ∨ j = 51 ∨ j = 52 := by omega
    rcases hj with rfl | rfl | rfl | rfl | rfl | rfl | rfl | rfl | rfl <;> cases h
theorem sT_M0 (h : StM sb B) (hO : MO B t I1 uf) (hF : Fr0 B I1) : StM (blk sb 117 (200 * t) uf.length (fun j => nI (uf.getD j 0))) I1 := fun k j a b hk => by
  obtain ⟨rfl, rfl⟩ := mpM_id hk
  by_cases e : a = 117
  · subst e
    rw [hO.2 b]
    unfold blk
    by_cases g : 200 * t ≤ b ∧ b < 200 * t + uf.length
    · rw [if_pos g, if_pos ⟨rfl, g⟩]
    · rw [if_neg g, if_neg (fun z => g z.2)]
      exact h _ _ _ _ hk
  · rw [blk_ro e]
    by_cases e2 : a = 99
    · subst e2
      rw [hF.2 b (mpM_99 hk)]
      exact h _ _ _ _ hk
    · have e3 : a ≠ 124 := fun z => by
        subst z
        cases hk
      rw [hF.1 a e2 e e3]
      exact h _ _ _ _ hk
theorem sT_M (h : StM sb B) (hO : MO B t I1 uf) (hF : Fr0 B I1) : StM (sT sb t uf) (rw2 (rw2 I1 118 (4 * t + 3) (nI uf.length)) 99 27 (nI 0)) := StM_w (StM_w (sT_M0 h hO hF) rfl) rfl
theorem sT_F (h : FrC I B) (hF : Fr0 B I1) : FrC I (rw2 (rw2 I1 118 (4 * t + 3) (nI uf.length)) 99 27 (nI 0)) := FrC.w (FrC.w (FrC.tr h (fun k hk => by
  have := isC_t hk
  exact hF.1 k (by omega) (by omega) (by omega))) rfl) rfl
end
section
variable {X : hX} {d : Nat} {s I : Nat → Nat → Int32} {J : Nat → Nat → Int64} {R : Nat → Nat → Option Nat} {N : Nat → Nat} {G : hG}
theorem l_tst (hW : Wf s) (h6 : cTx s < 6) (hS : StM s I) {Q : Option Value → hM → Prop} (kk : XP X (d + 11) k_M_text 16 [.ref 99, .int (nI 1), .int (nI 0)] [] (rw2 (rw2 I 99 44 (nI 0)) 99 52 (nI 0), J, Rx R, N, G) Q) : TP X (d + 11) n_M_text [.ref 99] (I, J, Rx R, N, G) Q := by
  unfold TP
  show XP X _ k_M_text 0 [.ref (99), xj, xj] [] _ _
  refine XP_n 1 (pc' := 1) (ls' := [.ref (99), xj, xj]) (st' := [.ref (99)]) (M' := (I, J, Rx R, N, G)) rfl ?_
  refine XP_getiM hS rfl rfl rfl ?_
  rw [hW.tx.1]
  refine XP_n 1 (pc' := 3) (ls' := [.ref (99), xj, xj]) (st' := [.int (nI (6)), .int (nI (cTx s))]) (M' := (I, J, Rx R, N, G)) rfl ?_
  refine XP_icN (x := cTx s) (y := 6) rfl (by omega) (by omega) (fun (b3 : ¬ cTx s = 6) => ?_) (fun (b3 : cTx s = 6) => absurd b3 (by omega))
  refine XP_n 10 (pc' := 16) (ls' := [.ref (99), .int (nI (1)), .int (nI (0))]) (st' := []) (M' := ((rw2 (rw2 I 99 44 (nI (0))) 99 52 (nI (0))), J, Rx R, N, G)) rfl ?_
  exact kk
theorem m_full (hW : Wf s) (h6 : ¬ cTx s < 6) (hS : StM s I) : TP X (d + 11) n_M_text [.ref 99] (I, J, Rx R, N, G) (Ret (.int (cI (-4))) (I, J, Rx R, N, G)) := by
  have htx := hW.tx.2
  have e6 : cTx s = 6 := by omega
  unfold TP
  show XP X _ k_M_text 0 [.ref (99), xj, xj] [] _ _
  refine XP_n 1 (pc' := 1) (ls' := [.ref (99), xj, xj]) (st' := [.ref (99)]) (M' := (I, J, Rx R, N, G)) rfl ?_
  refine XP_getiM hS rfl rfl rfl ?_
  rw [hW.tx.1]
  refine XP_n 1 (pc' := 3) (ls' := [.ref (99), xj, xj]) (st' := [.int (nI (6)), .int (nI (cTx s))]) (M' := (I, J, Rx R, N, G)) rfl ?_
  refine XP_icN (x := cTx s) (y := 6) rfl (by omega) (by omega) (fun (b3 : ¬ cTx s = 6) => absurd b3 (by omega)) (fun (b3 : cTx s = 6) => ?_)
  refine XP_n 1 (pc' := 5) (ls' := [.ref (99), xj, xj]) (st' := [.int (cI (-4))]) (M' := (I, J, Rx R, N, G)) rfl ?_
  exact XP_ret rfl ⟨rfl, rfl⟩
end
