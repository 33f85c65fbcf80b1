/-! the model's reading of an expression: the loop -/
def bn (x : Bool) : Nat := match x with
  | true => 1
  | false => 0
/-- what has been put out where the reading ends -/
noncomputable def endU (b : Nat → Nat) (L : Nat) (S : PS) : List Nat := match S with
  | ((_, u), true, _, _) => u
  | ((h, u), false, _, p) => if tk b L p = 59 ∨ tk b L p = 41 then (unw 1 h u).2 else if sgn (tk b L p) = 0 then u else if rk (sgn (tk b L p)) = 4 then (unw 5 h u).2 else u
def MO (I0 : Nat → Nat → Int32) (t : Nat) (I : Nat → Nat → Int32) (u : List Nat) : Prop := I 99 52 = nI u.length ∧ ∀ j, I 117 j = if 200 * t ≤ j ∧ j < 200 * t + u.length then nI (u.getD (j - 200 * t) 0) else I0 117 j
section
variable {X : hX} {d : Nat} {s I : Nat → Nat → Int32} {J : Nat → Nat → Int64} {R : Nat → Nat → Option Nat} {N : Nat → Nat} {G : hG} {It : Nat → Nat → Int32} {t : Nat} {b : Nat → Nat} {L : Nat}
theorem MS.o {h u : List Nat} (hM : MS It t I h u) : MO It t I u := ⟨hM.2.2.1, hM.2.2.2.2.1⟩
theorem MS.of {h u : List Nat} {I' : Nat → Nat → Int32} (hM : MS It t I h u) (h1 : ∀ k, k ≠ 99 → I' k = I k) (h2 : ∀ j, j < 44 ∨ 47 < j → I' 99 j = I 99 j) : MS It t I' h u := by
  obtain ⟨a, b, c, d, e, f⟩ := hM
  exact ⟨(h2 50 (by omega)).trans a, (h2 51 (by omega)).trans b, (h2 52 (by omega)).trans c, fun i hi => by rw [h1 124 (by omega)]; exact d i hi, fun j => by rw [h1 117 (by omega)]; exact e j, f⟩
theorem Fr0.of {I' : Nat → Nat → Int32} (hF : Fr0 It I) (h1 : ∀ k, k ≠ 99 → I' k = I k) (h2 : ∀ j, j < 44 ∨ 47 < j → I' 99 j = I 99 j) : Fr0 It I' := ⟨fun k a c d => (h1 k a).trans (hF.1 k a c d), fun j hj => (h2 j (by omega)).trans (hF.2 j hj)⟩
theorem TpM.fr (hT : TpM It b L) (hF : Fr0 It I) : TpM I b L := ⟨(hF.2 27 (by omega)).trans hT.1, fun i hi => by rw [hF.1 116 (by omega) (by omega) (by omega)]; exact hT.2 i hi⟩
theorem MS.pop {h u : List Nat} (hM : MS It t I (0 :: h) u) : MS It t (rw2 (rw2 I 99 50 (nI h.length)) 99 51 (nI (cnt h))) h u := by
  obtain ⟨a, b, c, d, e, f⟩ := hM
  refine ⟨rfl, rfl, c, fun i hi => ?_, e, fun x hx => f x (List.mem_cons_of_mem _ hx)⟩
  rw [← gd_rev (s := 0) hi]
  exact d i (by rw [List.length_cons]; omega)
theorem stp_bnd {h u : List Nat} {w m : Bool} {p : Nat} {h1 u1 : List Nat} {w1 m1 : Bool} {p1 : Nat} (hs : h.length + u.length ≤ p) (hp : p ≤ L) (he : stp b L ((h, u), w, m, p) = some ((h1, u1), w1, m1, p1)) : h1.length + u1.length ≤ p1 ∧ p1 ≤ L := by
  have hL := nx_L (b := b) hp
  have key : ∀ (hu : List Nat × List Nat) (w2 m2 : Bool), tk b L p ≠ 2001 → hu.1.length + hu.2.length ≤ h.length + u.length + 1 → some (hu, w2, m2, nx b L p) = some ((h1, u1), w1, m1, p1) → h1.length + u1.length ≤ p1 ∧ p1 ≤ L := by
    intro hu w2 m2 ht hl e
    injection e with e
    injection e with e1 e2
    injection e2 with e2 e3
    injection e3 with e3 e4
    subst e1
    have := (tk_nx ht).1
    have hl : h1.length + u1.length ≤ h.length + u.length + 1 := hl
    omega
  have hul : ∀ r (g v : List Nat), (unw r g v).1.length + (unw r g v).2.length = g.length + v.length := unw_len
  have ha : ∀ c, (u ++ [c]).length = u.length + 1 := fun c => by rw [List.length_append]; rfl
  match w, he with
  | true, he =>
    have he : stpW b L h u m p = _ := he
    unfold stpW at he
    split at he
    · exact key _ _ _ (by omega) (by rw [hul, ha]; omega) he
    · split at he
      · exact key _ _ _ (by omega) (by rw [hul, ha]; omega) he
      · split at he
        · rename_i g
          split at he
          · cases he
          · exact key _ _ _ (by omega) (by show (_ :: h).length + u.length ≤ _; rw [List.length_cons]; omega) he
        · split at he
          · split at he
            · cases he
            · exact key _ _ _ (by omega) (by show (_ :: h).length + u.length ≤ _; rw [List.length_cons]; omega) he
          · split at he
            · split at he
              · cases he
              · exact key _ _ _ (by omega) (by show (_ :: h).length + u.length ≤ _; rw [List.length_cons]; omega) he
            · cases he
  | false, he =>
    have he : stpN b L h u m p = _ := he
    unfold stpN at he
    split at he
    · cases he
    · split at he
      · have hl := hul 1 h u
        generalize (unw 1 h u).1 = q at he hl
        generalize (unw 1 h u).2 = v at he hl
        match q, he, hl with
        | [], he, _ => cases he
        | x :: q, he, hl =>
          rw [List.length_cons] at hl
          exact key _ _ _ (by omega) (by rw [hul]; omega) he
      · split at he
        · cases he
        · rename_i gs
          have ht : tk b L p ≠ 2001 := fun z => gs (by rw [z]; rfl)
          split at he
          · split at he
            · have hl := hul 5 h u
              exact key _ _ _ ht (by show (_ :: (unw 5 h u).1).length + (unw 5 h u).2.length ≤ _; rw [List.length_cons]; omega) he
            · cases he
          · have hl := hul (rk (sgn (tk b L p))) h u
            exact key _ _ _ ht (by show (_ :: (unw (rk (sgn (tk b L p))) h u).1).length + (unw (rk (sgn (tk b L p))) h u).2.length ≤ _; rw [List.length_cons]; omega) he
theorem e_stepW (hT : TpM It b L) (hL : L ≤ 160) (hb : ∀ i, i < L → b i ≤ 255) (hD : WD J) (ht : t < 6) (k30 : It 99 30 = nI t) {h u : List Nat} {m : Bool} {p : Nat} {x3 : Value} {Q : Option Value → hM → Prop} (hsz : h.length + u.length ≤ p) (hp : p ≤ L) (hM : MS It t I h u) (hF : Fr0 It I) (h44 : I 99 44 = nI p) (kGo : ∀ (h1 u1 : List Nat) (w1 m1 : Bool) (p1 : Nat) (I1 : Nat → Nat → Int32) (x3 : Value), stp b L ((h, u), true, m, p) = some ((h1, u1), w1, m1, p1) → MS It t I1 h1 u1 → Fr0 It I1 → I1 99 44 = nI p1 → XP X (d + 10) k_M_eRead 10 [.ref 99, .int (nI (bn w1)), .int (nI (bn m1)), x3] [] (I1, J, Rx R, N, G) Q) (kEnd : ∀ (I1 : Nat → Nat → Int32) (a : Nat), stp b L ((h, u), true, m, p) = none → a ≤ 1 → (a = 1 ↔ Acc b L ((h, u), true, m, p)) → MO It t I1 (endU b L ((h, u), true, m, p)) → Fr0 It I1 → I1 99 45 = nI (pl b L p) → I1 99 44 = nI (nx b L p) → Q (some (.int (nI a))) (I1, J, Rx R, N, G)) : XP X (d + 10) k_M_eRead 10 [.ref 99, .int (nI 1), .int (nI (bn m)), x3] [] (I, J, Rx R, N, G) Q := by
  cases m with
  | true =>
    show XP X _ k_M_eRead 10 [.ref 99, .int (nI 1), .int (nI 1), x3] [] _ _
    refine XP_n 1 (pc' := 11) (ls' := [.ref (99), .int (nI (1)), .int (nI (1)), x3]) (st' := [.ref (99)]) (M' := (I, J, Rx R, N, G)) rfl ?_
    refine XP_call rfl rfl (c_next (hT.fr hF) hL hb hD hp h44) ?_
    rintro v1 M1 ⟨rfl, I1, rfl, hC, f1, f2⟩
    have hM1 : MS It t I1 h u := hM.of f1 f2
    have hF1 : Fr0 It I1 := hF.of f1 f2
    have hpl := pl_le (b := b) (L := L) p
    have h46 := hC.2.2.2.1
    have hr := tk_rg (b := b) (L := L) p
    have hcl := cnt_le h
    by_cases g1 : tk b L p = 2000
    · have htv := tv_lt hb hp g1
      have q46 : I1 99 46 = nI 1 := h46.trans (by rw [g1]; rfl)
      have q47 : I1 99 47 = nI (tv b L p) := hC.2.2.2.2.1 g1
      refine XP_n 1 (pc' := 13) (ls' := [.ref (99), .int (nI (1)), .int (nI (1)), x3]) (st' := [.int (nI (1))]) (M' := (I1, J, Rx R, N, G)) rfl ?_
      refine XP_ifN (x := 1)  rfl (by omega) (fun (b13 : 1 = 0) => absurd b13 (by omega)) (fun (b13 : ¬ 1 = 0) => ?_)
      refine XP_n 2 (pc' := 16) (ls' := [.ref (99), .int (nI (1)), .int (nI (1)), x3]) (st' := [.int (I1 99 46)]) (M' := (I1, J, Rx R, N, G)) rfl ?_
      rw [q46]
      refine XP_n 1 (pc' := 17) (ls' := [.ref (99), .int (nI (1)), .int (nI (1)), x3]) (st' := [.int (nI (1)), .int (nI (1))]) (M' := (I1, J, Rx R, N, G)) rfl ?_
      refine XP_icN (x := 1) (y := 1) rfl (by omega) (by omega) (fun (b17 : 1 = 1) => ?_) (fun (b17 : ¬ 1 = 1) => absurd b17 (by omega))
      refine XP_n 3 (pc' := 25) (ls' := [.ref (99), .int (nI (1)), .int (nI (1)), x3]) (st' := [.int (I1 99 46), .ref (99)]) (M' := (I1, J, Rx R, N, G)) rfl ?_
      rw [q46]
      refine XP_n 1 (pc' := 26) (ls' := [.ref (99), .int (nI (1)), .int (nI (1)), x3]) (st' := [.int (nI (1)), .int (nI (1)), .ref (99)]) (M' := (I1, J, Rx R, N, G)) rfl ?_
      refine XP_icN (x := 1) (y := 1) rfl (by omega) (by omega) (fun (b26 : ¬ 1 = 1) => absurd b26 (by omega)) (fun (b26 : 1 = 1) => ?_)
      refine XP_n 3 (pc' := 30) (ls' := [.ref (99), .int (nI (1)), .int (nI (1)), x3]) (st' := [.int (I1 99 47), .int (nI (100000)), .ref (99)]) (M' := (I1, J, Rx R, N, G)) rfl ?_
      rw [q47]
      refine XP_n 2 (pc' := 34) (ls' := [.ref (99), .int (nI (1)), .int (nI (1)), x3]) (st' := [.int ((nI (100000)) + (nI (tv b L p))), .ref (99)]) (M' := (I1, J, Rx R, N, G)) rfl ?_
      rw [show (nI (100000)) + (nI (tv b L p)) = nI (100000 + tv b L p) from nI_addE (rfl) (rfl)]
      refine XP_call rfl rfl (c_mputs (u := u) ht (by omega) ((hF1.2 30 (by omega)).trans k30) hM1.2.2.1 _) ?_
      rintro v2 M2 ⟨rfl, rfl⟩
      have hM2 := MS.put (c := 100000 + tv b L p) hM1 rfl
      have hF2 : Fr0 It _ := hF1.put (j := 200 * t + u.length) (x := nI (100000 + tv b L p)) (y := nI (u.length + 1)) (Or.inl rfl) (show 44 ≤ 52 ∧ 52 ≤ 52 by omega)
      refine XP_n 2 (pc' := 37) (ls' := [.ref (99), .int (nI (1)), .int (nI (1)), x3]) (st' := [.int (nI (7)), .ref (99)]) (M' := ((rw2 (rw2 I1 117 (200 * t + u.length) (nI (100000 + tv b L p))) 99 52 (nI (u.length + 1))), J, Rx R, N, G)) rfl ?_
      refine XP_call rfl rfl (c_unw (I := (rw2 (rw2 I1 117 (200 * t + u.length) (nI (100000 + tv b L p))) 99 52 (nI (u.length + 1)))) (r := 7) (by omega) (by omega) ht k30 (by rw [List.length_append]; show h.length + (u.length + 1) ≤ 160; have := tk_nx (b := b) (L := L) (p := p) (by omega); omega) hM2 hF2) ?_
      rintro v3 M3 ⟨rfl, I3, rfl, hM3, hF3, hT3⟩
      have h443 : I3 99 44 = nI (nx b L p) := (hT3 44 (by omega) (by omega)).trans hC.2.1
      refine XP_n 3 (pc' := 10) (ls' := [.ref (99), .int (nI (0)), .int (nI (1)), x3]) (st' := []) (M' := (I3, J, Rx R, N, G)) rfl ?_
      exact kGo _ _ false true _ I3 _ (by show stpW b L h u true p = _; unfold stpW; rw [if_pos g1]) hM3 hF3 h443
    by_cases g2 : 1000 ≤ tk b L p ∧ tk b L p < 1006
    · have htn : tk b L p = tw (tk b L p - 997) := by
        have hc : tk b L p = 1000 ∨ tk b L p = 1001 ∨ tk b L p = 1002 ∨ tk b L p = 1003 ∨ tk b L p = 1004 ∨ tk b L p = 1005 := by omega
        rcases hc with z | z | z | z | z | z <;> rw [z] <;> rfl
      have q46 : I1 99 46 = nI 2 := by
        rw [h46]
        unfold mT
        repeat (first | rw [if_pos (by omega)] | rw [if_neg (by omega)])
      have q47 : I1 99 47 = nI (tk b L p - 1000) := by
        rw [hC.2.2.2.2.2 (tk b L p - 997) (by omega) htn, if_neg (by omega), show tk b L p - 997 - 3 = tk b L p - 1000 by omega]
      refine XP_n 1 (pc' := 13) (ls' := [.ref (99), .int (nI (1)), .int (nI (1)), x3]) (st' := [.int (nI (1))]) (M' := (I1, J, Rx R, N, G)) rfl ?_
      refine XP_ifN (x := 1)  rfl (by omega) (fun (b13 : 1 = 0) => absurd b13 (by omega)) (fun (b13 : ¬ 1 = 0) => ?_)
      refine XP_n 2 (pc' := 16) (ls' := [.ref (99), .int (nI (1)), .int (nI (1)), x3]) (st' := [.int (I1 99 46)]) (M' := (I1, J, Rx R, N, G)) rfl ?_
      rw [q46]
      refine XP_n 1 (pc' := 17) (ls' := [.ref (99), .int (nI (1)), .int (nI (1)), x3]) (st' := [.int (nI (1)), .int (nI (2))]) (M' := (I1, J, Rx R, N, G)) rfl ?_
      refine XP_icN (x := 2) (y := 1) rfl (by omega) (by omega) (fun (b17 : 2 = 1) => absurd b17 (by omega)) (fun (b17 : ¬ 2 = 1) => ?_)
      refine XP_n 2 (pc' := 20) (ls' := [.ref (99), .int (nI (1)), .int (nI (1)), x3]) (st' := [.int (I1 99 46)]) (M' := (I1, J, Rx R, N, G)) rfl ?_
      rw [q46]
      refine XP_n 1 (pc' := 21) (ls' := [.ref (99), .int (nI (1)), .int (nI (1)), x3]) (st' := [.int (nI (2)), .int (nI (2))]) (M' := (I1, J, Rx R, N, G)) rfl ?_
      refine XP_icN (x := 2) (y := 2) rfl (by omega) (by omega) (fun (b21 : ¬ 2 = 2) => absurd b21 (by omega)) (fun (b21 : 2 = 2) => ?_)
      refine XP_n 3 (pc' := 25) (ls' := [.ref (99), .int (nI (1)), .int (nI (1)), x3]) (st' := [.int (I1 99 46), .ref (99)]) (M' := (I1, J, Rx R, N, G)) rfl ?_
      rw [q46]
      refine XP_n 1 (pc' := 26) (ls' := [.ref (99), .int (nI (1)), .int (nI (1)), x3]) (st' := [.int (nI (1)), .int (nI (2)), .ref (99)]) (M' := (I1, J, Rx R, N, G)) rfl ?_
      refine XP_icN (x := 2) (y := 1) rfl (by omega) (by omega) (fun (b26 : ¬ 2 = 1) => ?_) (fun (b26 : 2 = 1) => absurd b26 (by omega))
      refine XP_n 2 (pc' := 34) (ls' := [.ref (99), .int (nI (1)), .int (nI (1)), x3]) (st' := [.int (I1 99 47), .ref (99)]) (M' := (I1, J, Rx R, N, G)) rfl ?_
      rw [q47]
      refine XP_call rfl rfl (c_mputs (u := u) ht (by omega) ((hF1.2 30 (by omega)).trans k30) hM1.2.2.1 _) ?_
      rintro v2 M2 ⟨rfl, rfl⟩
      have hM2 := MS.put (c := tk b L p - 1000) hM1 rfl
      have hF2 : Fr0 It _ := hF1.put (j := 200 * t + u.length) (x := nI (tk b L p - 1000)) (y := nI (u.length + 1)) (Or.inl rfl) (show 44 ≤ 52 ∧ 52 ≤ 52 by omega)
      refine XP_n 2 (pc' := 37) (ls' := [.ref (99), .int (nI (1)), .int (nI (1)), x3]) (st' := [.int (nI (7)), .ref (99)]) (M' := ((rw2 (rw2 I1 117 (200 * t + u.length) (nI (tk b L p - 1000))) 99 52 (nI (u.length + 1))), J, Rx R, N, G)) rfl ?_
      refine XP_call rfl rfl (c_unw (I := (rw2 (rw2 I1 117 (200 * t + u.length) (nI (tk b L p - 1000))) 99 52 (nI (u.length + 1)))) (r := 7) (by omega) (by omega) ht k30 (by rw [List.length_append]; show h.length + (u.length + 1) ≤ 160; have := tk_nx (b := b) (L := L) (p := p) (by omega); omega) hM2 hF2) ?_
      rintro v3 M3 ⟨rfl, I3, rfl, hM3, hF3, hT3⟩
      have h443 : I3 99 44 = nI (nx b L p) := (hT3 44 (by omega) (by omega)).trans hC.2.1
      refine XP_n 3 (pc' := 10) (ls' := [.ref (99), .int (nI (0)), .int (nI (1)), x3]) (st' := []) (M' := (I3, J, Rx R, N, G)) rfl ?_
      exact kGo _ _ false true _ I3 _ (by show stpW b L h u true p = _; unfold stpW; rw [if_neg g1, if_pos g2]) hM3 hF3 h443
    by_cases g3 : tk b L p = 45
    · have q46 : I1 99 46 = nI 45 := h46.trans (by rw [g3]; rfl)
      by_cases g5 : cnt h = 5
      · refine XP_n 1 (pc' := 13) (ls' := [.ref (99), .int (nI (1)), .int (nI (1)), x3]) (st' := [.int (nI (1))]) (M' := (I1, J, Rx R, N, G)) rfl ?_
        refine XP_ifN (x := 1)  rfl (by omega) (fun (b13 : 1 = 0) => absurd b13 (by omega)) (fun (b13 : ¬ 1 = 0) => ?_)
        refine XP_n 2 (pc' := 16) (ls' := [.ref (99), .int (nI (1)), .int (nI (1)), x3]) (st' := [.int (I1 99 46)]) (M' := (I1, J, Rx R, N, G)) rfl ?_
        rw [q46]
        refine XP_n 1 (pc' := 17) (ls' := [.ref (99), .int (nI (1)), .int (nI (1)), x3]) (st' := [.int (nI (1)), .int (nI (45))]) (M' := (I1, J, Rx R, N, G)) rfl ?_
        refine XP_icN (x := 45) (y := 1) rfl (by omega) (by omega) (fun (b17 : 45 = 1) => absurd b17 (by omega)) (fun (b17 : ¬ 45 = 1) => ?_)
        refine XP_n 2 (pc' := 20) (ls' := [.ref (99), .int (nI (1)), .int (nI (1)), x3]) (st' := [.int (I1 99 46)]) (M' := (I1, J, Rx R, N, G)) rfl ?_
        rw [q46]
        refine XP_n 1 (pc' := 21) (ls' := [.ref (99), .int (nI (1)), .int (nI (1)), x3]) (st' := [.int (nI (2)), .int (nI (45))]) (M' := (I1, J, Rx R, N, G)) rfl ?_
        refine XP_icN (x := 45) (y := 2) rfl (by omega) (by omega) (fun (b21 : ¬ 45 = 2) => ?_) (fun (b21 : 45 = 2) => absurd b21 (by omega))
        refine XP_n 2 (pc' := 43) (ls' := [.ref (99), .int (nI (1)), .int (nI (1)), x3]) (st' := [.int (I1 99 46)]) (M' := (I1, J, Rx R, N, G)) rfl ?_
        rw [q46]
        refine XP_n 1 (pc' := 44) (ls' := [.ref (99), .int (nI (1)), .int (nI (1)), x3]) (st' := [.int (nI (6)), .int (nI (45))]) (M' := (I1, J, Rx R, N, G)) rfl ?_
        refine XP_icN (x := 45) (y := 6) rfl (by omega) (by omega) (fun (b44 : ¬ 45 = 6) => ?_) (fun (b44 : 45 = 6) => absurd b44 (by omega))
        refine XP_n 2 (pc' := 55) (ls' := [.ref (99), .int (nI (1)), .int (nI (1)), x3]) (st' := [.int (I1 99 46)]) (M' := (I1, J, Rx R, N, G)) rfl ?_
        rw [q46]
        refine XP_n 1 (pc' := 56) (ls' := [.ref (99), .int (nI (1)), .int (nI (1)), x3]) (st' := [.int (nI (45)), .int (nI (45))]) (M' := (I1, J, Rx R, N, G)) rfl ?_
        refine XP_icN (x := 45) (y := 45) rfl (by omega) (by omega) (fun (b56 : ¬ 45 = 45) => absurd b56 (by omega)) (fun (b56 : 45 = 45) => ?_)
        refine XP_n 2 (pc' := 59) (ls' := [.ref (99), .int (nI (1)), .int (nI (1)), x3]) (st' := [.int (nI (19)), .ref (99)]) (M' := (I1, J, Rx R, N, G)) rfl ?_
        refine XP_pure rfl rfl (c_opF _ hM1 g5) ?_
        refine XP_ifN (x := 0)  rfl (by omega) (fun (b60 : ¬ 0 = 0) => absurd b60 (by omega)) (fun (b60 : 0 = 0) => ?_)
        refine XP_n 1 (pc' := 62) (ls' := [.ref (99), .int (nI (1)), .int (nI (1)), x3]) (st' := [.int (nI (0))]) (M' := (I1, J, Rx R, N, G)) rfl ?_
        exact XP_ret rfl (kEnd I1 0 (by show stpW b L h u true p = _; unfold stpW; rw [if_neg (by omega), if_neg (by omega), if_neg (fun z => by have := z.1; omega), if_pos g3, if_pos g5]) (by omega) ⟨fun z => absurd z (by omega), fun z => by cases z.1⟩ hM1.o hF1 hC.2.2.1 hC.2.1)
      · refine XP_n 1 (pc' := 13) (ls' := [.ref (99), .int (nI (1)), .int (nI (1)), x3]) (st' := [.int (nI (1))]) (M' := (I1, J, Rx R, N, G)) rfl ?_
        refine XP_ifN (x := 1)  rfl (by omega) (fun (b13 : 1 = 0) => absurd b13 (by omega)) (fun (b13 : ¬ 1 = 0) => ?_)
        refine XP_n 2 (pc' := 16) (ls' := [.ref (99), .int (nI (1)), .int (nI (1)), x3]) (st' := [.int (I1 99 46)]) (M' := (I1, J, Rx R, N, G)) rfl ?_
        rw [q46]
        refine XP_n 1 (pc' := 17) (ls' := [.ref (99), .int (nI (1)), .int (nI (1)), x3]) (st' := [.int (nI (1)), .int (nI (45))]) (M' := (I1, J, Rx R, N, G)) rfl ?_
        refine XP_icN (x := 45) (y := 1) rfl (by omega) (by omega) (fun (b17 : 45 = 1) => absurd b17 (by omega)) (fun (b17 : ¬ 45 = 1) => ?_)
        refine XP_n 2 (pc' := 20) (ls' := [.ref (99), .int (nI (1)), .int (nI (1)), x3]) (st' := [.int (I1 99 46)]) (M' := (I1, J, Rx R, N, G)) rfl ?_
        rw [q46]
        refine XP_n 1 (pc' := 21) (ls' := [.ref (99), .int (nI (1)), .int (nI (1)), x3]) (st' := [.int (nI (2)), .int (nI (45))]) (M' := (I1, J, Rx R, N, G)) rfl ?_
        refine XP_icN (x := 45) (y := 2) rfl (by omega) (by omega) (fun (b21 : ¬ 45 = 2) => ?_) (fun (b21 : 45 = 2) => absurd b21 (by omega))
        refine XP_n 2 (pc' := 43) (ls' := [.ref (99), .int (nI (1)), .int (nI (1)), x3]) (st' := [.int (I1 99 46)]) (M' := (I1, J, Rx R, N, G)) rfl ?_
        rw [q46]
        refine XP_n 1 (pc' := 44) (ls' := [.ref (99), .int (nI (1)), .int (nI (1)), x3]) (st' := [.int (nI (6)), .int (nI (45))]) (M' := (I1, J, Rx R, N, G)) rfl ?_
        refine XP_icN (x := 45) (y := 6) rfl (by omega) (by omega) (fun (b44 : ¬ 45 = 6) => ?_) (fun (b44 : 45 = 6) => absurd b44 (by omega))
        refine XP_n 2 (pc' := 55) (ls' := [.ref (99), .int (nI (1)), .int (nI (1)), x3]) (st' := [.int (I1 99 46)]) (M' := (I1, J, Rx R, N, G)) rfl ?_
        rw [q46]
        refine XP_n 1 (pc' := 56) (ls' := [.ref (99), .int (nI (1)), .int (nI (1)), x3]) (st' := [.int (nI (45)), .int (nI (45))]) (M' := (I1, J, Rx R, N, G)) rfl ?_
        refine XP_icN (x := 45) (y := 45) rfl (by omega) (by omega) (fun (b56 : ¬ 45 = 45) => absurd b56 (by omega)) (fun (b56 : 45 = 45) => ?_)
        refine XP_n 2 (pc' := 59) (ls' := [.ref (99), .int (nI (1)), .int (nI (1)), x3]) (st' := [.int (nI (19)), .ref (99)]) (M' := (I1, J, Rx R, N, G)) rfl ?_
        refine XP_call rfl rfl (c_opT (s := 19) hM1 hF1 (by omega) (by omega) g5) ?_
        rintro v3 M3 ⟨rfl, I3, rfl, hM3, hF3, hT3⟩
        have h443 : I3 99 44 = nI (nx b L p) := (hT3 44 (by omega) (by omega)).trans hC.2.1
        refine XP_ifN (x := 1)  rfl (by omega) (fun (b60 : ¬ 1 = 0) => ?_) (fun (b60 : 1 = 0) => absurd b60 (by omega))
        refine XP_n 3 (pc' := 10) (ls' := [.ref (99), .int (nI (1)), .int (nI (0)), x3]) (st' := []) (M' := (I3, J, Rx R, N, G)) rfl ?_
        exact kGo (19 :: h) u true false _ I3 _ (stp_pre g5 (Or.inr (Or.inl ⟨g3, rfl, rfl⟩))) hM3 hF3 h443
    by_cases g3 : tk b L p = 40
    · have q46 : I1 99 46 = nI 40 := h46.trans (by rw [g3]; rfl)
      by_cases g5 : cnt h = 5
      · refine XP_n 1 (pc' := 13) (ls' := [.ref (99), .int (nI (1)), .int (nI (1)), x3]) (st' := [.int (nI (1))]) (M' := (I1, J, Rx R, N, G)) rfl ?_
        refine XP_ifN (x := 1)  rfl (by omega) (fun (b13 : 1 = 0) => absurd b13 (by omega)) (fun (b13 : ¬ 1 = 0) => ?_)
        refine XP_n 2 (pc' := 16) (ls' := [.ref (99), .int (nI (1)), .int (nI (1)), x3]) (st' := [.int (I1 99 46)]) (M' := (I1, J, Rx R, N, G)) rfl ?_
        rw [q46]
        refine XP_n 1 (pc' := 17) (ls' := [.ref (99), .int (nI (1)), .int (nI (1)), x3]) (st' := [.int (nI (1)), .int (nI (40))]) (M' := (I1, J, Rx R, N, G)) rfl ?_
        refine XP_icN (x := 40) (y := 1) rfl (by omega) (by omega) (fun (b17 : 40 = 1) => absurd b17 (by omega)) (fun (b17 : ¬ 40 = 1) => ?_)
        refine XP_n 2 (pc' := 20) (ls' := [.ref (99), .int (nI (1)), .int (nI (1)), x3]) (st' := [.int (I1 99 46)]) (M' := (I1, J, Rx R, N, G)) rfl ?_
        rw [q46]
        refine XP_n 1 (pc' := 21) (ls' := [.ref (99), .int (nI (1)), .int (nI (1)), x3]) (st' := [.int (nI (2)), .int (nI (40))]) (M' := (I1, J, Rx R, N, G)) rfl ?_
        refine XP_icN (x := 40) (y := 2) rfl (by omega) (by omega) (fun (b21 : ¬ 40 = 2) => ?_) (fun (b21 : 40 = 2) => absurd b21 (by omega))
        refine XP_n 2 (pc' := 43) (ls' := [.ref (99), .int (nI (1)), .int (nI (1)), x3]) (st' := [.int (I1 99 46)]) (M' := (I1, J, Rx R, N, G)) rfl ?_
        rw [q46]
        refine XP_n 1 (pc' := 44) (ls' := [.ref (99), .int (nI (1)), .int (nI (1)), x3]) (st' := [.int (nI (6)), .int (nI (40))]) (M' := (I1, J, Rx R, N, G)) rfl ?_
        refine XP_icN (x := 40) (y := 6) rfl (by omega) (by omega) (fun (b44 : ¬ 40 = 6) => ?_) (fun (b44 : 40 = 6) => absurd b44 (by omega))
        refine XP_n 2 (pc' := 55) (ls' := [.ref (99), .int (nI (1)), .int (nI (1)), x3]) (st' := [.int (I1 99 46)]) (M' := (I1, J, Rx R, N, G)) rfl ?_
        rw [q46]
        refine XP_n 1 (pc' := 56) (ls' := [.ref (99), .int (nI (1)), .int (nI (1)), x3]) (st' := [.int (nI (45)), .int (nI (40))]) (M' := (I1, J, Rx R, N, G)) rfl ?_
        refine XP_icN (x := 40) (y := 45) rfl (by omega) (by omega) (fun (b56 : ¬ 40 = 45) => ?_) (fun (b56 : 40 = 45) => absurd b56 (by omega))
        refine XP_n 2 (pc' := 68) (ls' := [.ref (99), .int (nI (1)), .int (nI (1)), x3]) (st' := [.int (I1 99 46)]) (M' := (I1, J, Rx R, N, G)) rfl ?_
        rw [q46]
        refine XP_n 1 (pc' := 69) (ls' := [.ref (99), .int (nI (1)), .int (nI (1)), x3]) (st' := [.int (nI (40)), .int (nI (40))]) (M' := (I1, J, Rx R, N, G)) rfl ?_
        refine XP_icN (x := 40) (y := 40) rfl (by omega) (by omega) (fun (b69 : ¬ 40 = 40) => absurd b69 (by omega)) (fun (b69 : 40 = 40) => ?_)
        refine XP_n 2 (pc' := 72) (ls' := [.ref (99), .int (nI (1)), .int (nI (1)), x3]) (st' := [.int (nI (0)), .ref (99)]) (M' := (I1, J, Rx R, N, G)) rfl ?_
        refine XP_pure rfl rfl (c_opF _ hM1 g5) ?_
        refine XP_ifN (x := 0)  rfl (by omega) (fun (b73 : ¬ 0 = 0) => absurd b73 (by omega)) (fun (b73 : 0 = 0) => ?_)
        refine XP_n 1 (pc' := 75) (ls' := [.ref (99), .int (nI (1)), .int (nI (1)), x3]) (st' := [.int (nI (0))]) (M' := (I1, J, Rx R, N, G)) rfl ?_
        exact XP_ret rfl (kEnd I1 0 (by show stpW b L h u true p = _; unfold stpW; rw [if_neg (by omega), if_neg (by omega), if_neg (fun z => by have := z.1; omega), if_neg (by omega), if_pos g3, if_pos g5]) (by omega) ⟨fun z => absurd z (by omega), fun z => by cases z.1⟩ hM1.o hF1 hC.2.2.1 hC.2.1)
      · refine XP_n 1 (pc' := 13) (ls' := [.ref (99), .int (nI (1)), .int (nI (1)), x3]) (st' := [.int (nI (1))]) (M' := (I1, J, Rx R, N, G)) rfl ?_
        refine XP_ifN (x := 1)  rfl (by omega) (fun (b13 : 1 = 0) => absurd b13 (by omega)) (fun (b13 : ¬ 1 = 0) => ?_)
        refine XP_n 2 (pc' := 16) (ls' := [.ref (99), .int (nI (1)), .int (nI (1)), x3]) (st' := [.int (I1 99 46)]) (M' := (I1, J, Rx R, N, G)) rfl ?_
        rw [q46]
        refine XP_n 1 (pc' := 17) (ls' := [.ref (99), .int (nI (1)), .int (nI (1)), x3]) (st' := [.int (nI (1)), .int (nI (40))]) (M' := (I1, J, Rx R, N, G)) rfl ?_
        refine XP_icN (x := 40) (y := 1) rfl (by omega) (by omega) (fun (b17 : 40 = 1) => absurd b17 (by omega)) (fun (b17 : ¬ 40 = 1) => ?_)
        refine XP_n 2 (pc' := 20) (ls' := [.ref (99), .int (nI (1)), .int (nI (1)), x3]) (st' := [.int (I1 99 46)]) (M' := (I1, J, Rx R, N, G)) rfl ?_
        rw [q46]
        refine XP_n 1 (pc' := 21) (ls' := [.ref (99), .int (nI (1)), .int (nI (1)), x3]) (st' := [.int (nI (2)), .int (nI (40))]) (M' := (I1, J, Rx R, N, G)) rfl ?_
        refine XP_icN (x := 40) (y := 2) rfl (by omega) (by omega) (fun (b21 : ¬ 40 = 2) => ?_) (fun (b21 : 40 = 2) => absurd b21 (by omega))
        refine XP_n 2 (pc' := 43) (ls' := [.ref (99), .int (nI (1)), .int (nI (1)), x3]) (st' := [.int (I1 99 46)]) (M' := (I1, J, Rx R, N, G)) rfl ?_
        rw [q46]
        refine XP_n 1 (pc' := 44) (ls' := [.ref (99), .int (nI (1)), .int (nI (1)), x3]) (st' := [.int (nI (6)), .int (nI (40))]) (M' := (I1, J, Rx R, N, G)) rfl ?_
        refine XP_icN (x := 40) (y := 6) rfl (by omega) (by omega) (fun (b44 : ¬ 40 = 6) => ?_) (fun (b44 : 40 = 6) => absurd b44 (by omega))
        refine XP_n 2 (pc' := 55) (ls' := [.ref (99), .int (nI (1)), .int (nI (1)), x3]) (st' := [.int (I1 99 46)]) (M' := (I1, J, Rx R, N, G)) rfl ?_
        rw [q46]
        refine XP_n 1 (pc' := 56) (ls' := [.ref (99), .int (nI (1)), .int (nI (1)), x3]) (st' := [.int (nI (45)), .int (nI (40))]) (M' := (I1, J, Rx R, N, G)) rfl ?_
        refine XP_icN (x := 40) (y := 45) rfl (by omega) (by omega) (fun (b56 : ¬ 40 = 45) => ?_) (fun (b56 : 40 = 45) => absurd b56 (by omega))
        refine XP_n 2 (pc' := 68) (ls' := [.ref (99), .int (nI (1)), .int (nI (1)), x3]) (st' := [.int (I1 99 46)]) (M' := (I1, J, Rx R, N, G)) rfl ?_
        rw [q46]
        refine XP_n 1 (pc' := 69) (ls' := [.ref (99), .int (nI (1)), .int (nI (1)), x3]) (st' := [.int (nI (40)), .int (nI (40))]) (M' := (I1, J, Rx R, N, G)) rfl ?_
        refine XP_icN (x := 40) (y := 40) rfl (by omega) (by omega) (fun (b69 : ¬ 40 = 40) => absurd b69 (by omega)) (fun (b69 : 40 = 40) => ?_)
        refine XP_n 2 (pc' := 72) (ls' := [.ref (99), .int (nI (1)), .int (nI (1)), x3]) (st' := [.int (nI (0)), .ref (99)]) (M' := (I1, J, Rx R, N, G)) rfl ?_
        refine XP_call rfl rfl (c_opT (s := 0) hM1 hF1 (by omega) (by omega) g5) ?_
        rintro v3 M3 ⟨rfl, I3, rfl, hM3, hF3, hT3⟩
        have h443 : I3 99 44 = nI (nx b L p) := (hT3 44 (by omega) (by omega)).trans hC.2.1
        refine XP_ifN (x := 1)  rfl (by omega) (fun (b73 : ¬ 1 = 0) => ?_) (fun (b73 : 1 = 0) => absurd b73 (by omega))
        refine XP_n 3 (pc' := 10) (ls' := [.ref (99), .int (nI (1)), .int (nI (1)), x3]) (st' := []) (M' := (I3, J, Rx R, N, G)) rfl ?_
        exact kGo (0 :: h) u true true _ I3 _ (stp_pre g5 (Or.inr (Or.inr ⟨g3, rfl, rfl⟩))) hM3 hF3 h443
    by_cases g4 : tk b L p = 1011
    · have q46 : I1 99 46 = nI 6 := h46.trans (by rw [g4]; rfl)
      by_cases g5 : cnt h = 5
      · refine XP_n 1 (pc' := 13) (ls' := [.ref (99), .int (nI (1)), .int (nI (1)), x3]) (st' := [.int (nI (1))]) (M' := (I1, J, Rx R, N, G)) rfl ?_
        refine XP_ifN (x := 1)  rfl (by omega) (fun (b13 : 1 = 0) => absurd b13 (by omega)) (fun (b13 : ¬ 1 = 0) => ?_)
        refine XP_n 2 (pc' := 16) (ls' := [.ref (99), .int (nI (1)), .int (nI (1)), x3]) (st' := [.int (I1 99 46)]) (M' := (I1, J, Rx R, N, G)) rfl ?_
        rw [q46]
        refine XP_n 1 (pc' := 17) (ls' := [.ref (99), .int (nI (1)), .int (nI (1)), x3]) (st' := [.int (nI (1)), .int (nI (6))]) (M' := (I1, J, Rx R, N, G)) rfl ?_
        refine XP_icN (x := 6) (y := 1) rfl (by omega) (by omega) (fun (b17 : 6 = 1) => absurd b17 (by omega)) (fun (b17 : ¬ 6 = 1) => ?_)
        refine XP_n 2 (pc' := 20) (ls' := [.ref (99), .int (nI (1)), .int (nI (1)), x3]) (st' := [.int (I1 99 46)]) (M' := (I1, J, Rx R, N, G)) rfl ?_
        rw [q46]
        refine XP_n 1 (pc' := 21) (ls' := [.ref (99), .int (nI (1)), .int (nI (1)), x3]) (st' := [.int (nI (2)), .int (nI (6))]) (M' := (I1, J, Rx R, N, G)) rfl ?_
        refine XP_icN (x := 6) (y := 2) rfl (by omega) (by omega) (fun (b21 : ¬ 6 = 2) => ?_) (fun (b21 : 6 = 2) => absurd b21 (by omega))
        refine XP_n 2 (pc' := 43) (ls' := [.ref (99), .int (nI (1)), .int (nI (1)), x3]) (st' := [.int (I1 99 46)]) (M' := (I1, J, Rx R, N, G)) rfl ?_
        rw [q46]
        refine XP_n 1 (pc' := 44) (ls' := [.ref (99), .int (nI (1)), .int (nI (1)), x3]) (st' := [.int (nI (6)), .int (nI (6))]) (M' := (I1, J, Rx R, N, G)) rfl ?_
        refine XP_icN (x := 6) (y := 6) rfl (by omega) (by omega) (fun (b44 : ¬ 6 = 6) => absurd b44 (by omega)) (fun (b44 : 6 = 6) => ?_)
        refine XP_n 1 (pc' := 46) (ls' := [.ref (99), .int (nI (1)), .int (nI (1)), x3]) (st' := [.int (nI (1))]) (M' := (I1, J, Rx R, N, G)) rfl ?_
        refine XP_ifN (x := 1)  rfl (by omega) (fun (b46 : 1 = 0) => absurd b46 (by omega)) (fun (b46 : ¬ 1 = 0) => ?_)
        refine XP_n 2 (pc' := 49) (ls' := [.ref (99), .int (nI (1)), .int (nI (1)), x3]) (st' := [.int (nI (13)), .ref (99)]) (M' := (I1, J, Rx R, N, G)) rfl ?_
        refine XP_pure rfl rfl (c_opF _ hM1 g5) ?_
        refine XP_ifN (x := 0)  rfl (by omega) (fun (b50 : ¬ 0 = 0) => absurd b50 (by omega)) (fun (b50 : 0 = 0) => ?_)
        refine XP_n 1 (pc' := 52) (ls' := [.ref (99), .int (nI (1)), .int (nI (1)), x3]) (st' := [.int (nI (0))]) (M' := (I1, J, Rx R, N, G)) rfl ?_
        exact XP_ret rfl (kEnd I1 0 (by show stpW b L h u true p = _; unfold stpW; rw [if_neg g1, if_neg g2, if_pos ⟨g4, rfl⟩, if_pos g5]) (by omega) ⟨fun z => absurd z (by omega), fun z => by cases z.1⟩ hM1.o hF1 hC.2.2.1 hC.2.1)
      · refine XP_n 1 (pc' := 13) (ls' := [.ref (99), .int (nI (1)), .int (nI (1)), x3]) (st' := [.int (nI (1))]) (M' := (I1, J, Rx R, N, G)) rfl ?_
        refine XP_ifN (x := 1)  rfl (by omega) (fun (b13 : 1 = 0) => absurd b13 (by omega)) (fun (b13 : ¬ 1 = 0) => ?_)
        refine XP_n 2 (pc' := 16) (ls' := [.ref (99), .int (nI (1)), .int (nI (1)), x3]) (st' := [.int (I1 99 46)]) (M' := (I1, J, Rx R, N, G)) rfl ?_
        rw [q46]
        refine XP_n 1 (pc' := 17) (ls' := [.ref (99), .int (nI (1)), .int (nI (1)), x3]) (st' := [.int (nI (1)), .int (nI (6))]) (M' := (I1, J, Rx R, N, G)) rfl ?_
        refine XP_icN (x := 6) (y := 1) rfl (by omega) (by omega) (fun (b17 : 6 = 1) => absurd b17 (by omega)) (fun (b17 : ¬ 6 = 1) => ?_)
        refine XP_n 2 (pc' := 20) (ls' := [.ref (99), .int (nI (1)), .int (nI (1)), x3]) (st' := [.int (I1 99 46)]) (M' := (I1, J, Rx R, N, G)) rfl ?_
        rw [q46]
        refine XP_n 1 (pc' := 21) (ls' := [.ref (99), .int (nI (1)), .int (nI (1)), x3]) (st' := [.int (nI (2)), .int (nI (6))]) (M' := (I1, J, Rx R, N, G)) rfl ?_
        refine XP_icN (x := 6) (y := 2) rfl (by omega) (by omega) (fun (b21 : ¬ 6 = 2) => ?_) (fun (b21 : 6 = 2) => absurd b21 (by omega))
        refine XP_n 2 (pc' := 43) (ls' := [.ref (99), .int (nI (1)), .int (nI (1)), x3]) (st' := [.int (I1 99 46)]) (M' := (I1, J, Rx R, N, G)) rfl ?_
        rw [q46]
        refine XP_n 1 (pc' := 44) (ls' := [.ref (99), .int (nI (1)), .int (nI (1)), x3]) (st' := [.int (nI (6)), .int (nI (6))]) (M' := (I1, J, Rx R, N, G)) rfl ?_
        refine XP_icN (x := 6) (y := 6) rfl (by omega) (by omega) (fun (b44 : ¬ 6 = 6) => absurd b44 (by omega)) (fun (b44 : 6 = 6) => ?_)
        refine XP_n 1 (pc' := 46) (ls' := [.ref (99), .int (nI (1)), .int (nI (1)), x3]) (st' := [.int (nI (1))]) (M' := (I1, J, Rx R, N, G)) rfl ?_
        refine XP_ifN (x := 1)  rfl (by omega) (fun (b46 : 1 = 0) => absurd b46 (by omega)) (fun (b46 : ¬ 1 = 0) => ?_)
        refine XP_n 2 (pc' := 49) (ls' := [.ref (99), .int (nI (1)), .int (nI (1)), x3]) (st' := [.int (nI (13)), .ref (99)]) (M' := (I1, J, Rx R, N, G)) rfl ?_
        refine XP_call rfl rfl (c_opT (s := 13) hM1 hF1 (by omega) (by omega) g5) ?_
        rintro v3 M3 ⟨rfl, I3, rfl, hM3, hF3, hT3⟩
        have h443 : I3 99 44 = nI (nx b L p) := (hT3 44 (by omega) (by omega)).trans hC.2.1
        refine XP_ifN (x := 1)  rfl (by omega) (fun (b50 : ¬ 1 = 0) => ?_) (fun (b50 : 1 = 0) => absurd b50 (by omega))
        exact kGo (13 :: h) u true true _ I3 _ (stp_pre g5 (Or.inl ⟨g4, rfl, rfl, rfl⟩)) hM3 hF3 h443
    have hgr : tk b L p = 41 ∨ tk b L p = 59 ∨ tk b L p = 43 ∨ tk b L p = 42 ∨ tk b L p = 60 ∨ tk b L p = 61 ∨ tk b L p = 1009 ∨ tk b L p = 1010 ∨ tk b L p = 2001 ∨ tk b L p = 2002 ∨ (1006 ≤ tk b L p ∧ tk b L p < 1009) := by omega
    rcases hgr with gg | gg | gg | gg | gg | gg | gg | gg | gg | gg | gg
    · have q46 : I1 99 46 = nI 41 := h46.trans (by rw [gg]; rfl)
      refine XP_n 1 (pc' := 13) (ls' := [.ref (99), .int (nI (1)), .int (nI (1)), x3]) (st' := [.int (nI (1))]) (M' := (I1, J, Rx R, N, G)) rfl ?_
      refine XP_ifN (x := 1)  rfl (by omega) (fun (b13 : 1 = 0) => absurd b13 (by omega)) (fun (b13 : ¬ 1 = 0) => ?_)
      refine XP_n 2 (pc' := 16) (ls' := [.ref (99), .int (nI (1)), .int (nI (1)), x3]) (st' := [.int (I1 99 46)]) (M' := (I1, J, Rx R, N, G)) rfl ?_
      rw [q46]
      refine XP_n 1 (pc' := 17) (ls' := [.ref (99), .int (nI (1)), .int (nI (1)), x3]) (st' := [.int (nI (1)), .int (nI (41))]) (M' := (I1, J, Rx R, N, G)) rfl ?_
      refine XP_icN (x := 41) (y := 1) rfl (by omega) (by omega) (fun (b17 : 41 = 1) => absurd b17 (by omega)) (fun (b17 : ¬ 41 = 1) => ?_)
      refine XP_n 2 (pc' := 20) (ls' := [.ref (99), .int (nI (1)), .int (nI (1)), x3]) (st' := [.int (I1 99 46)]) (M' := (I1, J, Rx R, N, G)) rfl ?_
      rw [q46]
      refine XP_n 1 (pc' := 21) (ls' := [.ref (99), .int (nI (1)), .int (nI (1)), x3]) (st' := [.int (nI (2)), .int (nI (41))]) (M' := (I1, J, Rx R, N, G)) rfl ?_
      refine XP_icN (x := 41) (y := 2) rfl (by omega) (by omega) (fun (b21 : ¬ 41 = 2) => ?_) (fun (b21 : 41 = 2) => absurd b21 (by omega))
      refine XP_n 2 (pc' := 43) (ls' := [.ref (99), .int (nI (1)), .int (nI (1)), x3]) (st' := [.int (I1 99 46)]) (M' := (I1, J, Rx R, N, G)) rfl ?_
      rw [q46]
      refine XP_n 1 (pc' := 44) (ls' := [.ref (99), .int (nI (1)), .int (nI (1)), x3]) (st' := [.int (nI (6)), .int (nI (41))]) (M' := (I1, J, Rx R, N, G)) rfl ?_
      refine XP_icN (x := 41) (y := 6) rfl (by omega) (by omega) (fun (b44 : ¬ 41 = 6) => ?_) (fun (b44 : 41 = 6) => absurd b44 (by omega))
      refine XP_n 2 (pc' := 55) (ls' := [.ref (99), .int (nI (1)), .int (nI (1)), x3]) (st' := [.int (I1 99 46)]) (M' := (I1, J, Rx R, N, G)) rfl ?_
      rw [q46]
      refine XP_n 1 (pc' := 56) (ls' := [.ref (99), .int (nI (1)), .int (nI (1)), x3]) (st' := [.int (nI (45)), .int (nI (41))]) (M' := (I1, J, Rx R, N, G)) rfl ?_
      refine XP_icN (x := 41) (y := 45) rfl (by omega) (by omega) (fun (b56 : ¬ 41 = 45) => ?_) (fun (b56 : 41 = 45) => absurd b56 (by omega))
      refine XP_n 2 (pc' := 68) (ls' := [.ref (99), .int (nI (1)), .int (nI (1)), x3]) (st' := [.int (I1 99 46)]) (M' := (I1, J, Rx R, N, G)) rfl ?_
      rw [q46]
      refine XP_n 1 (pc' := 69) (ls' := [.ref (99), .int (nI (1)), .int (nI (1)), x3]) (st' := [.int (nI (40)), .int (nI (41))]) (M' := (I1, J, Rx R, N, G)) rfl ?_
      refine XP_icN (x := 41) (y := 40) rfl (by omega) (by omega) (fun (b69 : ¬ 41 = 40) => ?_) (fun (b69 : 41 = 40) => absurd b69 (by omega))
      refine XP_n 1 (pc' := 80) (ls' := [.ref (99), .int (nI (1)), .int (nI (1)), x3]) (st' := [.int (nI (0))]) (M' := (I1, J, Rx R, N, G)) rfl ?_
      exact XP_ret rfl (kEnd I1 0 (by show stpW b L h u true p = _; unfold stpW; rw [if_neg g1, if_neg g2, if_neg (fun z => g4 z.1), if_neg (by omega), if_neg (by omega)]) (by omega) ⟨fun z => absurd z (by omega), fun z => by cases z.1⟩ hM1.o hF1 hC.2.2.1 hC.2.1)
    · have q46 : I1 99 46 = nI 59 := h46.trans (by rw [gg]; rfl)
      refine XP_n 1 (pc' := 13) (ls' := [.ref (99), .int (nI (1)), .int (nI (1)), x3]) (st' := [.int (nI (1))]) (M' := (I1, J, Rx R, N, G)) rfl ?_
      refine XP_ifN (x := 1)  rfl (by omega) (fun (b13 : 1 = 0) => absurd b13 (by omega)) (fun (b13 : ¬ 1 = 0) => ?_)
      refine XP_n 2 (pc' := 16) (ls' := [.ref (99), .int (nI (1)), .int (nI (1)), x3]) (st' := [.int (I1 99 46)]) (M' := (I1, J, Rx R, N, G)) rfl ?_
      rw [q46]
      refine XP_n 1 (pc' := 17) (ls' := [.ref (99), .int (nI (1)), .int (nI (1)), x3]) (st' := [.int (nI (1)), .int (nI (59))]) (M' := (I1, J, Rx R, N, G)) rfl ?_
      refine XP_icN (x := 59) (y := 1) rfl (by omega) (by omega) (fun (b17 : 59 = 1) => absurd b17 (by omega)) (fun (b17 : ¬ 59 = 1) => ?_)
      refine XP_n 2 (pc' := 20) (ls' := [.ref (99), .int (nI (1)), .int (nI (1)), x3]) (st' := [.int (I1 99 46)]) (M' := (I1, J, Rx R, N, G)) rfl ?_
      rw [q46]
      refine XP_n 1 (pc' := 21) (ls' := [.ref (99), .int (nI (1)), .int (nI (1)), x3]) (st' := [.int (nI (2)), .int (nI (59))]) (M' := (I1, J, Rx R, N, G)) rfl ?_
      refine XP_icN (x := 59) (y := 2) rfl (by omega) (by omega) (fun (b21 : ¬ 59 = 2) => ?_) (fun (b21 : 59 = 2) => absurd b21 (by omega))
      refine XP_n 2 (pc' := 43) (ls' := [.ref (99), .int (nI (1)), .int (nI (1)), x3]) (st' := [.int (I1 99 46)]) (M' := (I1, J, Rx R, N, G)) rfl ?_
      rw [q46]
      refine XP_n 1 (pc' := 44) (ls' := [.ref (99), .int (nI (1)), .int (nI (1)), x3]) (st' := [.int (nI (6)), .int (nI (59))]) (M' := (I1, J, Rx R, N, G)) rfl ?_
      refine XP_icN (x := 59) (y := 6) rfl (by omega) (by omega) (fun (b44 : ¬ 59 = 6) => ?_) (fun (b44 : 59 = 6) => absurd b44 (by omega))
      refine XP_n 2 (pc' := 55) (ls' := [.ref (99), .int (nI (1)), .int (nI (1)), x3]) (st' := [.int (I1 99 46)]) (M' := (I1, J, Rx R, N, G)) rfl ?_
      rw [q46]
      refine XP_n 1 (pc' := 56) (ls' := [.ref (99), .int (nI (1)), .int (nI (1)), x3]) (st' := [.int (nI (45)), .int (nI (59))]) (M' := (I1, J, Rx R, N, G)) rfl ?_
      refine XP_icN (x := 59) (y := 45) rfl (by omega) (by omega) (fun (b56 : ¬ 59 = 45) => ?_) (fun (b56 : 59 = 45) => absurd b56 (by omega))
      refine XP_n 2 (pc' := 68) (ls' := [.ref (99), .int (nI (1)), .int (nI (1)), x3]) (st' := [.int (I1 99 46)]) (M' := (I1, J, Rx R, N, G)) rfl ?_
      rw [q46]
      refine XP_n 1 (pc' := 69) (ls' := [.ref (99), .int (nI (1)), .int (nI (1)), x3]) (st' := [.int (nI (40)), .int (nI (59))]) (M' := (I1, J, Rx R, N, G)) rfl ?_
      refine XP_icN (x := 59) (y := 40) rfl (by omega) (by omega) (fun (b69 : ¬ 59 = 40) => ?_) (fun (b69 : 59 = 40) => absurd b69 (by omega))
      refine XP_n 1 (pc' := 80) (ls' := [.ref (99), .int (nI (1)), .int (nI (1)), x3]) (st' := [.int (nI (0))]) (M' := (I1, J, Rx R, N, G)) rfl ?_
      exact XP_ret rfl (kEnd I1 0 (by show stpW b L h u true p = _; unfold stpW; rw [if_neg g1, if_neg g2, if_neg (fun z => g4 z.1), if_neg (by omega), if_neg (by omega)]) (by omega) ⟨fun z => absurd z (by omega), fun z => by cases z.1⟩ hM1.o hF1 hC.2.2.1 hC.2.1)
    · have q46 : I1 99 46 = nI 43 := h46.trans (by rw [gg]; rfl)
      refine XP_n 1 (pc' := 13) (ls' := [.ref (99), .int (nI (1)), .int (nI (1)), x3]) (st' := [.int (nI (1))]) (M' := (I1, J, Rx R, N, G)) rfl ?_
      refine XP_ifN (x := 1)  rfl (by omega) (fun (b13 : 1 = 0) => absurd b13 (by omega)) (fun (b13 : ¬ 1 = 0) => ?_)
      refine XP_n 2 (pc' := 16) (ls' := [.ref (99), .int (nI (1)), .int (nI (1)), x3]) (st' := [.int (I1 99 46)]) (M' := (I1, J, Rx R, N, G)) rfl ?_
      rw [q46]
      refine XP_n 1 (pc' := 17) (ls' := [.ref (99), .int (nI (1)), .int (nI (1)), x3]) (st' := [.int (nI (1)), .int (nI (43))]) (M' := (I1, J, Rx R, N, G)) rfl ?_
      refine XP_icN (x := 43) (y := 1) rfl (by omega) (by omega) (fun (b17 : 43 = 1) => absurd b17 (by omega)) (fun (b17 : ¬ 43 = 1) => ?_)
      refine XP_n 2 (pc' := 20) (ls' := [.ref (99), .int (nI (1)), .int (nI (1)), x3]) (st' := [.int (I1 99 46)]) (M' := (I1, J, Rx R, N, G)) rfl ?_
      rw [q46]
      refine XP_n 1 (pc' := 21) (ls' := [.ref (99), .int (nI (1)), .int (nI (1)), x3]) (st' := [.int (nI (2)), .int (nI (43))]) (M' := (I1, J, Rx R, N, G)) rfl ?_
      refine XP_icN (x := 43) (y := 2) rfl (by omega) (by omega) (fun (b21 : ¬ 43 = 2) => ?_) (fun (b21 : 43 = 2) => absurd b21 (by omega))
      refine XP_n 2 (pc' := 43) (ls' := [.ref (99), .int (nI (1)), .int (nI (1)), x3]) (st' := [.int (I1 99 46)]) (M' := (I1, J, Rx R, N, G)) rfl ?_
      rw [q46]
      refine XP_n 1 (pc' := 44) (ls' := [.ref (99), .int (nI (1)), .int (nI (1)), x3]) (st' := [.int (nI (6)), .int (nI (43))]) (M' := (I1, J, Rx R, N, G)) rfl ?_
      refine XP_icN (x := 43) (y := 6) rfl (by omega) (by omega) (fun (b44 : ¬ 43 = 6) => ?_) (fun (b44 : 43 = 6) => absurd b44 (by omega))
      refine XP_n 2 (pc' := 55) (ls' := [.ref (99), .int (nI (1)), .int (nI (1)), x3]) (st' := [.int (I1 99 46)]) (M' := (I1, J, Rx R, N, G)) rfl ?_
      rw [q46]
      refine XP_n 1 (pc' := 56) (ls' := [.ref (99), .int (nI (1)), .int (nI (1)), x3]) (st' := [.int (nI (45)), .int (nI (43))]) (M' := (I1, J, Rx R, N, G)) rfl ?_
      refine XP_icN (x := 43) (y := 45) rfl (by omega) (by omega) (fun (b56 : ¬ 43 = 45) => ?_) (fun (b56 : 43 = 45) => absurd b56 (by omega))
      refine XP_n 2 (pc' := 68) (ls' := [.ref (99), .int (nI (1)), .int (nI (1)), x3]) (st' := [.int (I1 99 46)]) (M' := (I1, J, Rx R, N, G)) rfl ?_
      rw [q46]
      refine XP_n 1 (pc' := 69) (ls' := [.ref (99), .int (nI (1)), .int (nI (1)), x3]) (st' := [.int (nI (40)), .int (nI (43))]) (M' := (I1, J, Rx R, N, G)) rfl ?_
      refine XP_icN (x := 43) (y := 40) rfl (by omega) (by omega) (fun (b69 : ¬ 43 = 40) => ?_) (fun (b69 : 43 = 40) => absurd b69 (by omega))
      refine XP_n 1 (pc' := 80) (ls' := [.ref (99), .int (nI (1)), .int (nI (1)), x3]) (st' := [.int (nI (0))]) (M' := (I1, J, Rx R, N, G)) rfl ?_
      exact XP_ret rfl (kEnd I1 0 (by show stpW b L h u true p = _; unfold stpW; rw [if_neg g1, if_neg g2, if_neg (fun z => g4 z.1), if_neg (by omega), if_neg (by omega)]) (by omega) ⟨fun z => absurd z (by omega), fun z => by cases z.1⟩ hM1.o hF1 hC.2.2.1 hC.2.1)
    · have q46 : I1 99 46 = nI 42 := h46.trans (by rw [gg]; rfl)
      refine XP_n 1 (pc' := 13) (ls' := [.ref (99), .int (nI (1)), .int (nI (1)), x3]) (st' := [.int (nI (1))]) (M' := (I1, J, Rx R, N, G)) rfl ?_
      refine XP_ifN (x := 1)  rfl (by omega) (fun (b13 : 1 = 0) => absurd b13 (by omega)) (fun (b13 : ¬ 1 = 0) => ?_)
      refine XP_n 2 (pc' := 16) (ls' := [.ref (99), .int (nI (1)), .int (nI (1)), x3]) (st' := [.int (I1 99 46)]) (M' := (I1, J, Rx R, N, G)) rfl ?_
      rw [q46]
      refine XP_n 1 (pc' := 17) (ls' := [.ref (99), .int (nI (1)), .int (nI (1)), x3]) (st' := [.int (nI (1)), .int (nI (42))]) (M' := (I1, J, Rx R, N, G)) rfl ?_
      refine XP_icN (x := 42) (y := 1) rfl (by omega) (by omega) (fun (b17 : 42 = 1) => absurd b17 (by omega)) (fun (b17 : ¬ 42 = 1) => ?_)
      refine XP_n 2 (pc' := 20) (ls' := [.ref (99), .int (nI (1)), .int (nI (1)), x3]) (st' := [.int (I1 99 46)]) (M' := (I1, J, Rx R, N, G)) rfl ?_
      rw [q46]
      refine XP_n 1 (pc' := 21) (ls' := [.ref (99), .int (nI (1)), .int (nI (1)), x3]) (st' := [.int (nI (2)), .int (nI (42))]) (M' := (I1, J, Rx R, N, G)) rfl ?_
      refine XP_icN (x := 42) (y := 2) rfl (by omega) (by omega) (fun (b21 : ¬ 42 = 2) => ?_) (fun (b21 : 42 = 2) => absurd b21 (by omega))
      refine XP_n 2 (pc' := 43) (ls' := [.ref (99), .int (nI (1)), .int (nI (1)), x3]) (st' := [.int (I1 99 46)]) (M' := (I1, J, Rx R, N, G)) rfl ?_
      rw [q46]
      refine XP_n 1 (pc' := 44) (ls' := [.ref (99), .int (nI (1)), .int (nI (1)), x3]) (st' := [.int (nI (6)), .int (nI (42))]) (M' := (I1, J, Rx R, N, G)) rfl ?_
      refine XP_icN (x := 42) (y := 6) rfl (by omega) (by omega) (fun (b44 : ¬ 42 = 6) => ?_) (fun (b44 : 42 = 6) => absurd b44 (by omega))
      refine XP_n 2 (pc' := 55) (ls' := [.ref (99), .int (nI (1)), .int (nI (1)), x3]) (st' := [.int (I1 99 46)]) (M' := (I1, J, Rx R, N, G)) rfl ?_
      rw [q46]
      refine XP_n 1 (pc' := 56) (ls' := [.ref (99), .int (nI (1)), .int (nI (1)), x3]) (st' := [.int (nI (45)), .int (nI (42))]) (M' := (I1, J, Rx R, N, G)) rfl ?_
      refine XP_icN (x := 42) (y := 45) rfl (by omega) (by omega) (fun (b56 : ¬ 42 = 45) => ?_) (fun (b56 : 42 = 45) => absurd b56 (by omega))
      refine XP_n 2 (pc' := 68) (ls' := [.ref (99), .int (nI (1)), .int (nI (1)), x3]) (st' := [.int (I1 99 46)]) (M' := (I1, J, Rx R, N, G)) rfl ?_
      rw [q46]
      refine XP_n 1 (pc' := 69) (ls' := [.ref (99), .int (nI (1)), .int (nI (1)), x3]) (st' := [.int (nI (40)), .int (nI (42))]) (M' := (I1, J, Rx R, N, G)) rfl ?_
      refine XP_icN (x := 42) (y := 40) rfl (by omega) (by omega) (fun (b69 : ¬ 42 = 40) => ?_) (fun (b69 : 42 = 40) => absurd b69 (by omega))
      refine XP_n 1 (pc' := 80) (ls' := [.ref (99), .int (nI (1)), .int (nI (1)), x3]) (st' := [.int (nI (0))]) (M' := (I1, J, Rx R, N, G)) rfl ?_
      exact XP_ret rfl (kEnd I1 0 (by show stpW b L h u true p = _; unfold stpW; rw [if_neg g1, if_neg g2, if_neg (fun z => g4 z.1), if_neg (by omega), if_neg (by omega)]) (by omega) ⟨fun z => absurd z (by omega), fun z => by cases z.1⟩ hM1.o hF1 hC.2.2.1 hC.2.1)
    · have q46 : I1 99 46 = nI 60 := h46.trans (by rw [gg]; rfl)
      refine XP_n 1 (pc' := 13) (ls' := [.ref (99), .int (nI (1)), .int (nI (1)), x3]) (st' := [.int (nI (1))]) (M' := (I1, J, Rx R, N, G)) rfl ?_
      refine XP_ifN (x := 1)  rfl (by omega) (fun (b13 : 1 = 0) => absurd b13 (by omega)) (fun (b13 : ¬ 1 = 0) => ?_)
      refine XP_n 2 (pc' := 16) (ls' := [.ref (99), .int (nI (1)), .int (nI (1)), x3]) (st' := [.int (I1 99 46)]) (M' := (I1, J, Rx R, N, G)) rfl ?_
      rw [q46]
      refine XP_n 1 (pc' := 17) (ls' := [.ref (99), .int (nI (1)), .int (nI (1)), x3]) (st' := [.int (nI (1)), .int (nI (60))]) (M' := (I1, J, Rx R, N, G)) rfl ?_
      refine XP_icN (x := 60) (y := 1) rfl (by omega) (by omega) (fun (b17 : 60 = 1) => absurd b17 (by omega)) (fun (b17 : ¬ 60 = 1) => ?_)
      refine XP_n 2 (pc' := 20) (ls' := [.ref (99), .int (nI (1)), .int (nI (1)), x3]) (st' := [.int (I1 99 46)]) (M' := (I1, J, Rx R, N, G)) rfl ?_
      rw [q46]
      refine XP_n 1 (pc' := 21) (ls' := [.ref (99), .int (nI (1)), .int (nI (1)), x3]) (st' := [.int (nI (2)), .int (nI (60))]) (M' := (I1, J, Rx R, N, G)) rfl ?_
      refine XP_icN (x := 60) (y := 2) rfl (by omega) (by omega) (fun (b21 : ¬ 60 = 2) => ?_) (fun (b21 : 60 = 2) => absurd b21 (by omega))
      refine XP_n 2 (pc' := 43) (ls' := [.ref (99), .int (nI (1)), .int (nI (1)), x3]) (st' := [.int (I1 99 46)]) (M' := (I1, J, Rx R, N, G)) rfl ?_
      rw [q46]
      refine XP_n 1 (pc' := 44) (ls' := [.ref (99), .int (nI (1)), .int (nI (1)), x3]) (st' := [.int (nI (6)), .int (nI (60))]) (M' := (I1, J, Rx R, N, G)) rfl ?_
      refine XP_icN (x := 60) (y := 6) rfl (by omega) (by omega) (fun (b44 : ¬ 60 = 6) => ?_) (fun (b44 : 60 = 6) => absurd b44 (by omega))
      refine XP_n 2 (pc' := 55) (ls' := [.ref (99), .int (nI (1)), .int (nI (1)), x3]) (st' := [.int (I1 99 46)]) (M' := (I1, J, Rx R, N, G)) rfl ?_
      rw [q46]
      refine XP_n 1 (pc' := 56) (ls' := [.ref (99), .int (nI (1)), .int (nI (1)), x3]) (st' := [.int (nI (45)), .int (nI (60))]) (M' := (I1, J, Rx R, N, G)) rfl ?_
      refine XP_icN (x := 60) (y := 45) rfl (by omega) (by omega) (fun (b56 : ¬ 60 = 45) => ?_) (fun (b56 : 60 = 45) => absurd b56 (by omega))
      refine XP_n 2 (pc' := 68) (ls' := [.ref (99), .int (nI (1)), .int (nI (1)), x3]) (st' := [.int (I1 99 46)]) (M' := (I1, J, Rx R, N, G)) rfl ?_
      rw [q46]
      refine XP_n 1 (pc' := 69) (ls' := [.ref (99), .int (nI (1)), .int (nI (1)), x3]) (st' := [.int (nI (40)), .int (nI (60))]) (M' := (I1, J, Rx R, N, G)) rfl ?_
      refine XP_icN (x := 60) (y := 40) rfl (by omega) (by omega) (fun (b69 : ¬ 60 = 40) => ?_) (fun (b69 : 60 = 40) => absurd b69 (by omega))
      refine XP_n 1 (pc' := 80) (ls' := [.ref (99), .int (nI (1)), .int (nI (1)), x3]) (st' := [.int (nI (0))]) (M' := (I1, J, Rx R, N, G)) rfl ?_
      exact XP_ret rfl (kEnd I1 0 (by show stpW b L h u true p = _; unfold stpW; rw [if_neg g1, if_neg g2, if_neg (fun z => g4 z.1), if_neg (by omega), if_neg (by omega)]) (by omega) ⟨fun z => absurd z (by omega), fun z => by cases z.1⟩ hM1.o hF1 hC.2.2.1 hC.2.1)
    · have q46 : I1 99 46 = nI 61 := h46.trans (by rw [gg]; rfl)
      refine XP_n 1 (pc' := 13) (ls' := [.ref (99), .int (nI (1)), .int (nI (1)), x3]) (st' := [.int (nI (1))]) (M' := (I1, J, Rx R, N, G)) rfl ?_
      refine XP_ifN (x := 1)  rfl (by omega) (fun (b13 : 1 = 0) => absurd b13 (by omega)) (fun (b13 : ¬ 1 = 0) => ?_)
      refine XP_n 2 (pc' := 16) (ls' := [.ref (99), .int (nI (1)), .int (nI (1)), x3]) (st' := [.int (I1 99 46)]) (M' := (I1, J, Rx R, N, G)) rfl ?_
      rw [q46]
      refine XP_n 1 (pc' := 17) (ls' := [.ref (99), .int (nI (1)), .int (nI (1)), x3]) (st' := [.int (nI (1)), .int (nI (61))]) (M' := (I1, J, Rx R, N, G)) rfl ?_
      refine XP_icN (x := 61) (y := 1) rfl (by omega) (by omega) (fun (b17 : 61 = 1) => absurd b17 (by omega)) (fun (b17 : ¬ 61 = 1) => ?_)
      refine XP_n 2 (pc' := 20) (ls' := [.ref (99), .int (nI (1)), .int (nI (1)), x3]) (st' := [.int (I1 99 46)]) (M' := (I1, J, Rx R, N, G)) rfl ?_
      rw [q46]
      refine XP_n 1 (pc' := 21) (ls' := [.ref (99), .int (nI (1)), .int (nI (1)), x3]) (st' := [.int (nI (2)), .int (nI (61))]) (M' := (I1, J, Rx R, N, G)) rfl ?_
      refine XP_icN (x := 61) (y := 2) rfl (by omega) (by omega) (fun (b21 : ¬ 61 = 2) => ?_) (fun (b21 : 61 = 2) => absurd b21 (by omega))
      refine XP_n 2 (pc' := 43) (ls' := [.ref (99), .int (nI (1)), .int (nI (1)), x3]) (st' := [.int (I1 99 46)]) (M' := (I1, J, Rx R, N, G)) rfl ?_
      rw [q46]
      refine XP_n 1 (pc' := 44) (ls' := [.ref (99), .int (nI (1)), .int (nI (1)), x3]) (st' := [.int (nI (6)), .int (nI (61))]) (M' := (I1, J, Rx R, N, G)) rfl ?_
      refine XP_icN (x := 61) (y := 6) rfl (by omega) (by omega) (fun (b44 : ¬ 61 = 6) => ?_) (fun (b44 : 61 = 6) => absurd b44 (by omega))
      refine XP_n 2 (pc' := 55) (ls' := [.ref (99), .int (nI (1)), .int (nI (1)), x3]) (st' := [.int (I1 99 46)]) (M' := (I1, J, Rx R, N, G)) rfl ?_
      rw [q46]
      refine XP_n 1 (pc' := 56) (ls' := [.ref (99), .int (nI (1)), .int (nI (1)), x3]) (st' := [.int (nI (45)), .int (nI (61))]) (M' := (I1, J, Rx R, N, G)) rfl ?_
      refine XP_icN (x := 61) (y := 45) rfl (by omega) (by omega) (fun (b56 : ¬ 61 = 45) => ?_) (fun (b56 : 61 = 45) => absurd b56 (by omega))
      refine XP_n 2 (pc' := 68) (ls' := [.ref (99), .int (nI (1)), .int (nI (1)), x3]) (st' := [.int (I1 99 46)]) (M' := (I1, J, Rx R, N, G)) rfl ?_
      rw [q46]
      refine XP_n 1 (pc' := 69) (ls' := [.ref (99), .int (nI (1)), .int (nI (1)), x3]) (st' := [.int (nI (40)), .int (nI (61))]) (M' := (I1, J, Rx R, N, G)) rfl ?_
      refine XP_icN (x := 61) (y := 40) rfl (by omega) (by omega) (fun (b69 : ¬ 61 = 40) => ?_) (fun (b69 : 61 = 40) => absurd b69 (by omega))
      refine XP_n 1 (pc' := 80) (ls' := [.ref (99), .int (nI (1)), .int (nI (1)), x3]) (st' := [.int (nI (0))]) (M' := (I1, J, Rx R, N, G)) rfl ?_
      exact XP_ret rfl (kEnd I1 0 (by show stpW b L h u true p = _; unfold stpW; rw [if_neg g1, if_neg g2, if_neg (fun z => g4 z.1), if_neg (by omega), if_neg (by omega)]) (by omega) ⟨fun z => absurd z (by omega), fun z => by cases z.1⟩ hM1.o hF1 hC.2.2.1 hC.2.1)
    · have q46 : I1 99 46 = nI 4 := h46.trans (by rw [gg]; rfl)
      refine XP_n 1 (pc' := 13) (ls' := [.ref (99), .int (nI (1)), .int (nI (1)), x3]) (st' := [.int (nI (1))]) (M' := (I1, J, Rx R, N, G)) rfl ?_
      refine XP_ifN (x := 1)  rfl (by omega) (fun (b13 : 1 = 0) => absurd b13 (by omega)) (fun (b13 : ¬ 1 = 0) => ?_)
      refine XP_n 2 (pc' := 16) (ls' := [.ref (99), .int (nI (1)), .int (nI (1)), x3]) (st' := [.int (I1 99 46)]) (M' := (I1, J, Rx R, N, G)) rfl ?_
      rw [q46]
      refine XP_n 1 (pc' := 17) (ls' := [.ref (99), .int (nI (1)), .int (nI (1)), x3]) (st' := [.int (nI (1)), .int (nI (4))]) (M' := (I1, J, Rx R, N, G)) rfl ?_
      refine XP_icN (x := 4) (y := 1) rfl (by omega) (by omega) (fun (b17 : 4 = 1) => absurd b17 (by omega)) (fun (b17 : ¬ 4 = 1) => ?_)
      refine XP_n 2 (pc' := 20) (ls' := [.ref (99), .int (nI (1)), .int (nI (1)), x3]) (st' := [.int (I1 99 46)]) (M' := (I1, J, Rx R, N, G)) rfl ?_
      rw [q46]
      refine XP_n 1 (pc' := 21) (ls' := [.ref (99), .int (nI (1)), .int (nI (1)), x3]) (st' := [.int (nI (2)), .int (nI (4))]) (M' := (I1, J, Rx R, N, G)) rfl ?_
      refine XP_icN (x := 4) (y := 2) rfl (by omega) (by omega) (fun (b21 : ¬ 4 = 2) => ?_) (fun (b21 : 4 = 2) => absurd b21 (by omega))
      refine XP_n 2 (pc' := 43) (ls' := [.ref (99), .int (nI (1)), .int (nI (1)), x3]) (st' := [.int (I1 99 46)]) (M' := (I1, J, Rx R, N, G)) rfl ?_
      rw [q46]
      refine XP_n 1 (pc' := 44) (ls' := [.ref (99), .int (nI (1)), .int (nI (1)), x3]) (st' := [.int (nI (6)), .int (nI (4))]) (M' := (I1, J, Rx R, N, G)) rfl ?_
      refine XP_icN (x := 4) (y := 6) rfl (by omega) (by omega) (fun (b44 : ¬ 4 = 6) => ?_) (fun (b44 : 4 = 6) => absurd b44 (by omega))
      refine XP_n 2 (pc' := 55) (ls' := [.ref (99), .int (nI (1)), .int (nI (1)), x3]) (st' := [.int (I1 99 46)]) (M' := (I1, J, Rx R, N, G)) rfl ?_
      rw [q46]
      refine XP_n 1 (pc' := 56) (ls' := [.ref (99), .int (nI (1)), .int (nI (1)), x3]) (st' := [.int (nI (45)), .int (nI (4))]) (M' := (I1, J, Rx R, N, G)) rfl ?_
      refine XP_icN (x := 4) (y := 45) rfl (by omega) (by omega) (fun (b56 : ¬ 4 = 45) => ?_) (fun (b56 : 4 = 45) => absurd b56 (by omega))
      refine XP_n 2 (pc' := 68) (ls' := [.ref (99), .int (nI (1)), .int (nI (1)), x3]) (st' := [.int (I1 99 46)]) (M' := (I1, J, Rx R, N, G)) rfl ?_
      rw [q46]
      refine XP_n 1 (pc' := 69) (ls' := [.ref (99), .int (nI (1)), .int (nI (1)), x3]) (st' := [.int (nI (40)), .int (nI (4))]) (M' := (I1, J, Rx R, N, G)) rfl ?_
      refine XP_icN (x := 4) (y := 40) rfl (by omega) (by omega) (fun (b69 : ¬ 4 = 40) => ?_) (fun (b69 : 4 = 40) => absurd b69 (by omega))
      refine XP_n 1 (pc' := 80) (ls' := [.ref (99), .int (nI (1)), .int (nI (1)), x3]) (st' := [.int (nI (0))]) (M' := (I1, J, Rx R, N, G)) rfl ?_
      exact XP_ret rfl (kEnd I1 0 (by show stpW b L h u true p = _; unfold stpW; rw [if_neg g1, if_neg g2, if_neg (fun z => g4 z.1), if_neg (by omega), if_neg (by omega)]) (by omega) ⟨fun z => absurd z (by omega), fun z => by cases z.1⟩ hM1.o hF1 hC.2.2.1 hC.2.1)
    · have q46 : I1 99 46 = nI 5 := h46.trans (by rw [gg]; rfl)
      refine XP_n 1 (pc' := 13) (ls' := [.ref (99), .int (nI (1)), .int (nI (1)), x3]) (st' := [.int (nI (1))]) (M' := (I1, J, Rx R, N, G)) rfl ?_
      refine XP_ifN (x := 1)  rfl (by omega) (fun (b13 : 1 = 0) => absurd b13 (by omega)) (fun (b13 : ¬ 1 = 0) => ?_)
      refine XP_n 2 (pc' := 16) (ls' := [.ref (99), .int (nI (1)), .int (nI (1)), x3]) (st' := [.int (I1 99 46)]) (M' := (I1, J, Rx R, N, G)) rfl ?_
      rw [q46]
      refine XP_n 1 (pc' := 17) (ls' := [.ref (99), .int (nI (1)), .int (nI (1)), x3]) (st' := [.int (nI (1)), .int (nI (5))]) (M' := (I1, J, Rx R, N, G)) rfl ?_
      refine XP_icN (x := 5) (y := 1) rfl (by omega) (by omega) (fun (b17 : 5 = 1) => absurd b17 (by omega)) (fun (b17 : ¬ 5 = 1) => ?_)
      refine XP_n 2 (pc' := 20) (ls' := [.ref (99), .int (nI (1)), .int (nI (1)), x3]) (st' := [.int (I1 99 46)]) (M' := (I1, J, Rx R, N, G)) rfl ?_
      rw [q46]
      refine XP_n 1 (pc' := 21) (ls' := [.ref (99), .int (nI (1)), .int (nI (1)), x3]) (st' := [.int (nI (2)), .int (nI (5))]) (M' := (I1, J, Rx R, N, G)) rfl ?_
      refine XP_icN (x := 5) (y := 2) rfl (by omega) (by omega) (fun (b21 : ¬ 5 = 2) => ?_) (fun (b21 : 5 = 2) => absurd b21 (by omega))
      refine XP_n 2 (pc' := 43) (ls' := [.ref (99), .int (nI (1)), .int (nI (1)), x3]) (st' := [.int (I1 99 46)]) (M' := (I1, J, Rx R, N, G)) rfl ?_
      rw [q46]
      refine XP_n 1 (pc' := 44) (ls' := [.ref (99), .int (nI (1)), .int (nI (1)), x3]) (st' := [.int (nI (6)), .int (nI (5))]) (M' := (I1, J, Rx R, N, G)) rfl ?_
      refine XP_icN (x := 5) (y := 6) rfl (by omega) (by omega) (fun (b44 : ¬ 5 = 6) => ?_) (fun (b44 : 5 = 6) => absurd b44 (by omega))
      refine XP_n 2 (pc' := 55) (ls' := [.ref (99), .int (nI (1)), .int (nI (1)), x3]) (st' := [.int (I1 99 46)]) (M' := (I1, J, Rx R, N, G)) rfl ?_
      rw [q46]
      refine XP_n 1 (pc' := 56) (ls' := [.ref (99), .int (nI (1)), .int (nI (1)), x3]) (st' := [.int (nI (45)), .int (nI (5))]) (M' := (I1, J, Rx R, N, G)) rfl ?_
      refine XP_icN (x := 5) (y := 45) rfl (by omega) (by omega) (fun (b56 : ¬ 5 = 45) => ?_) (fun (b56 : 5 = 45) => absurd b56 (by omega))
      refine XP_n 2 (pc' := 68) (ls' := [.ref (99), .int (nI (1)), .int (nI (1)), x3]) (st' := [.int (I1 99 46)]) (M' := (I1, J, Rx R, N, G)) rfl ?_
      rw [q46]
      refine XP_n 1 (pc' := 69) (ls' := [.ref (99), .int (nI (1)), .int (nI (1)), x3]) (st' := [.int (nI (40)), .int (nI (5))]) (M' := (I1, J, Rx R, N, G)) rfl ?_
      refine XP_icN (x := 5) (y := 40) rfl (by omega) (by omega) (fun (b69 : ¬ 5 = 40) => ?_) (fun (b69 : 5 = 40) => absurd b69 (by omega))
      refine XP_n 1 (pc' := 80) (ls' := [.ref (99), .int (nI (1)), .int (nI (1)), x3]) (st' := [.int (nI (0))]) (M' := (I1, J, Rx R, N, G)) rfl ?_
      exact XP_ret rfl (kEnd I1 0 (by show stpW b L h u true p = _; unfold stpW; rw [if_neg g1, if_neg g2, if_neg (fun z => g4 z.1), if_neg (by omega), if_neg (by omega)]) (by omega) ⟨fun z => absurd z (by omega), fun z => by cases z.1⟩ hM1.o hF1 hC.2.2.1 hC.2.1)
    · have q46 : I1 99 46 = nI 0 := h46.trans (by rw [gg]; rfl)
      refine XP_n 1 (pc' := 13) (ls' := [.ref (99), .int (nI (1)), .int (nI (1)), x3]) (st' := [.int (nI (1))]) (M' := (I1, J, Rx R, N, G)) rfl ?_
      refine XP_ifN (x := 1)  rfl (by omega) (fun (b13 : 1 = 0) => absurd b13 (by omega)) (fun (b13 : ¬ 1 = 0) => ?_)
      refine XP_n 2 (pc' := 16) (ls' := [.ref (99), .int (nI (1)), .int (nI (1)), x3]) (st' := [.int (I1 99 46)]) (M' := (I1, J, Rx R, N, G)) rfl ?_
      rw [q46]
      refine XP_n 1 (pc' := 17) (ls' := [.ref (99), .int (nI (1)), .int (nI (1)), x3]) (st' := [.int (nI (1)), .int (nI (0))]) (M' := (I1, J, Rx R, N, G)) rfl ?_
      refine XP_icN (x := 0) (y := 1) rfl (by omega) (by omega) (fun (b17 : 0 = 1) => absurd b17 (by omega)) (fun (b17 : ¬ 0 = 1) => ?_)
      refine XP_n 2 (pc' := 20) (ls' := [.ref (99), .int (nI (1)), .int (nI (1)), x3]) (st' := [.int (I1 99 46)]) (M' := (I1, J, Rx R, N, G)) rfl ?_
      rw [q46]
      refine XP_n 1 (pc' := 21) (ls' := [.ref (99), .int (nI (1)), .int (nI (1)), x3]) (st' := [.int (nI (2)), .int (nI (0))]) (M' := (I1, J, Rx R, N, G)) rfl ?_
      refine XP_icN (x := 0) (y := 2) rfl (by omega) (by omega) (fun (b21 : ¬ 0 = 2) => ?_) (fun (b21 : 0 = 2) => absurd b21 (by omega))
      refine XP_n 2 (pc' := 43) (ls' := [.ref (99), .int (nI (1)), .int (nI (1)), x3]) (st' := [.int (I1 99 46)]) (M' := (I1, J, Rx R, N, G)) rfl ?_
      rw [q46]
      refine XP_n 1 (pc' := 44) (ls' := [.ref (99), .int (nI (1)), .int (nI (1)), x3]) (st' := [.int (nI (6)), .int (nI (0))]) (M' := (I1, J, Rx R, N, G)) rfl ?_
      refine XP_icN (x := 0) (y := 6) rfl (by omega) (by omega) (fun (b44 : ¬ 0 = 6) => ?_) (fun (b44 : 0 = 6) => absurd b44 (by omega))
      refine XP_n 2 (pc' := 55) (ls' := [.ref (99), .int (nI (1)), .int (nI (1)), x3]) (st' := [.int (I1 99 46)]) (M' := (I1, J, Rx R, N, G)) rfl ?_
      rw [q46]
      refine XP_n 1 (pc' := 56) (ls' := [.ref (99), .int (nI (1)), .int (nI (1)), x3]) (st' := [.int (nI (45)), .int (nI (0))]) (M' := (I1, J, Rx R, N, G)) rfl ?_
      refine XP_icN (x := 0) (y := 45) rfl (by omega) (by omega) (fun (b56 : ¬ 0 = 45) => ?_) (fun (b56 : 0 = 45) => absurd b56 (by omega))
      refine XP_n 2 (pc' := 68) (ls' := [.ref (99), .int (nI (1)), .int (nI (1)), x3]) (st' := [.int (I1 99 46)]) (M' := (I1, J, Rx R, N, G)) rfl ?_
      rw [q46]
      refine XP_n 1 (pc' := 69) (ls' := [.ref (99), .int (nI (1)), .int (nI (1)), x3]) (st' := [.int (nI (40)), .int (nI (0))]) (M' := (I1, J, Rx R, N, G)) rfl ?_
      refine XP_icN (x := 0) (y := 40) rfl (by omega) (by omega) (fun (b69 : ¬ 0 = 40) => ?_) (fun (b69 : 0 = 40) => absurd b69 (by omega))
      refine XP_n 1 (pc' := 80) (ls' := [.ref (99), .int (nI (1)), .int (nI (1)), x3]) (st' := [.int (nI (0))]) (M' := (I1, J, Rx R, N, G)) rfl ?_
      exact XP_ret rfl (kEnd I1 0 (by show stpW b L h u true p = _; unfold stpW; rw [if_neg g1, if_neg g2, if_neg (fun z => g4 z.1), if_neg (by omega), if_neg (by omega)]) (by omega) ⟨fun z => absurd z (by omega), fun z => by cases z.1⟩ hM1.o hF1 hC.2.2.1 hC.2.1)
    · have q46 : I1 99 46 = cI (-1) := h46.trans (by rw [gg]; rfl)
      refine XP_n 1 (pc' := 13) (ls' := [.ref (99), .int (nI (1)), .int (nI (1)), x3]) (st' := [.int (nI (1))]) (M' := (I1, J, Rx R, N, G)) rfl ?_
      refine XP_ifN (x := 1)  rfl (by omega) (fun (b13 : 1 = 0) => absurd b13 (by omega)) (fun (b13 : ¬ 1 = 0) => ?_)
      refine XP_n 2 (pc' := 16) (ls' := [.ref (99), .int (nI (1)), .int (nI (1)), x3]) (st' := [.int (I1 99 46)]) (M' := (I1, J, Rx R, N, G)) rfl ?_
      rw [q46]
      refine XP_n 1 (pc' := 17) (ls' := [.ref (99), .int (nI (1)), .int (nI (1)), x3]) (st' := [.int (nI (1)), .int (cI (-1))]) (M' := (I1, J, Rx R, N, G)) rfl ?_
      refine XP_icD rfl (fun (b17 : cI (-1) = nI (1)) => absurd b17 (by decide)) (fun (b17 : ¬ cI (-1) = nI (1)) => ?_)
      refine XP_n 2 (pc' := 20) (ls' := [.ref (99), .int (nI (1)), .int (nI (1)), x3]) (st' := [.int (I1 99 46)]) (M' := (I1, J, Rx R, N, G)) rfl ?_
      rw [q46]
      refine XP_n 1 (pc' := 21) (ls' := [.ref (99), .int (nI (1)), .int (nI (1)), x3]) (st' := [.int (nI (2)), .int (cI (-1))]) (M' := (I1, J, Rx R, N, G)) rfl ?_
      refine XP_icD rfl (fun (b21 : ¬ cI (-1) = nI (2)) => ?_) (fun (b21 : cI (-1) = nI (2)) => absurd b21 (by decide))
      refine XP_n 2 (pc' := 43) (ls' := [.ref (99), .int (nI (1)), .int (nI (1)), x3]) (st' := [.int (I1 99 46)]) (M' := (I1, J, Rx R, N, G)) rfl ?_
      rw [q46]
      refine XP_n 1 (pc' := 44) (ls' := [.ref (99), .int (nI (1)), .int (nI (1)), x3]) (st' := [.int (nI (6)), .int (cI (-1))]) (M' := (I1, J, Rx R, N, G)) rfl ?_
      refine XP_icD rfl (fun (b44 : ¬ cI (-1) = nI (6)) => ?_) (fun (b44 : cI (-1) = nI (6)) => absurd b44 (by decide))
      refine XP_n 2 (pc' := 55) (ls' := [.ref (99), .int (nI (1)), .int (nI (1)), x3]) (st' := [.int (I1 99 46)]) (M' := (I1, J, Rx R, N, G)) rfl ?_
      rw [q46]
      refine XP_n 1 (pc' := 56) (ls' := [.ref (99), .int (nI (1)), .int (nI (1)), x3]) (st' := [.int (nI (45)), .int (cI (-1))]) (M' := (I1, J, Rx R, N, G)) rfl ?_
      refine XP_icD rfl (fun (b56 : ¬ cI (-1) = nI (45)) => ?_) (fun (b56 : cI (-1) = nI (45)) => absurd b56 (by decide))
      refine XP_n 2 (pc' := 68) (ls' := [.ref (99), .int (nI (1)), .int (nI (1)), x3]) (st' := [.int (I1 99 46)]) (M' := (I1, J, Rx R, N, G)) rfl ?_
      rw [q46]
      refine XP_n 1 (pc' := 69) (ls' := [.ref (99), .int (nI (1)), .int (nI (1)), x3]) (st' := [.int (nI (40)), .int (cI (-1))]) (M' := (I1, J, Rx R, N, G)) rfl ?_
      refine XP_icD rfl (fun (b69 : ¬ cI (-1) = nI (40)) => ?_) (fun (b69 : cI (-1) = nI (40)) => absurd b69 (by decide))
      refine XP_n 1 (pc' := 80) (ls' := [.ref (99), .int (nI (1)), .int (nI (1)), x3]) (st' := [.int (nI (0))]) (M' := (I1, J, Rx R, N, G)) rfl ?_
      exact XP_ret rfl (kEnd I1 0 (by show stpW b L h u true p = _; unfold stpW; rw [if_neg g1, if_neg g2, if_neg (fun z => g4 z.1), if_neg (by omega), if_neg (by omega)]) (by omega) ⟨fun z => absurd z (by omega), fun z => by cases z.1⟩ hM1.o hF1 hC.2.2.1 hC.2.1)
    · have q46 : I1 99 46 = nI 3 := by
        rw [h46]
        unfold mT
        repeat (first | rw [if_pos (by omega)] | rw [if_neg (by omega)])
      refine XP_n 1 (pc' := 13) (ls' := [.ref (99), .int (nI (1)), .int (nI (1)), x3]) (st' := [.int (nI (1))]) (M' := (I1, J, Rx R, N, G)) rfl ?_
      refine XP_ifN (x := 1)  rfl (by omega) (fun (b13 : 1 = 0) => absurd b13 (by omega)) (fun (b13 : ¬ 1 = 0) => ?_)
      refine XP_n 2 (pc' := 16) (ls' := [.ref (99), .int (nI (1)), .int (nI (1)), x3]) (st' := [.int (I1 99 46)]) (M' := (I1, J, Rx R, N, G)) rfl ?_
      rw [q46]
      refine XP_n 1 (pc' := 17) (ls' := [.ref (99), .int (nI (1)), .int (nI (1)), x3]) (st' := [.int (nI (1)), .int (nI (3))]) (M' := (I1, J, Rx R, N, G)) rfl ?_
      refine XP_icN (x := 3) (y := 1) rfl (by omega) (by omega) (fun (b17 : 3 = 1) => absurd b17 (by omega)) (fun (b17 : ¬ 3 = 1) => ?_)
      refine XP_n 2 (pc' := 20) (ls' := [.ref (99), .int (nI (1)), .int (nI (1)), x3]) (st' := [.int (I1 99 46)]) (M' := (I1, J, Rx R, N, G)) rfl ?_
      rw [q46]
      refine XP_n 1 (pc' := 21) (ls' := [.ref (99), .int (nI (1)), .int (nI (1)), x3]) (st' := [.int (nI (2)), .int (nI (3))]) (M' := (I1, J, Rx R, N, G)) rfl ?_
      refine XP_icN (x := 3) (y := 2) rfl (by omega) (by omega) (fun (b21 : ¬ 3 = 2) => ?_) (fun (b21 : 3 = 2) => absurd b21 (by omega))
      refine XP_n 2 (pc' := 43) (ls' := [.ref (99), .int (nI (1)), .int (nI (1)), x3]) (st' := [.int (I1 99 46)]) (M' := (I1, J, Rx R, N, G)) rfl ?_
      rw [q46]
      refine XP_n 1 (pc' := 44) (ls' := [.ref (99), .int (nI (1)), .int (nI (1)), x3]) (st' := [.int (nI (6)), .int (nI (3))]) (M' := (I1, J, Rx R, N, G)) rfl ?_
      refine XP_icN (x := 3) (y := 6) rfl (by omega) (by omega) (fun (b44 : ¬ 3 = 6) => ?_) (fun (b44 : 3 = 6) => absurd b44 (by omega))
      refine XP_n 2 (pc' := 55) (ls' := [.ref (99), .int (nI (1)), .int (nI (1)), x3]) (st' := [.int (I1 99 46)]) (M' := (I1, J, Rx R, N, G)) rfl ?_
      rw [q46]
      refine XP_n 1 (pc' := 56) (ls' := [.ref (99), .int (nI (1)), .int (nI (1)), x3]) (st' := [.int (nI (45)), .int (nI (3))]) (M' := (I1, J, Rx R, N, G)) rfl ?_
      refine XP_icN (x := 3) (y := 45) rfl (by omega) (by omega) (fun (b56 : ¬ 3 = 45) => ?_) (fun (b56 : 3 = 45) => absurd b56 (by omega))
      refine XP_n 2 (pc' := 68) (ls' := [.ref (99), .int (nI (1)), .int (nI (1)), x3]) (st' := [.int (I1 99 46)]) (M' := (I1, J, Rx R, N, G)) rfl ?_
      rw [q46]
      refine XP_n 1 (pc' := 69) (ls' := [.ref (99), .int (nI (1)), .int (nI (1)), x3]) (st' := [.int (nI (40)), .int (nI (3))]) (M' := (I1, J, Rx R, N, G)) rfl ?_
      refine XP_icN (x := 3) (y := 40) rfl (by omega) (by omega) (fun (b69 : ¬ 3 = 40) => ?_) (fun (b69 : 3 = 40) => absurd b69 (by omega))
      refine XP_n 1 (pc' := 80) (ls' := [.ref (99), .int (nI (1)), .int (nI (1)), x3]) (st' := [.int (nI (0))]) (M' := (I1, J, Rx R, N, G)) rfl ?_
      exact XP_ret rfl (kEnd I1 0 (by show stpW b L h u true p = _; unfold stpW; rw [if_neg g1, if_neg g2, if_neg (fun z => g4 z.1), if_neg (by omega), if_neg (by omega)]) (by omega) ⟨fun z => absurd z (by omega), fun z => by cases z.1⟩ hM1.o hF1 hC.2.2.1 hC.2.1)
  | false =>
    show XP X _ k_M_eRead 10 [.ref 99, .int (nI 1), .int (nI 0), x3] [] _ _
    refine XP_n 1 (pc' := 11) (ls' := [.ref (99), .int (nI (1)), .int (nI (0)), x3]) (st' := [.ref (99)]) (M' := (I, J, Rx R, N, G)) rfl ?_
    refine XP_call rfl rfl (c_next (hT.fr hF) hL hb hD hp h44) ?_
    rintro v1 M1 ⟨rfl, I1, rfl, hC, f1, f2⟩
    have hM1 : MS It t I1 h u := hM.of f1 f2
    have hF1 : Fr0 It I1 := hF.of f1 f2
    have hpl := pl_le (b := b) (L := L) p
    have h46 := hC.2.2.2.1
    have hr := tk_rg (b := b) (L := L) p
    have hcl := cnt_le h
    by_cases g1 : tk b L p = 2000
    · have htv := tv_lt hb hp g1
      have q46 : I1 99 46 = nI 1 := h46.trans (by rw [g1]; rfl)
      have q47 : I1 99 47 = nI (tv b L p) := hC.2.2.2.2.1 g1
      refine XP_n 1 (pc' := 13) (ls' := [.ref (99), .int (nI (1)), .int (nI (0)), x3]) (st' := [.int (nI (1))]) (M' := (I1, J, Rx R, N, G)) rfl ?_
      refine XP_ifN (x := 1)  rfl (by omega) (fun (b13 : 1 = 0) => absurd b13 (by omega)) (fun (b13 : ¬ 1 = 0) => ?_)
      refine XP_n 2 (pc' := 16) (ls' := [.ref (99), .int (nI (1)), .int (nI (0)), x3]) (st' := [.int (I1 99 46)]) (M' := (I1, J, Rx R, N, G)) rfl ?_
      rw [q46]
      refine XP_n 1 (pc' := 17) (ls' := [.ref (99), .int (nI (1)), .int (nI (0)), x3]) (st' := [.int (nI (1)), .int (nI (1))]) (M' := (I1, J, Rx R, N, G)) rfl ?_
      refine XP_icN (x := 1) (y := 1) rfl (by omega) (by omega) (fun (b17 : 1 = 1) => ?_) (fun (b17 : ¬ 1 = 1) => absurd b17 (by omega))
      refine XP_n 3 (pc' := 25) (ls' := [.ref (99), .int (nI (1)), .int (nI (0)), x3]) (st' := [.int (I1 99 46), .ref (99)]) (M' := (I1, J, Rx R, N, G)) rfl ?_
      rw [q46]
      refine XP_n 1 (pc' := 26) (ls' := [.ref (99), .int (nI (1)), .int (nI (0)), x3]) (st' := [.int (nI (1)), .int (nI (1)), .ref (99)]) (M' := (I1, J, Rx R, N, G)) rfl ?_
      refine XP_icN (x := 1) (y := 1) rfl (by omega) (by omega) (fun (b26 : ¬ 1 = 1) => absurd b26 (by omega)) (fun (b26 : 1 = 1) => ?_)
      refine XP_n 3 (pc' := 30) (ls' := [.ref (99), .int (nI (1)), .int (nI (0)), x3]) (st' := [.int (I1 99 47), .int (nI (100000)), .ref (99)]) (M' := (I1, J, Rx R, N, G)) rfl ?_
      rw [q47]
      refine XP_n 2 (pc' := 34) (ls' := [.ref (99), .int (nI (1)), .int (nI (0)), x3]) (st' := [.int ((nI (100000)) + (nI (tv b L p))), .ref (99)]) (M' := (I1, J, Rx R, N, G)) rfl ?_
      rw [show (nI (100000)) + (nI (tv b L p)) = nI (100000 + tv b L p) from nI_addE (rfl) (rfl)]
      refine XP_call rfl rfl (c_mputs (u := u) ht (by omega) ((hF1.2 30 (by omega)).trans k30) hM1.2.2.1 _) ?_
      rintro v2 M2 ⟨rfl, rfl⟩
      have hM2 := MS.put (c := 100000 + tv b L p) hM1 rfl
      have hF2 : Fr0 It _ := hF1.put (j := 200 * t + u.length) (x := nI (100000 + tv b L p)) (y := nI (u.length + 1)) (Or.inl rfl) (show 44 ≤ 52 ∧ 52 ≤ 52 by omega)
      refine XP_n 2 (pc' := 37) (ls' := [.ref (99), .int (nI (1)), .int (nI (0)), x3]) (st' := [.int (nI (7)), .ref (99)]) (M' := ((rw2 (rw2 I1 117 (200 * t + u.length) (nI (100000 + tv b L p))) 99 52 (nI (u.length + 1))), J, Rx R, N, G)) rfl ?_
      refine XP_call rfl rfl (c_unw (I := (rw2 (rw2 I1 117 (200 * t + u.length) (nI (100000 + tv b L p))) 99 52 (nI (u.length + 1)))) (r := 7) (by omega) (by omega) ht k30 (by rw [List.length_append]; show h.length + (u.length + 1) ≤ 160; have := tk_nx (b := b) (L := L) (p := p) (by omega); omega) hM2 hF2) ?_
      rintro v3 M3 ⟨rfl, I3, rfl, hM3, hF3, hT3⟩
      have h443 : I3 99 44 = nI (nx b L p) := (hT3 44 (by omega) (by omega)).trans hC.2.1
      refine XP_n 3 (pc' := 10) (ls' := [.ref (99), .int (nI (0)), .int (nI (0)), x3]) (st' := []) (M' := (I3, J, Rx R, N, G)) rfl ?_
      exact kGo _ _ false false _ I3 _ (by show stpW b L h u false p = _; unfold stpW; rw [if_pos g1]) hM3 hF3 h443
    by_cases g2 : 1000 ≤ tk b L p ∧ tk b L p < 1006
    · have htn : tk b L p = tw (tk b L p - 997) := by
        have hc : tk b L p = 1000 ∨ tk b L p = 1001 ∨ tk b L p = 1002 ∨ tk b L p = 1003 ∨ tk b L p = 1004 ∨ tk b L p = 1005 := by omega
        rcases hc with z | z | z | z | z | z <;> rw [z] <;> rfl
      have q46 : I1 99 46 = nI 2 := by
        rw [h46]
        unfold mT
        repeat (first | rw [if_pos (by omega)] | rw [if_neg (by omega)])
      have q47 : I1 99 47 = nI (tk b L p - 1000) := by
        rw [hC.2.2.2.2.2 (tk b L p - 997) (by omega) htn, if_neg (by omega), show tk b L p - 997 - 3 = tk b L p - 1000 by omega]
      refine XP_n 1 (pc' := 13) (ls' := [.ref (99), .int (nI (1)), .int (nI (0)), x3]) (st' := [.int (nI (1))]) (M' := (I1, J, Rx R, N, G)) rfl ?_
      refine XP_ifN (x := 1)  rfl (by omega) (fun (b13 : 1 = 0) => absurd b13 (by omega)) (fun (b13 : ¬ 1 = 0) => ?_)
      refine XP_n 2 (pc' := 16) (ls' := [.ref (99), .int (nI (1)), .int (nI (0)), x3]) (st' := [.int (I1 99 46)]) (M' := (I1, J, Rx R, N, G)) rfl ?_
      rw [q46]
      refine XP_n 1 (pc' := 17) (ls' := [.ref (99), .int (nI (1)), .int (nI (0)), x3]) (st' := [.int (nI (1)), .int (nI (2))]) (M' := (I1, J, Rx R, N, G)) rfl ?_
      refine XP_icN (x := 2) (y := 1) rfl (by omega) (by omega) (fun (b17 : 2 = 1) => absurd b17 (by omega)) (fun (b17 : ¬ 2 = 1) => ?_)
      refine XP_n 2 (pc' := 20) (ls' := [.ref (99), .int (nI (1)), .int (nI (0)), x3]) (st' := [.int (I1 99 46)]) (M' := (I1, J, Rx R, N, G)) rfl ?_
      rw [q46]
      refine XP_n 1 (pc' := 21) (ls' := [.ref (99), .int (nI (1)), .int (nI (0)), x3]) (st' := [.int (nI (2)), .int (nI (2))]) (M' := (I1, J, Rx R, N, G)) rfl ?_
      refine XP_icN (x := 2) (y := 2) rfl (by omega) (by omega) (fun (b21 : ¬ 2 = 2) => absurd b21 (by omega)) (fun (b21 : 2 = 2) => ?_)
      refine XP_n 3 (pc' := 25) (ls' := [.ref (99), .int (nI (1)), .int (nI (0)), x3]) (st' := [.int (I1 99 46), .ref (99)]) (M' := (I1, J, Rx R, N, G)) rfl ?_
      rw [q46]
      refine XP_n 1 (pc' := 26) (ls' := [.ref (99), .int (nI (1)), .int (nI (0)), x3]) (st' := [.int (nI (1)), .int (nI (2)), .ref (99)]) (M' := (I1, J, Rx R, N, G)) rfl ?_
      refine XP_icN (x := 2) (y := 1) rfl (by omega) (by omega) (fun (b26 : ¬ 2 = 1) => ?_) (fun (b26 : 2 = 1) => absurd b26 (by omega))
      refine XP_n 2 (pc' := 34) (ls' := [.ref (99), .int (nI (1)), .int (nI (0)), x3]) (st' := [.int (I1 99 47), .ref (99)]) (M' := (I1, J, Rx R, N, G)) rfl ?_
      rw [q47]
      refine XP_call rfl rfl (c_mputs (u := u) ht (by omega) ((hF1.2 30 (by omega)).trans k30) hM1.2.2.1 _) ?_
      rintro v2 M2 ⟨rfl, rfl⟩
      have hM2 := MS.put (c := tk b L p - 1000) hM1 rfl
      have hF2 : Fr0 It _ := hF1.put (j := 200 * t + u.length) (x := nI (tk b L p - 1000)) (y := nI (u.length + 1)) (Or.inl rfl) (show 44 ≤ 52 ∧ 52 ≤ 52 by omega)
      refine XP_n 2 (pc' := 37) (ls' := [.ref (99), .int (nI (1)), .int (nI (0)), x3]) (st' := [.int (nI (7)), .ref (99)]) (M' := ((rw2 (rw2 I1 117 (200 * t + u.length) (nI (tk b L p - 1000))) 99 52 (nI (u.length + 1))), J, Rx R, N, G)) rfl ?_
      refine XP_call rfl rfl (c_unw (I := (rw2 (rw2 I1 117 (200 * t + u.length) (nI (tk b L p - 1000))) 99 52 (nI (u.length + 1)))) (r := 7) (by omega) (by omega) ht k30 (by rw [List.length_append]; show h.length + (u.length + 1) ≤ 160; have := tk_nx (b := b) (L := L) (p := p) (by omega); omega) hM2 hF2) ?_
      rintro v3 M3 ⟨rfl, I3, rfl, hM3, hF3, hT3⟩
      have h443 : I3 99 44 = nI (nx b L p) := (hT3 44 (by omega) (by omega)).trans hC.2.1
      refine XP_n 3 (pc' := 10) (ls' := [.ref (99), .int (nI (0)), .int (nI (0)), x3]) (st' := []) (M' := (I3, J, Rx R, N, G)) rfl ?_
      exact kGo _ _ false false _ I3 _ (by show stpW b L h u false p = _; unfold stpW; rw [if_neg g1, if_pos g2]) hM3 hF3 h443
    by_cases g3 : tk b L p = 45
    · have q46 : I1 99 46 = nI 45 := h46.trans (by rw [g3]; rfl)
      by_cases g5 : cnt h = 5
      · refine XP_n 1 (pc' := 13) (ls' := [.ref (99), .int (nI (1)), .int (nI (0)), x3]) (st' := [.int (nI (1))]) (M' := (I1, J, Rx R, N, G)) rfl ?_
        refine XP_ifN (x := 1)  rfl (by omega) (fun (b13 : 1 = 0) => absurd b13 (by omega)) (fun (b13 : ¬ 1 = 0) => ?_)
        refine XP_n 2 (pc' := 16) (ls' := [.ref (99), .int (nI (1)), .int (nI (0)), x3]) (st' := [.int (I1 99 46)]) (M' := (I1, J, Rx R, N, G)) rfl ?_
        rw [q46]
        refine XP_n 1 (pc' := 17) (ls' := [.ref (99), .int (nI (1)), .int (nI (0)), x3]) (st' := [.int (nI (1)), .int (nI (45))]) (M' := (I1, J, Rx R, N, G)) rfl ?_
        refine XP_icN (x := 45) (y := 1) rfl (by omega) (by omega) (fun (b17 : 45 = 1) => absurd b17 (by omega)) (fun (b17 : ¬ 45 = 1) => ?_)
        refine XP_n 2 (pc' := 20) (ls' := [.ref (99), .int (nI (1)), .int (nI (0)), x3]) (st' := [.int (I1 99 46)]) (M' := (I1, J, Rx R, N, G)) rfl ?_
        rw [q46]
        refine XP_n 1 (pc' := 21) (ls' := [.ref (99), .int (nI (1)), .int (nI (0)), x3]) (st' := [.int (nI (2)), .int (nI (45))]) (M' := (I1, J, Rx R, N, G)) rfl ?_
        refine XP_icN (x := 45) (y := 2) rfl (by omega) (by omega) (fun (b21 : ¬ 45 = 2) => ?_) (fun (b21 : 45 = 2) => absurd b21 (by omega))
        refine XP_n 2 (pc' := 43) (ls' := [.ref (99), .int (nI (1)), .int (nI (0)), x3]) (st' := [.int (I1 99 46)]) (M' := (I1, J, Rx R, N, G)) rfl ?_
        rw [q46]
        refine XP_n 1 (pc' := 44) (ls' := [.ref (99), .int (nI (1)), .int (nI (0)), x3]) (st' := [.int (nI (6)), .int (nI (45))]) (M' := (I1, J, Rx R, N, G)) rfl ?_
        refine XP_icN (x := 45) (y := 6) rfl (by omega) (by omega) (fun (b44 : ¬ 45 = 6) => ?_) (fun (b44 : 45 = 6) => absurd b44 (by omega))
        refine XP_n 2 (pc' := 55) (ls' := [.ref (99), .int (nI (1)), .int (nI (0)), x3]) (st' := [.int (I1 99 46)]) (M' := (I1, J, Rx R, N, G)) rfl ?_
        rw [q46]
        refine XP_n 1 (pc' := 56) (ls' := [.ref (99), .int (nI (1)), .int (nI (0)), x3]) (st' := [.int (nI (45)), .int (nI (45))]) (M' := (I1, J, Rx R, N, G)) rfl ?_
        refine XP_icN (x := 45) (y := 45) rfl (by omega) (by omega) (fun (b56 : ¬ 45 = 45) => absurd b56 (by omega)) (fun (b56 : 45 = 45) => ?_)
        refine XP_n 2 (pc' := 59) (ls' := [.ref (99), .int (nI (1)), .int (nI (0)), x3]) (st' := [.int (nI (19)), .ref (99)]) (M' := (I1, J, Rx R, N, G)) rfl ?_
        refine XP_pure rfl rfl (c_opF _ hM1 g5) ?_
        refine XP_ifN (x := 0)  rfl (by omega) (fun (b60 : ¬ 0 = 0) => absurd b60 (by omega)) (fun (b60 : 0 = 0) => ?_)
        refine XP_n 1 (pc' := 62) (ls' := [.ref (99), .int (nI (1)), .int (nI (0)), x3]) (st' := [.int (nI (0))]) (M' := (I1, J, Rx R, N, G)) rfl ?_
        exact XP_ret rfl (kEnd I1 0 (by show stpW b L h u false p = _; unfold stpW; rw [if_neg (by omega), if_neg (by omega), if_neg (fun z => by have := z.1; omega), if_pos g3, if_pos g5]) (by omega) ⟨fun z => absurd z (by omega), fun z => by cases z.1⟩ hM1.o hF1 hC.2.2.1 hC.2.1)
      · refine XP_n 1 (pc' := 13) (ls' := [.ref (99), .int (nI (1)), .int (nI (0)), x3]) (st' := [.int (nI (1))]) (M' := (I1, J, Rx R, N, G)) rfl ?_
        refine XP_ifN (x := 1)  rfl (by omega) (fun (b13 : 1 = 0) => absurd b13 (by omega)) (fun (b13 : ¬ 1 = 0) => ?_)
        refine XP_n 2 (pc' := 16) (ls' := [.ref (99), .int (nI (1)), .int (nI (0)), x3]) (st' := [.int (I1 99 46)]) (M' := (I1, J, Rx R, N, G)) rfl ?_
        rw [q46]
        refine XP_n 1 (pc' := 17) (ls' := [.ref (99), .int (nI (1)), .int (nI (0)), x3]) (st' := [.int (nI (1)), .int (nI (45))]) (M' := (I1, J, Rx R, N, G)) rfl ?_
        refine XP_icN (x := 45) (y := 1) rfl (by omega) (by omega) (fun (b17 : 45 = 1) => absurd b17 (by omega)) (fun (b17 : ¬ 45 = 1) => ?_)
        refine XP_n 2 (pc' := 20) (ls' := [.ref (99), .int (nI (1)), .int (nI (0)), x3]) (st' := [.int (I1 99 46)]) (M' := (I1, J, Rx R, N, G)) rfl ?_
        rw [q46]
        refine XP_n 1 (pc' := 21) (ls' := [.ref (99), .int (nI (1)), .int (nI (0)), x3]) (st' := [.int (nI (2)), .int (nI (45))]) (M' := (I1, J, Rx R, N, G)) rfl ?_
        refine XP_icN (x := 45) (y := 2) rfl (by omega) (by omega) (fun (b21 : ¬ 45 = 2) => ?_) (fun (b21 : 45 = 2) => absurd b21 (by omega))
        refine XP_n 2 (pc' := 43) (ls' := [.ref (99), .int (nI (1)), .int (nI (0)), x3]) (st' := [.int (I1 99 46)]) (M' := (I1, J, Rx R, N, G)) rfl ?_
        rw [q46]
        refine XP_n 1 (pc' := 44) (ls' := [.ref (99), .int (nI (1)), .int (nI (0)), x3]) (st' := [.int (nI (6)), .int (nI (45))]) (M' := (I1, J, Rx R, N, G)) rfl ?_
        refine XP_icN (x := 45) (y := 6) rfl (by omega) (by omega) (fun (b44 : ¬ 45 = 6) => ?_) (fun (b44 : 45 = 6) => absurd b44 (by omega))
        refine XP_n 2 (pc' := 55) (ls' := [.ref (99), .int (nI (1)), .int (nI (0)), x3]) (st' := [.int (I1 99 46)]) (M' := (I1, J, Rx R, N, G)) rfl ?_
        rw [q46]
        refine XP_n 1 (pc' := 56) (ls' := [.ref (99), .int (nI (1)), .int (nI (0)), x3]) (st' := [.int (nI (45)), .int (nI (45))]) (M' := (I1, J, Rx R, N, G)) rfl ?_
        refine XP_icN (x := 45) (y := 45) rfl (by omega) (by omega) (fun (b56 : ¬ 45 = 45) => absurd b56 (by omega)) (fun (b56 : 45 = 45) => ?_)
        refine XP_n 2 (pc' := 59) (ls' := [.ref (99), .int (nI (1)), .int (nI (0)), x3]) (st' := [.int (nI (19)), .ref (99)]) (M' := (I1, J, Rx R, N, G)) rfl ?_
        refine XP_call rfl rfl (c_opT (s := 19) hM1 hF1 (by omega) (by omega) g5) ?_
        rintro v3 M3 ⟨rfl, I3, rfl, hM3, hF3, hT3⟩
        have h443 : I3 99 44 = nI (nx b L p) := (hT3 44 (by omega) (by omega)).trans hC.2.1
        refine XP_ifN (x := 1)  rfl (by omega) (fun (b60 : ¬ 1 = 0) => ?_) (fun (b60 : 1 = 0) => absurd b60 (by omega))
        refine XP_n 3 (pc' := 10) (ls' := [.ref (99), .int (nI (1)), .int (nI (0)), x3]) (st' := []) (M' := (I3, J, Rx R, N, G)) rfl ?_
        exact kGo (19 :: h) u true false _ I3 _ (stp_pre g5 (Or.inr (Or.inl ⟨g3, rfl, rfl⟩))) hM3 hF3 h443
    by_cases g3 : tk b L p = 40
    · have q46 : I1 99 46 = nI 40 := h46.trans (by rw [g3]; rfl)
      by_cases g5 : cnt h = 5
      · refine XP_n 1 (pc' := 13) (ls' := [.ref (99), .int (nI (1)), .int (nI (0)), x3]) (st' := [.int (nI (1))]) (M' := (I1, J, Rx R, N, G)) rfl ?_
        refine XP_ifN (x := 1)  rfl (by omega) (fun (b13 : 1 = 0) => absurd b13 (by omega)) (fun (b13 : ¬ 1 = 0) => ?_)
        refine XP_n 2 (pc' := 16) (ls' := [.ref (99), .int (nI (1)), .int (nI (0)), x3]) (st' := [.int (I1 99 46)]) (M' := (I1, J, Rx R, N, G)) rfl ?_
        rw [q46]
        refine XP_n 1 (pc' := 17) (ls' := [.ref (99), .int (nI (1)), .int (nI (0)), x3]) (st' := [.int (nI (1)), .int (nI (40))]) (M' := (I1, J, Rx R, N, G)) rfl ?_
        refine XP_icN (x := 40) (y := 1) rfl (by omega) (by omega) (fun (b17 : 40 = 1) => absurd b17 (by omega)) (fun (b17 : ¬ 40 = 1) => ?_)
        refine XP_n 2 (pc' := 20) (ls' := [.ref (99), .int (nI (1)), .int (nI (0)), x3]) (st' := [.int (I1 99 46)]) (M' := (I1, J, Rx R, N, G)) rfl ?_
        rw [q46]
        refine XP_n 1 (pc' := 21) (ls' := [.ref (99), .int (nI (1)), .int (nI (0)), x3]) (st' := [.int (nI (2)), .int (nI (40))]) (M' := (I1, J, Rx R, N, G)) rfl ?_
        refine XP_icN (x := 40) (y := 2) rfl (by omega) (by omega) (fun (b21 : ¬ 40 = 2) => ?_) (fun (b21 : 40 = 2) => absurd b21 (by omega))
        refine XP_n 2 (pc' := 43) (ls' := [.ref (99), .int (nI (1)), .int (nI (0)), x3]) (st' := [.int (I1 99 46)]) (M' := (I1, J, Rx R, N, G)) rfl ?_
        rw [q46]
        refine XP_n 1 (pc' := 44) (ls' := [.ref (99), .int (nI (1)), .int (nI (0)), x3]) (st' := [.int (nI (6)), .int (nI (40))]) (M' := (I1, J, Rx R, N, G)) rfl ?_
        refine XP_icN (x := 40) (y := 6) rfl (by omega) (by omega) (fun (b44 : ¬ 40 = 6) => ?_) (fun (b44 : 40 = 6) => absurd b44 (by omega))
        refine XP_n 2 (pc' := 55) (ls' := [.ref (99), .int (nI (1)), .int (nI (0)), x3]) (st' := [.int (I1 99 46)]) (M' := (I1, J, Rx R, N, G)) rfl ?_
        rw [q46]
        refine XP_n 1 (pc' := 56) (ls' := [.ref (99), .int (nI (1)), .int (nI (0)), x3]) (st' := [.int (nI (45)), .int (nI (40))]) (M' := (I1, J, Rx R, N, G)) rfl ?_
        refine XP_icN (x := 40) (y := 45) rfl (by omega) (by omega) (fun (b56 : ¬ 40 = 45) => ?_) (fun (b56 : 40 = 45) => absurd b56 (by omega))
        refine XP_n 2 (pc' := 68) (ls' := [.ref (99), .int (nI (1)), .int (nI (0)), x3]) (st' := [.int (I1 99 46)]) (M' := (I1, J, Rx R, N, G)) rfl ?_
        rw [q46]
        refine XP_n 1 (pc' := 69) (ls' := [.ref (99), .int (nI (1)), .int (nI (0)), x3]) (st' := [.int (nI (40)), .int (nI (40))]) (M' := (I1, J, Rx R, N, G)) rfl ?_
        refine XP_icN (x := 40) (y := 40) rfl (by omega) (by omega) (fun (b69 : ¬ 40 = 40) => absurd b69 (by omega)) (fun (b69 : 40 = 40) => ?_)
        refine XP_n 2 (pc' := 72) (ls' := [.ref (99), .int (nI (1)), .int (nI (0)), x3]) (st' := [.int (nI (0)), .ref (99)]) (M' := (I1, J, Rx R, N, G)) rfl ?_
        refine XP_pure rfl rfl (c_opF _ hM1 g5) ?_
        refine XP_ifN (x := 0)  rfl (by omega) (fun (b73 : ¬ 0 = 0) => absurd b73 (by omega)) (fun (b73 : 0 = 0) => ?_)
        refine XP_n 1 (pc' := 75) (ls' := [.ref (99), .int (nI (1)), .int (nI (0)), x3]) (st' := [.int (nI (0))]) (M' := (I1, J, Rx R, N, G)) rfl ?_
        exact XP_ret rfl (kEnd I1 0 (by show stpW b L h u false p = _; unfold stpW; rw [if_neg (by omega), if_neg (by omega), if_neg (fun z => by have := z.1; omega), if_neg (by omega), if_pos g3, if_pos g5]) (by omega) ⟨fun z => absurd z (by omega), fun z => by cases z.1⟩ hM1.o hF1 hC.2.2.1 hC.2.1)
      · refine XP_n 1 (pc' := 13) (ls' := [.ref (99), .int (nI (1)), .int (nI (0)), x3]) (st' := [.int (nI (1))]) (M' := (I1, J, Rx R, N, G)) rfl ?_
        refine XP_ifN (x := 1)  rfl (by omega) (fun (b13 : 1 = 0) => absurd b13 (by omega)) (fun (b13 : ¬ 1 = 0) => ?_)
        refine XP_n 2 (pc' := 16) (ls' := [.ref (99), .int (nI (1)), .int (nI (0)), x3]) (st' := [.int (I1 99 46)]) (M' := (I1, J, Rx R, N, G)) rfl ?_
        rw [q46]
        refine XP_n 1 (pc' := 17) (ls' := [.ref (99), .int (nI (1)), .int (nI (0)), x3]) (st' := [.int (nI (1)), .int (nI (40))]) (M' := (I1, J, Rx R, N, G)) rfl ?_
        refine XP_icN (x := 40) (y := 1) rfl (by omega) (by omega) (fun (b17 : 40 = 1) => absurd b17 (by omega)) (fun (b17 : ¬ 40 = 1) => ?_)
        refine XP_n 2 (pc' := 20) (ls' := [.ref (99), .int (nI (1)), .int (nI (0)), x3]) (st' := [.int (I1 99 46)]) (M' := (I1, J, Rx R, N, G)) rfl ?_
        rw [q46]
        refine XP_n 1 (pc' := 21) (ls' := [.ref (99), .int (nI (1)), .int (nI (0)), x3]) (st' := [.int (nI (2)), .int (nI (40))]) (M' := (I1, J, Rx R, N, G)) rfl ?_
        refine XP_icN (x := 40) (y := 2) rfl (by omega) (by omega) (fun (b21 : ¬ 40 = 2) => ?_) (fun (b21 : 40 = 2) => absurd b21 (by omega))
        refine XP_n 2 (pc' := 43) (ls' := [.ref (99), .int (nI (1)), .int (nI (0)), x3]) (st' := [.int (I1 99 46)]) (M' := (I1, J, Rx R, N, G)) rfl ?_
        rw [q46]
        refine XP_n 1 (pc' := 44) (ls' := [.ref (99), .int (nI (1)), .int (nI (0)), x3]) (st' := [.int (nI (6)), .int (nI (40))]) (M' := (I1, J, Rx R, N, G)) rfl ?_
        refine XP_icN (x := 40) (y := 6) rfl (by omega) (by omega) (fun (b44 : ¬ 40 = 6) => ?_) (fun (b44 : 40 = 6) => absurd b44 (by omega))
        refine XP_n 2 (pc' := 55) (ls' := [.ref (99), .int (nI (1)), .int (nI (0)), x3]) (st' := [.int (I1 99 46)]) (M' := (I1, J, Rx R, N, G)) rfl ?_
        rw [q46]
        refine XP_n 1 (pc' := 56) (ls' := [.ref (99), .int (nI (1)), .int (nI (0)), x3]) (st' := [.int (nI (45)), .int (nI (40))]) (M' := (I1, J, Rx R, N, G)) rfl ?_
        refine XP_icN (x := 40) (y := 45) rfl (by omega) (by omega) (fun (b56 : ¬ 40 = 45) => ?_) (fun (b56 : 40 = 45) => absurd b56 (by omega))
        refine XP_n 2 (pc' := 68) (ls' := [.ref (99), .int (nI (1)), .int (nI (0)), x3]) (st' := [.int (I1 99 46)]) (M' := (I1, J, Rx R, N, G)) rfl ?_
        rw [q46]
        refine XP_n 1 (pc' := 69) (ls' := [.ref (99), .int (nI (1)), .int (nI (0)), x3]) (st' := [.int (nI (40)), .int (nI (40))]) (M' := (I1, J, Rx R, N, G)) rfl ?_
        refine XP_icN (x := 40) (y := 40) rfl (by omega) (by omega) (fun (b69 : ¬ 40 = 40) => absurd b69 (by omega)) (fun (b69 : 40 = 40) => ?_)
        refine XP_n 2 (pc' := 72) (ls' := [.ref (99), .int (nI (1)), .int (nI (0)), x3]) (st' := [.int (nI (0)), .ref (99)]) (M' := (I1, J, Rx R, N, G)) rfl ?_
        refine XP_call rfl rfl (c_opT (s := 0) hM1 hF1 (by omega) (by omega) g5) ?_
        rintro v3 M3 ⟨rfl, I3, rfl, hM3, hF3, hT3⟩
        have h443 : I3 99 44 = nI (nx b L p) := (hT3 44 (by omega) (by omega)).trans hC.2.1
        refine XP_ifN (x := 1)  rfl (by omega) (fun (b73 : ¬ 1 = 0) => ?_) (fun (b73 : 1 = 0) => absurd b73 (by omega))
        refine XP_n 3 (pc' := 10) (ls' := [.ref (99), .int (nI (1)), .int (nI (1)), x3]) (st' := []) (M' := (I3, J, Rx R, N, G)) rfl ?_
        exact kGo (0 :: h) u true true _ I3 _ (stp_pre g5 (Or.inr (Or.inr ⟨g3, rfl, rfl⟩))) hM3 hF3 h443
    have hgr : tk b L p = 41 ∨ tk b L p = 59 ∨ tk b L p = 43 ∨ tk b L p = 42 ∨ tk b L p = 60 ∨ tk b L p = 61 ∨ tk b L p = 1009 ∨ tk b L p = 1010 ∨ tk b L p = 2001 ∨ tk b L p = 2002 ∨ tk b L p = 1011 ∨ (1006 ≤ tk b L p ∧ tk b L p < 1009) := by omega
    rcases hgr with gg | gg | gg | gg | gg | gg | gg | gg | gg | gg | gg | gg
    · have q46 : I1 99 46 = nI 41 := h46.trans (by rw [gg]; rfl)
      refine XP_n 1 (pc' := 13) (ls' := [.ref (99), .int (nI (1)), .int (nI (0)), x3]) (st' := [.int (nI (1))]) (M' := (I1, J, Rx R, N, G)) rfl ?_
      refine XP_ifN (x := 1)  rfl (by omega) (fun (b13 : 1 = 0) => absurd b13 (by omega)) (fun (b13 : ¬ 1 = 0) => ?_)
      refine XP_n 2 (pc' := 16) (ls' := [.ref (99), .int (nI (1)), .int (nI (0)), x3]) (st' := [.int (I1 99 46)]) (M' := (I1, J, Rx R, N, G)) rfl ?_
      rw [q46]
      refine XP_n 1 (pc' := 17) (ls' := [.ref (99), .int (nI (1)), .int (nI (0)), x3]) (st' := [.int (nI (1)), .int (nI (41))]) (M' := (I1, J, Rx R, N, G)) rfl ?_
      refine XP_icN (x := 41) (y := 1) rfl (by omega) (by omega) (fun (b17 : 41 = 1) => absurd b17 (by omega)) (fun (b17 : ¬ 41 = 1) => ?_)
      refine XP_n 2 (pc' := 20) (ls' := [.ref (99), .int (nI (1)), .int (nI (0)), x3]) (st' := [.int (I1 99 46)]) (M' := (I1, J, Rx R, N, G)) rfl ?_
      rw [q46]
      refine XP_n 1 (pc' := 21) (ls' := [.ref (99), .int (nI (1)), .int (nI (0)), x3]) (st' := [.int (nI (2)), .int (nI (41))]) (M' := (I1, J, Rx R, N, G)) rfl ?_
      refine XP_icN (x := 41) (y := 2) rfl (by omega) (by omega) (fun (b21 : ¬ 41 = 2) => ?_) (fun (b21 : 41 = 2) => absurd b21 (by omega))
      refine XP_n 2 (pc' := 43) (ls' := [.ref (99), .int (nI (1)), .int (nI (0)), x3]) (st' := [.int (I1 99 46)]) (M' := (I1, J, Rx R, N, G)) rfl ?_
      rw [q46]
      refine XP_n 1 (pc' := 44) (ls' := [.ref (99), .int (nI (1)), .int (nI (0)), x3]) (st' := [.int (nI (6)), .int (nI (41))]) (M' := (I1, J, Rx R, N, G)) rfl ?_
      refine XP_icN (x := 41) (y := 6) rfl (by omega) (by omega) (fun (b44 : ¬ 41 = 6) => ?_) (fun (b44 : 41 = 6) => absurd b44 (by omega))
      refine XP_n 2 (pc' := 55) (ls' := [.ref (99), .int (nI (1)), .int (nI (0)), x3]) (st' := [.int (I1 99 46)]) (M' := (I1, J, Rx R, N, G)) rfl ?_
      rw [q46]
      refine XP_n 1 (pc' := 56) (ls' := [.ref (99), .int (nI (1)), .int (nI (0)), x3]) (st' := [.int (nI (45)), .int (nI (41))]) (M' := (I1, J, Rx R, N, G)) rfl ?_
      refine XP_icN (x := 41) (y := 45) rfl (by omega) (by omega) (fun (b56 : ¬ 41 = 45) => ?_) (fun (b56 : 41 = 45) => absurd b56 (by omega))
      refine XP_n 2 (pc' := 68) (ls' := [.ref (99), .int (nI (1)), .int (nI (0)), x3]) (st' := [.int (I1 99 46)]) (M' := (I1, J, Rx R, N, G)) rfl ?_
      rw [q46]
      refine XP_n 1 (pc' := 69) (ls' := [.ref (99), .int (nI (1)), .int (nI (0)), x3]) (st' := [.int (nI (40)), .int (nI (41))]) (M' := (I1, J, Rx R, N, G)) rfl ?_
      refine XP_icN (x := 41) (y := 40) rfl (by omega) (by omega) (fun (b69 : ¬ 41 = 40) => ?_) (fun (b69 : 41 = 40) => absurd b69 (by omega))
      refine XP_n 1 (pc' := 80) (ls' := [.ref (99), .int (nI (1)), .int (nI (0)), x3]) (st' := [.int (nI (0))]) (M' := (I1, J, Rx R, N, G)) rfl ?_
      exact XP_ret rfl (kEnd I1 0 (by show stpW b L h u false p = _; unfold stpW; rw [if_neg g1, if_neg g2, if_neg (fun z => by cases z.2), if_neg (by omega), if_neg (by omega)]) (by omega) ⟨fun z => absurd z (by omega), fun z => by cases z.1⟩ hM1.o hF1 hC.2.2.1 hC.2.1)
    · have q46 : I1 99 46 = nI 59 := h46.trans (by rw [gg]; rfl)
      refine XP_n 1 (pc' := 13) (ls' := [.ref (99), .int (nI (1)), .int (nI (0)), x3]) (st' := [.int (nI (1))]) (M' := (I1, J, Rx R, N, G)) rfl ?_
      refine XP_ifN (x := 1)  rfl (by omega) (fun (b13 : 1 = 0) => absurd b13 (by omega)) (fun (b13 : ¬ 1 = 0) => ?_)
      refine XP_n 2 (pc' := 16) (ls' := [.ref (99), .int (nI (1)), .int (nI (0)), x3]) (st' := [.int (I1 99 46)]) (M' := (I1, J, Rx R, N, G)) rfl ?_
      rw [q46]
      refine XP_n 1 (pc' := 17) (ls' := [.ref (99), .int (nI (1)), .int (nI (0)), x3]) (st' := [.int (nI (1)), .int (nI (59))]) (M' := (I1, J, Rx R, N, G)) rfl ?_
      refine XP_icN (x := 59) (y := 1) rfl (by omega) (by omega) (fun (b17 : 59 = 1) => absurd b17 (by omega)) (fun (b17 : ¬ 59 = 1) => ?_)
      refine XP_n 2 (pc' := 20) (ls' := [.ref (99), .int (nI (1)), .int (nI (0)), x3]) (st' := [.int (I1 99 46)]) (M' := (I1, J, Rx R, N, G)) rfl ?_
      rw [q46]
      refine XP_n 1 (pc' := 21) (ls' := [.ref (99), .int (nI (1)), .int (nI (0)), x3]) (st' := [.int (nI (2)), .int (nI (59))]) (M' := (I1, J, Rx R, N, G)) rfl ?_
      refine XP_icN (x := 59) (y := 2) rfl (by omega) (by omega) (fun (b21 : ¬ 59 = 2) => ?_) (fun (b21 : 59 = 2) => absurd b21 (by omega))
      refine XP_n 2 (pc' := 43) (ls' := [.ref (99), .int (nI (1)), .int (nI (0)), x3]) (st' := [.int (I1 99 46)]) (M' := (I1, J, Rx R, N, G)) rfl ?_
      rw [q46]
      refine XP_n 1 (pc' := 44) (ls' := [.ref (99), .int (nI (1)), .int (nI (0)), x3]) (st' := [.int (nI (6)), .int (nI (59))]) (M' := (I1, J, Rx R, N, G)) rfl ?_
      refine XP_icN (x := 59) (y := 6) rfl (by omega) (by omega) (fun (b44 : ¬ 59 = 6) => ?_) (fun (b44 : 59 = 6) => absurd b44 (by omega))
      refine XP_n 2 (pc' := 55) (ls' := [.ref (99), .int (nI (1)), .int (nI (0)), x3]) (st' := [.int (I1 99 46)]) (M' := (I1, J, Rx R, N, G)) rfl ?_
      rw [q46]
      refine XP_n 1 (pc' := 56) (ls' := [.ref (99), .int (nI (1)), .int (nI (0)), x3]) (st' := [.int (nI (45)), .int (nI (59))]) (M' := (I1, J, Rx R, N, G)) rfl ?_
      refine XP_icN (x := 59) (y := 45) rfl (by omega) (by omega) (fun (b56 : ¬ 59 = 45) => ?_) (fun (b56 : 59 = 45) => absurd b56 (by omega))
      refine XP_n 2 (pc' := 68) (ls' := [.ref (99), .int (nI (1)), .int (nI (0)), x3]) (st' := [.int (I1 99 46)]) (M' := (I1, J, Rx R, N, G)) rfl ?_
      rw [q46]
      refine XP_n 1 (pc' := 69) (ls' := [.ref (99), .int (nI (1)), .int (nI (0)), x3]) (st' := [.int (nI (40)), .int (nI (59))]) (M' := (I1, J, Rx R, N, G)) rfl ?_
      refine XP_icN (x := 59) (y := 40) rfl (by omega) (by omega) (fun (b69 : ¬ 59 = 40) => ?_) (fun (b69 : 59 = 40) => absurd b69 (by omega))
      refine XP_n 1 (pc' := 80) (ls' := [.ref (99), .int (nI (1)), .int (nI (0)), x3]) (st' := [.int (nI (0))]) (M' := (I1, J, Rx R, N, G)) rfl ?_
      exact XP_ret rfl (kEnd I1 0 (by show stpW b L h u false p = _; unfold stpW; rw [if_neg g1, if_neg g2, if_neg (fun z => by cases z.2), if_neg (by omega), if_neg (by omega)]) (by omega) ⟨fun z => absurd z (by omega), fun z => by cases z.1⟩ hM1.o hF1 hC.2.2.1 hC.2.1)
    · have q46 : I1 99 46 = nI 43 := h46.trans (by rw [gg]; rfl)
      refine XP_n 1 (pc' := 13) (ls' := [.ref (99), .int (nI (1)), .int (nI (0)), x3]) (st' := [.int (nI (1))]) (M' := (I1, J, Rx R, N, G)) rfl ?_
      refine XP_ifN (x := 1)  rfl (by omega) (fun (b13 : 1 = 0) => absurd b13 (by omega)) (fun (b13 : ¬ 1 = 0) => ?_)
      refine XP_n 2 (pc' := 16) (ls' := [.ref (99), .int (nI (1)), .int (nI (0)), x3]) (st' := [.int (I1 99 46)]) (M' := (I1, J, Rx R, N, G)) rfl ?_
      rw [q46]
      refine XP_n 1 (pc' := 17) (ls' := [.ref (99), .int (nI (1)), .int (nI (0)), x3]) (st' := [.int (nI (1)), .int (nI (43))]) (M' := (I1, J, Rx R, N, G)) rfl ?_
      refine XP_icN (x := 43) (y := 1) rfl (by omega) (by omega) (fun (b17 : 43 = 1) => absurd b17 (by omega)) (fun (b17 : ¬ 43 = 1) => ?_)
      refine XP_n 2 (pc' := 20) (ls' := [.ref (99), .int (nI (1)), .int (nI (0)), x3]) (st' := [.int (I1 99 46)]) (M' := (I1, J, Rx R, N, G)) rfl ?_
      rw [q46]
      refine XP_n 1 (pc' := 21) (ls' := [.ref (99), .int (nI (1)), .int (nI (0)), x3]) (st' := [.int (nI (2)), .int (nI (43))]) (M' := (I1, J, Rx R, N, G)) rfl ?_
      refine XP_icN (x := 43) (y := 2) rfl (by omega) (by omega) (fun (b21 : ¬ 43 = 2) => ?_) (fun (b21 : 43 = 2) => absurd b21 (by omega))
      refine XP_n 2 (pc' := 43) (ls' := [.ref (99), .int (nI (1)), .int (nI (0)), x3]) (st' := [.int (I1 99 46)]) (M' := (I1, J, Rx R, N, G)) rfl ?_
      rw [q46]
      refine XP_n 1 (pc' := 44) (ls' := [.ref (99), .int (nI (1)), .int (nI (0)), x3]) (st' := [.int (nI (6)), .int (nI (43))]) (M' := (I1, J, Rx R, N, G)) rfl ?_
      refine XP_icN (x := 43) (y := 6) rfl (by omega) (by omega) (fun (b44 : ¬ 43 = 6) => ?_) (fun (b44 : 43 = 6) => absurd b44 (by omega))
      refine XP_n 2 (pc' := 55) (ls' := [.ref (99), .int (nI (1)), .int (nI (0)), x3]) (st' := [.int (I1 99 46)]) (M' := (I1, J, Rx R, N, G)) rfl ?_
      rw [q46]
      refine XP_n 1 (pc' := 56) (ls' := [.ref (99), .int (nI (1)), .int (nI (0)), x3]) (st' := [.int (nI (45)), .int (nI (43))]) (M' := (I1, J, Rx R, N, G)) rfl ?_
      refine XP_icN (x := 43) (y := 45) rfl (by omega) (by omega) (fun (b56 : ¬ 43 = 45) => ?_) (fun (b56 : 43 = 45) => absurd b56 (by omega))
      refine XP_n 2 (pc' := 68) (ls' := [.ref (99), .int (nI (1)), .int (nI (0)), x3]) (st' := [.int (I1 99 46)]) (M' := (I1, J, Rx R, N, G)) rfl ?_
      rw [q46]
      refine XP_n 1 (pc' := 69) (ls' := [.ref (99), .int (nI (1)), .int (nI (0)), x3]) (st' := [.int (nI (40)), .int (nI (43))]) (M' := (I1, J, Rx R, N, G)) rfl ?_
      refine XP_icN (x := 43) (y := 40) rfl (by omega) (by omega) (fun (b69 : ¬ 43 = 40) => ?_) (fun (b69 : 43 = 40) => absurd b69 (by omega))
      refine XP_n 1 (pc' := 80) (ls' := [.ref (99), .int (nI (1)), .int (nI (0)), x3]) (st' := [.int (nI (0))]) (M' := (I1, J, Rx R, N, G)) rfl ?_
      exact XP_ret rfl (kEnd I1 0 (by show stpW b L h u false p = _; unfold stpW; rw [if_neg g1, if_neg g2, if_neg (fun z => by cases z.2), if_neg (by omega), if_neg (by omega)]) (by omega) ⟨fun z => absurd z (by omega), fun z => by cases z.1⟩ hM1.o hF1 hC.2.2.1 hC.2.1)
    · have q46 : I1 99 46 = nI 42 := h46.trans (by rw [gg]; rfl)
      refine XP_n 1 (pc' := 13) (ls' := [.ref (99), .int (nI (1)), .int (nI (0)), x3]) (st' := [.int (nI (1))]) (M' := (I1, J, Rx R, N, G)) rfl ?_
      refine XP_ifN (x := 1)  rfl (by omega) (fun (b13 : 1 = 0) => absurd b13 (by omega)) (fun (b13 : ¬ 1 = 0) => ?_)
      refine XP_n 2 (pc' := 16) (ls' := [.ref (99), .int (nI (1)), .int (nI (0)), x3]) (st' := [.int (I1 99 46)]) (M' := (I1, J, Rx R, N, G)) rfl ?_
      rw [q46]
      refine XP_n 1 (pc' := 17) (ls' := [.ref (99), .int (nI (1)), .int (nI (0)), x3]) (st' := [.int (nI (1)), .int (nI (42))]) (M' := (I1, J, Rx R, N, G)) rfl ?_
      refine XP_icN (x := 42) (y := 1) rfl (by omega) (by omega) (fun (b17 : 42 = 1) => absurd b17 (by omega)) (fun (b17 : ¬ 42 = 1) => ?_)
      refine XP_n 2 (pc' := 20) (ls' := [.ref (99), .int (nI (1)), .int (nI (0)), x3]) (st' := [.int (I1 99 46)]) (M' := (I1, J, Rx R, N, G)) rfl ?_
      rw [q46]
      refine XP_n 1 (pc' := 21) (ls' := [.ref (99), .int (nI (1)), .int (nI (0)), x3]) (st' := [.int (nI (2)), .int (nI (42))]) (M' := (I1, J, Rx R, N, G)) rfl ?_
      refine XP_icN (x := 42) (y := 2) rfl (by omega) (by omega) (fun (b21 : ¬ 42 = 2) => ?_) (fun (b21 : 42 = 2) => absurd b21 (by omega))
      refine XP_n 2 (pc' := 43) (ls' := [.ref (99), .int (nI (1)), .int (nI (0)), x3]) (st' := [.int (I1 99 46)]) (M' := (I1, J, Rx R, N, G)) rfl ?_
      rw [q46]
      refine XP_n 1 (pc' := 44) (ls' := [.ref (99), .int (nI (1)), .int (nI (0)), x3]) (st' := [.int (nI (6)), .int (nI (42))]) (M' := (I1, J, Rx R, N, G)) rfl ?_
      refine XP_icN (x := 42) (y := 6) rfl (by omega) (by omega) (fun (b44 : ¬ 42 = 6) => ?_) (fun (b44 : 42 = 6) => absurd b44 (by omega))
      refine XP_n 2 (pc' := 55) (ls' := [.ref (99), .int (nI (1)), .int (nI (0)), x3]) (st' := [.int (I1 99 46)]) (M' := (I1, J, Rx R, N, G)) rfl ?_
      rw [q46]
      refine XP_n 1 (pc' := 56) (ls' := [.ref (99), .int (nI (1)), .int (nI (0)), x3]) (st' := [.int (nI (45)), .int (nI (42))]) (M' := (I1, J, Rx R, N, G)) rfl ?_
      refine XP_icN (x := 42) (y := 45) rfl (by omega) (by omega) (fun (b56 : ¬ 42 = 45) => ?_) (fun (b56 : 42 = 45) => absurd b56 (by omega))
      refine XP_n 2 (pc' := 68) (ls' := [.ref (99), .int (nI (1)), .int (nI (0)), x3]) (st' := [.int (I1 99 46)]) (M' := (I1, J, Rx R, N, G)) rfl ?_
      rw [q46]
      refine XP_n 1 (pc' := 69) (ls' := [.ref (99), .int (nI (1)), .int (nI (0)), x3]) (st' := [.int (nI (40)), .int (nI (42))]) (M' := (I1, J, Rx R, N, G)) rfl ?_
      refine XP_icN (x := 42) (y := 40) rfl (by omega) (by omega) (fun (b69 : ¬ 42 = 40) => ?_) (fun (b69 : 42 = 40) => absurd b69 (by omega))
      refine XP_n 1 (pc' := 80) (ls' := [.ref (99), .int (nI (1)), .int (nI (0)), x3]) (st' := [.int (nI (0))]) (M' := (I1, J, Rx R, N, G)) rfl ?_
      exact XP_ret rfl (kEnd I1 0 (by show stpW b L h u false p = _; unfold stpW; rw [if_neg g1, if_neg g2, if_neg (fun z => by cases z.2), if_neg (by omega), if_neg (by omega)]) (by omega) ⟨fun z => absurd z (by omega), fun z => by cases z.1⟩ hM1.o hF1 hC.2.2.1 hC.2.1)
    · have q46 : I1 99 46 = nI 60 := h46.trans (by rw [gg]; rfl)
      refine XP_n 1 (pc' := 13) (ls' := [.ref (99), .int (nI (1)), .int (nI (0)), x3]) (st' := [.int (nI (1))]) (M' := (I1, J, Rx R, N, G)) rfl ?_
      refine XP_ifN (x := 1)  rfl (by omega) (fun (b13 : 1 = 0) => absurd b13 (by omega)) (fun (b13 : ¬ 1 = 0) => ?_)
      refine XP_n 2 (pc' := 16) (ls' := [.ref (99), .int (nI (1)), .int (nI (0)), x3]) (st' := [.int (I1 99 46)]) (M' := (I1, J, Rx R, N, G)) rfl ?_
      rw [q46]
      refine XP_n 1 (pc' := 17) (ls' := [.ref (99), .int (nI (1)), .int (nI (0)), x3]) (st' := [.int (nI (1)), .int (nI (60))]) (M' := (I1, J, Rx R, N, G)) rfl ?_
      refine XP_icN (x := 60) (y := 1) rfl (by omega) (by omega) (fun (b17 : 60 = 1) => absurd b17 (by omega)) (fun (b17 : ¬ 60 = 1) => ?_)
      refine XP_n 2 (pc' := 20) (ls' := [.ref (99), .int (nI (1)), .int (nI (0)), x3]) (st' := [.int (I1 99 46)]) (M' := (I1, J, Rx R, N, G)) rfl ?_
      rw [q46]
      refine XP_n 1 (pc' := 21) (ls' := [.ref (99), .int (nI (1)), .int (nI (0)), x3]) (st' := [.int (nI (2)), .int (nI (60))]) (M' := (I1, J, Rx R, N, G)) rfl ?_
      refine XP_icN (x := 60) (y := 2) rfl (by omega) (by omega) (fun (b21 : ¬ 60 = 2) => ?_) (fun (b21 : 60 = 2) => absurd b21 (by omega))
      refine XP_n 2 (pc' := 43) (ls' := [.ref (99), .int (nI (1)), .int (nI (0)), x3]) (st' := [.int (I1 99 46)]) (M' := (I1, J, Rx R, N, G)) rfl ?_
      rw [q46]
      refine XP_n 1 (pc' := 44) (ls' := [.ref (99), .int (nI (1)), .int (nI (0)), x3]) (st' := [.int (nI (6)), .int (nI (60))]) (M' := (I1, J, Rx R, N, G)) rfl ?_
      refine XP_icN (x := 60) (y := 6) rfl (by omega) (by omega) (fun (b44 : ¬ 60 = 6) => ?_) (fun (b44 : 60 = 6) => absurd b44 (by omega))
      refine XP_n 2 (pc' := 55) (ls' := [.ref (99), .int (nI (1)), .int (nI (0)), x3]) (st' := [.int (I1 99 46)]) (M' := (I1, J, Rx R, N, G)) rfl ?_
      rw [q46]
      refine XP_n 1 (pc' := 56) (ls' := [.ref (99), .int (nI (1)), .int (nI (0)), x3]) (st' := [.int (nI (45)), .int (nI (60))]) (M' := (I1, J, Rx R, N, G)) rfl ?_
      refine XP_icN (x := 60) (y := 45) rfl (by omega) (by omega) (fun (b56 : ¬ 60 = 45) => ?_) (fun (b56 : 60 = 45) => absurd b56 (by omega))
      refine XP_n 2 (pc' := 68) (ls' := [.ref (99), .int (nI (1)), .int (nI (0)), x3]) (st' := [.int (I1 99 46)]) (M' := (I1, J, Rx R, N, G)) rfl ?_
      rw [q46]
      refine XP_n 1 (pc' := 69) (ls' := [.ref (99), .int (nI (1)), .int (nI (0)), x3]) (st' := [.int (nI (40)), .int (nI (60))]) (M' := (I1, J, Rx R, N, G)) rfl ?_
      refine XP_icN (x := 60) (y := 40) rfl (by omega) (by omega) (fun (b69 : ¬ 60 = 40) => ?_) (fun (b69 : 60 = 40) => absurd b69 (by omega))
      refine XP_n 1 (pc' := 80) (ls' := [.ref (99), .int (nI (1)), .int (nI (0)), x3]) (st' := [.int (nI (0))]) (M' := (I1, J, Rx R, N, G)) rfl ?_
      exact XP_ret rfl (kEnd I1 0 (by show stpW b L h u false p = _; unfold stpW; rw [if_neg g1, if_neg g2, if_neg (fun z => by cases z.2), if_neg (by omega), if_neg (by omega)]) (by omega) ⟨fun z => absurd z (by omega), fun z => by cases z.1⟩ hM1.o hF1 hC.2.2.1 hC.2.1)
    · have q46 : I1 99 46 = nI 61 := h46.trans (by rw [gg]; rfl)
      refine XP_n 1 (pc' := 13) (ls' := [.ref (99), .int (nI (1)), .int (nI (0)), x3]) (st' := [.int (nI (1))]) (M' := (I1, J, Rx R, N, G)) rfl ?_
      refine XP_ifN (x := 1)  rfl (by omega) (fun (b13 : 1 = 0) => absurd b13 (by omega)) (fun (b13 : ¬ 1 = 0) => ?_)
      refine XP_n 2 (pc' := 16) (ls' := [.ref (99), .int (nI (1)), .int (nI (0)), x3]) (st' := [.int (I1 99 46)]) (M' := (I1, J, Rx R, N, G)) rfl ?_
      rw [q46]
      refine XP_n 1 (pc' := 17) (ls' := [.ref (99), .int (nI (1)), .int (nI (0)), x3]) (st' := [.int (nI (1)), .int (nI (61))]) (M' := (I1, J, Rx R, N, G)) rfl ?_
      refine XP_icN (x := 61) (y := 1) rfl (by omega) (by omega) (fun (b17 : 61 = 1) => absurd b17 (by omega)) (fun (b17 : ¬ 61 = 1) => ?_)
      refine XP_n 2 (pc' := 20) (ls' := [.ref (99), .int (nI (1)), .int (nI (0)), x3]) (st' := [.int (I1 99 46)]) (M' := (I1, J, Rx R, N, G)) rfl ?_
      rw [q46]
      refine XP_n 1 (pc' := 21) (ls' := [.ref (99), .int (nI (1)), .int (nI (0)), x3]) (st' := [.int (nI (2)), .int (nI (61))]) (M' := (I1, J, Rx R, N, G)) rfl ?_
      refine XP_icN (x := 61) (y := 2) rfl (by omega) (by omega) (fun (b21 : ¬ 61 = 2) => ?_) (fun (b21 : 61 = 2) => absurd b21 (by omega))
      refine XP_n 2 (pc' := 43) (ls' := [.ref (99), .int (nI (1)), .int (nI (0)), x3]) (st' := [.int (I1 99 46)]) (M' := (I1, J, Rx R, N, G)) rfl ?_
      rw [q46]
      refine XP_n 1 (pc' := 44) (ls' := [.ref (99), .int (nI (1)), .int (nI (0)), x3]) (st' := [.int (nI (6)), .int (nI (61))]) (M' := (I1, J, Rx R, N, G)) rfl ?_
      refine XP_icN (x := 61) (y := 6) rfl (by omega) (by omega) (fun (b44 : ¬ 61 = 6) => ?_) (fun (b44 : 61 = 6) => absurd b44 (by omega))
      refine XP_n 2 (pc' := 55) (ls' := [.ref (99), .int (nI (1)), .int (nI (0)), x3]) (st' := [.int (I1 99 46)]) (M' := (I1, J, Rx R, N, G)) rfl ?_
      rw [q46]
      refine XP_n 1 (pc' := 56) (ls' := [.ref (99), .int (nI (1)), .int (nI (0)), x3]) (st' := [.int (nI (45)), .int (nI (61))]) (M' := (I1, J, Rx R, N, G)) rfl ?_
      refine XP_icN (x := 61) (y := 45) rfl (by omega) (by omega) (fun (b56 : ¬ 61 = 45) => ?_) (fun (b56 : 61 = 45) => absurd b56 (by omega))
      refine XP_n 2 (pc' := 68) (ls' := [.ref (99), .int (nI (1)), .int (nI (0)), x3]) (st' := [.int (I1 99 46)]) (M' := (I1, J, Rx R, N, G)) rfl ?_
      rw [q46]
      refine XP_n 1 (pc' := 69) (ls' := [.ref (99), .int (nI (1)), .int (nI (0)), x3]) (st' := [.int (nI (40)), .int (nI (61))]) (M' := (I1, J, Rx R, N, G)) rfl ?_
      refine XP_icN (x := 61) (y := 40) rfl (by omega) (by omega) (fun (b69 : ¬ 61 = 40) => ?_) (fun (b69 : 61 = 40) => absurd b69 (by omega))
      refine XP_n 1 (pc' := 80) (ls' := [.ref (99), .int (nI (1)), .int (nI (0)), x3]) (st' := [.int (nI (0))]) (M' := (I1, J, Rx R, N, G)) rfl ?_
      exact XP_ret rfl (kEnd I1 0 (by show stpW b L h u false p = _; unfold stpW; rw [if_neg g1, if_neg g2, if_neg (fun z => by cases z.2), if_neg (by omega), if_neg (by omega)]) (by omega) ⟨fun z => absurd z (by omega), fun z => by cases z.1⟩ hM1.o hF1 hC.2.2.1 hC.2.1)
    · have q46 : I1 99 46 = nI 4 := h46.trans (by rw [gg]; rfl)
      refine XP_n 1 (pc' := 13) (ls' := [.ref (99), .int (nI (1)), .int (nI (0)), x3]) (st' := [.int (nI (1))]) (M' := (I1, J, Rx R, N, G)) rfl ?_
      refine XP_ifN (x := 1)  rfl (by omega) (fun (b13 : 1 = 0) => absurd b13 (by omega)) (fun (b13 : ¬ 1 = 0) => ?_)
      refine XP_n 2 (pc' := 16) (ls' := [.ref (99), .int (nI (1)), .int (nI (0)), x3]) (st' := [.int (I1 99 46)]) (M' := (I1, J, Rx R, N, G)) rfl ?_
      rw [q46]
      refine XP_n 1 (pc' := 17) (ls' := [.ref (99), .int (nI (1)), .int (nI (0)), x3]) (st' := [.int (nI (1)), .int (nI (4))]) (M' := (I1, J, Rx R, N, G)) rfl ?_
      refine XP_icN (x := 4) (y := 1) rfl (by omega) (by omega) (fun (b17 : 4 = 1) => absurd b17 (by omega)) (fun (b17 : ¬ 4 = 1) => ?_)
      refine XP_n 2 (pc' := 20) (ls' := [.ref (99), .int (nI (1)), .int (nI (0)), x3]) (st' := [.int (I1 99 46)]) (M' := (I1, J, Rx R, N, G)) rfl ?_
      rw [q46]
      refine XP_n 1 (pc' := 21) (ls' := [.ref (99), .int (nI (1)), .int (nI (0)), x3]) (st' := [.int (nI (2)), .int (nI (4))]) (M' := (I1, J, Rx R, N, G)) rfl ?_
      refine XP_icN (x := 4) (y := 2) rfl (by omega) (by omega) (fun (b21 : ¬ 4 = 2) => ?_) (fun (b21 : 4 = 2) => absurd b21 (by omega))
      refine XP_n 2 (pc' := 43) (ls' := [.ref (99), .int (nI (1)), .int (nI (0)), x3]) (st' := [.int (I1 99 46)]) (M' := (I1, J, Rx R, N, G)) rfl ?_
      rw [q46]
      refine XP_n 1 (pc' := 44) (ls' := [.ref (99), .int (nI (1)), .int (nI (0)), x3]) (st' := [.int (nI (6)), .int (nI (4))]) (M' := (I1, J, Rx R, N, G)) rfl ?_
      refine XP_icN (x := 4) (y := 6) rfl (by omega) (by omega) (fun (b44 : ¬ 4 = 6) => ?_) (fun (b44 : 4 = 6) => absurd b44 (by omega))
      refine XP_n 2 (pc' := 55) (ls' := [.ref (99), .int (nI (1)), .int (nI (0)), x3]) (st' := [.int (I1 99 46)]) (M' := (I1, J, Rx R, N, G)) rfl ?_
      rw [q46]
      refine XP_n 1 (pc' := 56) (ls' := [.ref (99), .int (nI (1)), .int (nI (0)), x3]) (st' := [.int (nI (45)), .int (nI (4))]) (M' := (I1, J, Rx R, N, G)) rfl ?_
      refine XP_icN (x := 4) (y := 45) rfl (by omega) (by omega) (fun (b56 : ¬ 4 = 45) => ?_) (fun (b56 : 4 = 45) => absurd b56 (by omega))
      refine XP_n 2 (pc' := 68) (ls' := [.ref (99), .int (nI (1)), .int (nI (0)), x3]) (st' := [.int (I1 99 46)]) (M' := (I1, J, Rx R, N, G)) rfl ?_
      rw [q46]
      refine XP_n 1 (pc' := 69) (ls' := [.ref (99), .int (nI (1)), .int (nI (0)), x3]) (st' := [.int (nI (40)), .int (nI (4))]) (M' := (I1, J, Rx R, N, G)) rfl ?_
      refine XP_icN (x := 4) (y := 40) rfl (by omega) (by omega) (fun (b69 : ¬ 4 = 40) => ?_) (fun (b69 : 4 = 40) => absurd b69 (by omega))
      refine XP_n 1 (pc' := 80) (ls' := [.ref (99), .int (nI (1)), .int (nI (0)), x3]) (st' := [.int (nI (0))]) (M' := (I1, J, Rx R, N, G)) rfl ?_
      exact XP_ret rfl (kEnd I1 0 (by show stpW b L h u false p = _; unfold stpW; rw [if_neg g1, if_neg g2, if_neg (fun z => by cases z.2), if_neg (by omega), if_neg (by omega)]) (by omega) ⟨fun z => absurd z (by omega), fun z => by cases z.1⟩ hM1.o hF1 hC.2.2.1 hC.2.1)
    · have q46 : I1 99 46 = nI 5 := h46.trans (by rw [gg]; rfl)
      refine XP_n 1 (pc' := 13) (ls' := [.ref (99), .int (nI (1)), .int (nI (0)), x3]) (st' := [.int (nI (1))]) (M' := (I1, J, Rx R, N, G)) rfl ?_
      refine XP_ifN (x := 1)  rfl (by omega) (fun (b13 : 1 = 0) => absurd b13 (by omega)) (fun (b13 : ¬ 1 = 0) => ?_)
      refine XP_n 2 (pc' := 16) (ls' := [.ref (99), .int (nI (1)), .int (nI (0)), x3]) (st' := [.int (I1 99 46)]) (M' := (I1, J, Rx R, N, G)) rfl ?_
      rw [q46]
      refine XP_n 1 (pc' := 17) (ls' := [.ref (99), .int (nI (1)), .int (nI (0)), x3]) (st' := [.int (nI (1)), .int (nI (5))]) (M' := (I1, J, Rx R, N, G)) rfl ?_
      refine XP_icN (x := 5) (y := 1) rfl (by omega) (by omega) (fun (b17 : 5 = 1) => absurd b17 (by omega)) (fun (b17 : ¬ 5 = 1) => ?_)
      refine XP_n 2 (pc' := 20) (ls' := [.ref (99), .int (nI (1)), .int (nI (0)), x3]) (st' := [.int (I1 99 46)]) (M' := (I1, J, Rx R, N, G)) rfl ?_
      rw [q46]
      refine XP_n 1 (pc' := 21) (ls' := [.ref (99), .int (nI (1)), .int (nI (0)), x3]) (st' := [.int (nI (2)), .int (nI (5))]) (M' := (I1, J, Rx R, N, G)) rfl ?_
      refine XP_icN (x := 5) (y := 2) rfl (by omega) (by omega) (fun (b21 : ¬ 5 = 2) => ?_) (fun (b21 : 5 = 2) => absurd b21 (by omega))
      refine XP_n 2 (pc' := 43) (ls' := [.ref (99), .int (nI (1)), .int (nI (0)), x3]) (st' := [.int (I1 99 46)]) (M' := (I1, J, Rx R, N, G)) rfl ?_
      rw [q46]
      refine XP_n 1 (pc' := 44) (ls' := [.ref (99), .int (nI (1)), .int (nI (0)), x3]) (st' := [.int (nI (6)), .int (nI (5))]) (M' := (I1, J, Rx R, N, G)) rfl ?_
      refine XP_icN (x := 5) (y := 6) rfl (by omega) (by omega) (fun (b44 : ¬ 5 = 6) => ?_) (fun (b44 : 5 = 6) => absurd b44 (by omega))
      refine XP_n 2 (pc' := 55) (ls' := [.ref (99), .int (nI (1)), .int (nI (0)), x3]) (st' := [.int (I1 99 46)]) (M' := (I1, J, Rx R, N, G)) rfl ?_
      rw [q46]
      refine XP_n 1 (pc' := 56) (ls' := [.ref (99), .int (nI (1)), .int (nI (0)), x3]) (st' := [.int (nI (45)), .int (nI (5))]) (M' := (I1, J, Rx R, N, G)) rfl ?_
      refine XP_icN (x := 5) (y := 45) rfl (by omega) (by omega) (fun (b56 : ¬ 5 = 45) => ?_) (fun (b56 : 5 = 45) => absurd b56 (by omega))
      refine XP_n 2 (pc' := 68) (ls' := [.ref (99), .int (nI (1)), .int (nI (0)), x3]) (st' := [.int (I1 99 46)]) (M' := (I1, J, Rx R, N, G)) rfl ?_
      rw [q46]
      refine XP_n 1 (pc' := 69) (ls' := [.ref (99), .int (nI (1)), .int (nI (0)), x3]) (st' := [.int (nI (40)), .int (nI (5))]) (M' := (I1, J, Rx R, N, G)) rfl ?_
      refine XP_icN (x := 5) (y := 40) rfl (by omega) (by omega) (fun (b69 : ¬ 5 = 40) => ?_) (fun (b69 : 5 = 40) => absurd b69 (by omega))
      refine XP_n 1 (pc' := 80) (ls' := [.ref (99), .int (nI (1)), .int (nI (0)), x3]) (st' := [.int (nI (0))]) (M' := (I1, J, Rx R, N, G)) rfl ?_
      exact XP_ret rfl (kEnd I1 0 (by show stpW b L h u false p = _; unfold stpW; rw [if_neg g1, if_neg g2, if_neg (fun z => by cases z.2), if_neg (by omega), if_neg (by omega)]) (by omega) ⟨fun z => absurd z (by omega), fun z => by cases z.1⟩ hM1.o hF1 hC.2.2.1 hC.2.1)
    · have q46 : I1 99 46 = nI 0 := h46.trans (by rw [gg]; rfl)
      refine XP_n 1 (pc' := 13) (ls' := [.ref (99), .int (nI (1)), .int (nI (0)), x3]) (st' := [.int (nI (1))]) (M' := (I1, J, Rx R, N, G)) rfl ?_
      refine XP_ifN (x := 1)  rfl (by omega) (fun (b13 : 1 = 0) => absurd b13 (by omega)) (fun (b13 : ¬ 1 = 0) => ?_)
      refine XP_n 2 (pc' := 16) (ls' := [.ref (99), .int (nI (1)), .int (nI (0)), x3]) (st' := [.int (I1 99 46)]) (M' := (I1, J, Rx R, N, G)) rfl ?_
      rw [q46]
      refine XP_n 1 (pc' := 17) (ls' := [.ref (99), .int (nI (1)), .int (nI (0)), x3]) (st' := [.int (nI (1)), .int (nI (0))]) (M' := (I1, J, Rx R, N, G)) rfl ?_
      refine XP_icN (x := 0) (y := 1) rfl (by omega) (by omega) (fun (b17 : 0 = 1) => absurd b17 (by omega)) (fun (b17 : ¬ 0 = 1) => ?_)
      refine XP_n 2 (pc' := 20) (ls' := [.ref (99), .int (nI (1)), .int (nI (0)), x3]) (st' := [.int (I1 99 46)]) (M' := (I1, J, Rx R, N, G)) rfl ?_
      rw [q46]
      refine XP_n 1 (pc' := 21) (ls' := [.ref (99), .int (nI (1)), .int (nI (0)), x3]) (st' := [.int (nI (2)), .int (nI (0))]) (M' := (I1, J, Rx R, N, G)) rfl ?_
      refine XP_icN (x := 0) (y := 2) rfl (by omega) (by omega) (fun (b21 : ¬ 0 = 2) => ?_) (fun (b21 : 0 = 2) => absurd b21 (by omega))
      refine XP_n 2 (pc' := 43) (ls' := [.ref (99), .int (nI (1)), .int (nI (0)), x3]) (st' := [.int (I1 99 46)]) (M' := (I1, J, Rx R, N, G)) rfl ?_
      rw [q46]
      refine XP_n 1 (pc' := 44) (ls' := [.ref (99), .int (nI (1)), .int (nI (0)), x3]) (st' := [.int (nI (6)), .int (nI (0))]) (M' := (I1, J, Rx R, N, G)) rfl ?_
      refine XP_icN (x := 0) (y := 6) rfl (by omega) (by omega) (fun (b44 : ¬ 0 = 6) => ?_) (fun (b44 : 0 = 6) => absurd b44 (by omega))
      refine XP_n 2 (pc' := 55) (ls' := [.ref (99), .int (nI (1)), .int (nI (0)), x3]) (st' := [.int (I1 99 46)]) (M' := (I1, J, Rx R, N, G)) rfl ?_
      rw [q46]
      refine XP_n 1 (pc' := 56) (ls' := [.ref (99), .int (nI (1)), .int (nI (0)), x3]) (st' := [.int (nI (45)), .int (nI (0))]) (M' := (I1, J, Rx R, N, G)) rfl ?_
      refine XP_icN (x := 0) (y := 45) rfl (by omega) (by omega) (fun (b56 : ¬ 0 = 45) => ?_) (fun (b56 : 0 = 45) => absurd b56 (by omega))
      refine XP_n 2 (pc' := 68) (ls' := [.ref (99), .int (nI (1)), .int (nI (0)), x3]) (st' := [.int (I1 99 46)]) (M' := (I1, J, Rx R, N, G)) rfl ?_
      rw [q46]
      refine XP_n 1 (pc' := 69) (ls' := [.ref (99), .int (nI (1)), .int (nI (0)), x3]) (st' := [.int (nI (40)), .int (nI (0))]) (M' := (I1, J, Rx R, N, G)) rfl ?_
      refine XP_icN (x := 0) (y := 40) rfl (by omega) (by omega) (fun (b69 : ¬ 0 = 40) => ?_) (fun (b69 : 0 = 40) => absurd b69 (by omega))
      refine XP_n 1 (pc' := 80) (ls' := [.ref (99), .int (nI (1)), .int (nI (0)), x3]) (st' := [.int (nI (0))]) (M' := (I1, J, Rx R, N, G)) rfl ?_
      exact XP_ret rfl (kEnd I1 0 (by show stpW b L h u false p = _; unfold stpW; rw [if_neg g1, if_neg g2, if_neg (fun z => by cases z.2), if_neg (by omega), if_neg (by omega)]) (by omega) ⟨fun z => absurd z (by omega), fun z => by cases z.1⟩ hM1.o hF1 hC.2.2.1 hC.2.1)
    · have q46 : I1 99 46 = cI (-1) := h46.trans (by rw [gg]; rfl)
      refine XP_n 1 (pc' := 13) (ls' := [.ref (99), .int (nI (1)), .int (nI (0)), x3]) (st' := [.int (nI (1))]) (M' := (I1, J, Rx R, N, G)) rfl ?_
      refine XP_ifN (x := 1)  rfl (by omega) (fun (b13 : 1 = 0) => absurd b13 (by omega)) (fun (b13 : ¬ 1 = 0) => ?_)
      refine XP_n 2 (pc' := 16) (ls' := [.ref (99), .int (nI (1)), .int (nI (0)), x3]) (st' := [.int (I1 99 46)]) (M' := (I1, J, Rx R, N, G)) rfl ?_
      rw [q46]
      refine XP_n 1 (pc' := 17) (ls' := [.ref (99), .int (nI (1)), .int (nI (0)), x3]) (st' := [.int (nI (1)), .int (cI (-1))]) (M' := (I1, J, Rx R, N, G)) rfl ?_
      refine XP_icD rfl (fun (b17 : cI (-1) = nI (1)) => absurd b17 (by decide)) (fun (b17 : ¬ cI (-1) = nI (1)) => ?_)
      refine XP_n 2 (pc' := 20) (ls' := [.ref (99), .int (nI (1)), .int (nI (0)), x3]) (st' := [.int (I1 99 46)]) (M' := (I1, J, Rx R, N, G)) rfl ?_
      rw [q46]
      refine XP_n 1 (pc' := 21) (ls' := [.ref (99), .int (nI (1)), .int (nI (0)), x3]) (st' := [.int (nI (2)), .int (cI (-1))]) (M' := (I1, J, Rx R, N, G)) rfl ?_
      refine XP_icD rfl (fun (b21 : ¬ cI (-1) = nI (2)) => ?_) (fun (b21 : cI (-1) = nI (2)) => absurd b21 (by decide))
      refine XP_n 2 (pc' := 43) (ls' := [.ref (99), .int (nI (1)), .int (nI (0)), x3]) (st' := [.int (I1 99 46)]) (M' := (I1, J, Rx R, N, G)) rfl ?_
      rw [q46]
      refine XP_n 1 (pc' := 44) (ls' := [.ref (99), .int (nI (1)), .int (nI (0)), x3]) (st' := [.int (nI (6)), .int (cI (-1))]) (M' := (I1, J, Rx R, N, G)) rfl ?_
      refine XP_icD rfl (fun (b44 : ¬ cI (-1) = nI (6)) => ?_) (fun (b44 : cI (-1) = nI (6)) => absurd b44 (by decide))
      refine XP_n 2 (pc' := 55) (ls' := [.ref (99), .int (nI (1)), .int (nI (0)), x3]) (st' := [.int (I1 99 46)]) (M' := (I1, J, Rx R, N, G)) rfl ?_
      rw [q46]
      refine XP_n 1 (pc' := 56) (ls' := [.ref (99), .int (nI (1)), .int (nI (0)), x3]) (st' := [.int (nI (45)), .int (cI (-1))]) (M' := (I1, J, Rx R, N, G)) rfl ?_
      refine XP_icD rfl (fun (b56 : ¬ cI (-1) = nI (45)) => ?_) (fun (b56 : cI (-1) = nI (45)) => absurd b56 (by decide))
      refine XP_n 2 (pc' := 68) (ls' := [.ref (99), .int (nI (1)), .int (nI (0)), x3]) (st' := [.int (I1 99 46)]) (M' := (I1, J, Rx R, N, G)) rfl ?_
      rw [q46]
      refine XP_n 1 (pc' := 69) (ls' := [.ref (99), .int (nI (1)), .int (nI (0)), x3]) (st' := [.int (nI (40)), .int (cI (-1))]) (M' := (I1, J, Rx R, N, G)) rfl ?_
      refine XP_icD rfl (fun (b69 : ¬ cI (-1) = nI (40)) => ?_) (fun (b69 : cI (-1) = nI (40)) => absurd b69 (by decide))
      refine XP_n 1 (pc' := 80) (ls' := [.ref (99), .int (nI (1)), .int (nI (0)), x3]) (st' := [.int (nI (0))]) (M' := (I1, J, Rx R, N, G)) rfl ?_
      exact XP_ret rfl (kEnd I1 0 (by show stpW b L h u false p = _; unfold stpW; rw [if_neg g1, if_neg g2, if_neg (fun z => by cases z.2), if_neg (by omega), if_neg (by omega)]) (by omega) ⟨fun z => absurd z (by omega), fun z => by cases z.1⟩ hM1.o hF1 hC.2.2.1 hC.2.1)
    · have q46 : I1 99 46 = nI 6 := h46.trans (by rw [gg]; rfl)
      refine XP_n 1 (pc' := 13) (ls' := [.ref (99), .int (nI (1)), .int (nI (0)), x3]) (st' := [.int (nI (1))]) (M' := (I1, J, Rx R, N, G)) rfl ?_
      refine XP_ifN (x := 1)  rfl (by omega) (fun (b13 : 1 = 0) => absurd b13 (by omega)) (fun (b13 : ¬ 1 = 0) => ?_)
      refine XP_n 2 (pc' := 16) (ls' := [.ref (99), .int (nI (1)), .int (nI (0)), x3]) (st' := [.int (I1 99 46)]) (M' := (I1, J, Rx R, N, G)) rfl ?_
      rw [q46]
      refine XP_n 1 (pc' := 17) (ls' := [.ref (99), .int (nI (1)), .int (nI (0)), x3]) (st' := [.int (nI (1)), .int (nI (6))]) (M' := (I1, J, Rx R, N, G)) rfl ?_
      refine XP_icN (x := 6) (y := 1) rfl (by omega) (by omega) (fun (b17 : 6 = 1) => absurd b17 (by omega)) (fun (b17 : ¬ 6 = 1) => ?_)
      refine XP_n 2 (pc' := 20) (ls' := [.ref (99), .int (nI (1)), .int (nI (0)), x3]) (st' := [.int (I1 99 46)]) (M' := (I1, J, Rx R, N, G)) rfl ?_
      rw [q46]
      refine XP_n 1 (pc' := 21) (ls' := [.ref (99), .int (nI (1)), .int (nI (0)), x3]) (st' := [.int (nI (2)), .int (nI (6))]) (M' := (I1, J, Rx R, N, G)) rfl ?_
      refine XP_icN (x := 6) (y := 2) rfl (by omega) (by omega) (fun (b21 : ¬ 6 = 2) => ?_) (fun (b21 : 6 = 2) => absurd b21 (by omega))
      refine XP_n 2 (pc' := 43) (ls' := [.ref (99), .int (nI (1)), .int (nI (0)), x3]) (st' := [.int (I1 99 46)]) (M' := (I1, J, Rx R, N, G)) rfl ?_
      rw [q46]
      refine XP_n 1 (pc' := 44) (ls' := [.ref (99), .int (nI (1)), .int (nI (0)), x3]) (st' := [.int (nI (6)), .int (nI (6))]) (M' := (I1, J, Rx R, N, G)) rfl ?_
      refine XP_icN (x := 6) (y := 6) rfl (by omega) (by omega) (fun (b44 : ¬ 6 = 6) => absurd b44 (by omega)) (fun (b44 : 6 = 6) => ?_)
      refine XP_n 1 (pc' := 46) (ls' := [.ref (99), .int (nI (1)), .int (nI (0)), x3]) (st' := [.int (nI (0))]) (M' := (I1, J, Rx R, N, G)) rfl ?_
      refine XP_ifN (x := 0)  rfl (by omega) (fun (b46 : 0 = 0) => ?_) (fun (b46 : ¬ 0 = 0) => absurd b46 (by omega))
      refine XP_n 2 (pc' := 55) (ls' := [.ref (99), .int (nI (1)), .int (nI (0)), x3]) (st' := [.int (I1 99 46)]) (M' := (I1, J, Rx R, N, G)) rfl ?_
      rw [q46]
      refine XP_n 1 (pc' := 56) (ls' := [.ref (99), .int (nI (1)), .int (nI (0)), x3]) (st' := [.int (nI (45)), .int (nI (6))]) (M' := (I1, J, Rx R, N, G)) rfl ?_
      refine XP_icN (x := 6) (y := 45) rfl (by omega) (by omega) (fun (b56 : ¬ 6 = 45) => ?_) (fun (b56 : 6 = 45) => absurd b56 (by omega))
      refine XP_n 2 (pc' := 68) (ls' := [.ref (99), .int (nI (1)), .int (nI (0)), x3]) (st' := [.int (I1 99 46)]) (M' := (I1, J, Rx R, N, G)) rfl ?_
      rw [q46]
      refine XP_n 1 (pc' := 69) (ls' := [.ref (99), .int (nI (1)), .int (nI (0)), x3]) (st' := [.int (nI (40)), .int (nI (6))]) (M' := (I1, J, Rx R, N, G)) rfl ?_
      refine XP_icN (x := 6) (y := 40) rfl (by omega) (by omega) (fun (b69 : ¬ 6 = 40) => ?_) (fun (b69 : 6 = 40) => absurd b69 (by omega))
      refine XP_n 1 (pc' := 80) (ls' := [.ref (99), .int (nI (1)), .int (nI (0)), x3]) (st' := [.int (nI (0))]) (M' := (I1, J, Rx R, N, G)) rfl ?_
      exact XP_ret rfl (kEnd I1 0 (by show stpW b L h u false p = _; unfold stpW; rw [if_neg g1, if_neg g2, if_neg (fun z => by cases z.2), if_neg (by omega), if_neg (by omega)]) (by omega) ⟨fun z => absurd z (by omega), fun z => by cases z.1⟩ hM1.o hF1 hC.2.2.1 hC.2.1)
    · have q46 : I1 99 46 = nI 3 := by
        rw [h46]
        unfold mT
        repeat (first | rw [if_pos (by omega)] | rw [if_neg (by omega)])
      refine XP_n 1 (pc' := 13) (ls' := [.ref (99), .int (nI (1)), .int (nI (0)), x3]) (st' := [.int (nI (1))]) (M' := (I1, J, Rx R, N, G)) rfl ?_
      refine XP_ifN (x := 1)  rfl (by omega) (fun (b13 : 1 = 0) => absurd b13 (by omega)) (fun (b13 : ¬ 1 = 0) => ?_)
      refine XP_n 2 (pc' := 16) (ls' := [.ref (99), .int (nI (1)), .int (nI (0)), x3]) (st' := [.int (I1 99 46)]) (M' := (I1, J, Rx R, N, G)) rfl ?_
      rw [q46]
      refine XP_n 1 (pc' := 17) (ls' := [.ref (99), .int (nI (1)), .int (nI (0)), x3]) (st' := [.int (nI (1)), .int (nI (3))]) (M' := (I1, J, Rx R, N, G)) rfl ?_
      refine XP_icN (x := 3) (y := 1) rfl (by omega) (by omega) (fun (b17 : 3 = 1) => absurd b17 (by omega)) (fun (b17 : ¬ 3 = 1) => ?_)
      refine XP_n 2 (pc' := 20) (ls' := [.ref (99), .int (nI (1)), .int (nI (0)), x3]) (st' := [.int (I1 99 46)]) (M' := (I1, J, Rx R, N, G)) rfl ?_
      rw [q46]
      refine XP_n 1 (pc' := 21) (ls' := [.ref (99), .int (nI (1)), .int (nI (0)), x3]) (st' := [.int (nI (2)), .int (nI (3))]) (M' := (I1, J, Rx R, N, G)) rfl ?_
      refine XP_icN (x := 3) (y := 2) rfl (by omega) (by omega) (fun (b21 : ¬ 3 = 2) => ?_) (fun (b21 : 3 = 2) => absurd b21 (by omega))
      refine XP_n 2 (pc' := 43) (ls' := [.ref (99), .int (nI (1)), .int (nI (0)), x3]) (st' := [.int (I1 99 46)]) (M' := (I1, J, Rx R, N, G)) rfl ?_
      rw [q46]
      refine XP_n 1 (pc' := 44) (ls' := [.ref (99), .int (nI (1)), .int (nI (0)), x3]) (st' := [.int (nI (6)), .int (nI (3))]) (M' := (I1, J, Rx R, N, G)) rfl ?_
      refine XP_icN (x := 3) (y := 6) rfl (by omega) (by omega) (fun (b44 : ¬ 3 = 6) => ?_) (fun (b44 : 3 = 6) => absurd b44 (by omega))
      refine XP_n 2 (pc' := 55) (ls' := [.ref (99), .int (nI (1)), .int (nI (0)), x3]) (st' := [.int (I1 99 46)]) (M' := (I1, J, Rx R, N, G)) rfl ?_
      rw [q46]
      refine XP_n 1 (pc' := 56) (ls' := [.ref (99), .int (nI (1)), .int (nI (0)), x3]) (st' := [.int (nI (45)), .int (nI (3))]) (M' := (I1, J, Rx R, N, G)) rfl ?_
      refine XP_icN (x := 3) (y := 45) rfl (by omega) (by omega) (fun (b56 : ¬ 3 = 45) => ?_) (fun (b56 : 3 = 45) => absurd b56 (by omega))
      refine XP_n 2 (pc' := 68) (ls' := [.ref (99), .int (nI (1)), .int (nI (0)), x3]) (st' := [.int (I1 99 46)]) (M' := (I1, J, Rx R, N, G)) rfl ?_
      rw [q46]
      refine XP_n 1 (pc' := 69) (ls' := [.ref (99), .int (nI (1)), .int (nI (0)), x3]) (st' := [.int (nI (40)), .int (nI (3))]) (M' := (I1, J, Rx R, N, G)) rfl ?_
      refine XP_icN (x := 3) (y := 40) rfl (by omega) (by omega) (fun (b69 : ¬ 3 = 40) => ?_) (fun (b69 : 3 = 40) => absurd b69 (by omega))
      refine XP_n 1 (pc' := 80) (ls' := [.ref (99), .int (nI (1)), .int (nI (0)), x3]) (st' := [.int (nI (0))]) (M' := (I1, J, Rx R, N, G)) rfl ?_
      exact XP_ret rfl (kEnd I1 0 (by show stpW b L h u false p = _; unfold stpW; rw [if_neg g1, if_neg g2, if_neg (fun z => by cases z.2), if_neg (by omega), if_neg (by omega)]) (by omega) ⟨fun z => absurd z (by omega), fun z => by cases z.1⟩ hM1.o hF1 hC.2.2.1 hC.2.1)
end
