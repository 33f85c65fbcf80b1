/-! the model's reading of an expression: the loop, not wanting; whole -/
section
variable {X : hX} {d : Nat} {s I : Nat → Nat → Int32} {J : Nat → Nat → Int64} {R : Nat → Nat → Option Nat} {N : Nat → Nat} {G : hG} {It : Nat → Nat → Int32} {t : Nat} {b : Nat → Nat} {L : Nat}
theorem e_stepN (hT : TpM It b L) (hL : L ≤ 160) (hb : ∀ i, i < L → b i ≤ 255) (hD : WD J) (ht : t < 6) (k30 : It 99 30 = nI t) {h u : List Nat} {m : Bool} {p : Nat} {x3 : Value} {Q : Option Value → hM → Prop} (hsz : h.length + u.length ≤ p) (hp : p ≤ L) (hM : MS It t I h u) (hF : Fr0 It I) (h44 : I 99 44 = nI p) (kGo : ∀ (h1 u1 : List Nat) (w1 m1 : Bool) (p1 : Nat) (I1 : Nat → Nat → Int32) (x3 : Value), stp b L ((h, u), false, m, p) = some ((h1, u1), w1, m1, p1) → MS It t I1 h1 u1 → Fr0 It I1 → I1 99 44 = nI p1 → XP X (d + 10) k_M_eRead 10 [.ref 99, .int (nI (bn w1)), .int (nI (bn m1)), x3] [] (I1, J, Rx R, N, G) Q) (kEnd : ∀ (I1 : Nat → Nat → Int32) (a : Nat), stp b L ((h, u), false, m, p) = none → a ≤ 1 → (a = 1 ↔ Acc b L ((h, u), false, m, p)) → MO It t I1 (endU b L ((h, u), false, m, p)) → Fr0 It I1 → I1 99 45 = nI (pl b L p) → I1 99 44 = nI (nx b L p) → Q (some (.int (nI a))) (I1, J, Rx R, N, G)) : XP X (d + 10) k_M_eRead 10 [.ref 99, .int (nI 0), .int (nI (bn m)), x3] [] (I, J, Rx R, N, G) Q := by
  refine XP_n 1 (pc' := 11) (ls' := [.ref (99), .int (nI (0)), .int (nI (bn m)), x3]) (st' := [.ref (99)]) (M' := (I, J, Rx R, N, G)) rfl ?_
  refine XP_call rfl rfl (c_next (hT.fr hF) hL hb hD hp h44) ?_
  rintro v1 M1 ⟨rfl, I1, rfl, hC, f1, f2⟩
  have hM1 : MS It t I1 h u := hM.of f1 f2
  have hF1 : Fr0 It I1 := hF.of f1 f2
  have hpl := pl_le (b := b) (L := L) p
  have h46 := hC.2.2.2.1
  have hr := tk_rg (b := b) (L := L) p
  have hcl := cnt_le h
  by_cases g1 : tk b L p = 59
  · have q46 : I1 99 46 = nI 59 := h46.trans (by rw [g1]; rfl)
    have e0 : stp b L ((h, u), false, m, p) = none := by show stpN b L h u m p = _; unfold stpN; rw [if_pos g1]
    refine XP_n 1 (pc' := 13) (ls' := [.ref (99), .int (nI (0)), .int (nI (bn m)), x3]) (st' := [.int (nI (0))]) (M' := (I1, J, Rx R, N, G)) rfl ?_
    refine XP_ifN (x := 0)  rfl (by omega) (fun (b13 : 0 = 0) => ?_) (fun (b13 : ¬ 0 = 0) => absurd b13 (by omega))
    refine XP_n 2 (pc' := 83) (ls' := [.ref (99), .int (nI (0)), .int (nI (bn m)), x3]) (st' := [.int (I1 99 46)]) (M' := (I1, J, Rx R, N, G)) rfl ?_
    rw [q46]
    refine XP_n 1 (pc' := 84) (ls' := [.ref (99), .int (nI (0)), .int (nI (bn m)), x3]) (st' := [.int (nI (59)), .int (nI (59))]) (M' := (I1, J, Rx R, N, G)) rfl ?_
    refine XP_icN (x := 59) (y := 59) rfl (by omega) (by omega) (fun (b84 : ¬ 59 = 59) => absurd b84 (by omega)) (fun (b84 : 59 = 59) => ?_)
    refine XP_n 2 (pc' := 87) (ls' := [.ref (99), .int (nI (0)), .int (nI (bn m)), x3]) (st' := [.int (nI (1)), .ref (99)]) (M' := (I1, J, Rx R, N, G)) rfl ?_
    refine XP_call rfl rfl (c_unw (r := 1) (by omega) (by omega) ht k30 (by omega) hM1 hF1) ?_
    rintro v3 M3 ⟨rfl, I3, rfl, hM3, hF3, hT3⟩
    have h443 : I3 99 44 = nI (nx b L p) := (hT3 44 (by omega) (by omega)).trans hC.2.1
    have h453 : I3 99 45 = nI (pl b L p) := (hT3 45 (by omega) (by omega)).trans hC.2.2.1
    have hl3 := unw_len 1 h u
    have his := unw_is 1 h u
    generalize hgu : unw 1 h u = U at hM3 hl3 his
    obtain ⟨hx, ux⟩ := U
    have hM3 : MS It t I3 hx ux := hM3
    have hl3 : hx.length + ux.length = h.length + u.length := hl3
    have his : lowB 1 hx = true := his
    have eU : endU b L ((h, u), false, m, p) = ux := by
      show (if tk b L p = 59 ∨ tk b L p = 41 then (unw 1 h u).2 else _) = ux
      rw [if_pos (Or.inl g1), hgu]
    have hO : MO It t I3 (endU b L ((h, u), false, m, p)) := by rw [eU]; exact hM3.o
    match hx, hM3, hl3, hgu with
    | [], hM3, hl3, hgu =>
      have q50 : I3 99 50 = nI 0 := hM3.1
      refine XP_n 2 (pc' := 90) (ls' := [.ref (99), .int (nI (0)), .int (nI (bn m)), x3]) (st' := [.int (I3 99 50)]) (M' := (I3, J, Rx R, N, G)) rfl ?_
      rw [q50]
      refine XP_ifN (x := 0)  rfl (by omega) (fun (b90 : ¬ 0 = 0) => absurd b90 (by omega)) (fun (b90 : 0 = 0) => ?_)
      refine XP_n 2 (pc' := 94) (ls' := [.ref (99), .int (nI (0)), .int (nI (bn m)), x3]) (st' := [.int (nI (1))]) (M' := (I3, J, Rx R, N, G)) rfl ?_
      exact XP_ret rfl (kEnd I3 1 e0 (by omega) ⟨fun _ => ⟨rfl, g1, by show (unw 1 h u).1 = []; rw [hgu]⟩, fun _ => rfl⟩ hO hF3 h453 h443)
    | x :: hx, hM3, hl3, hgu =>
      have q50 : I3 99 50 = nI (hx.length + 1) := hM3.1
      rw [List.length_cons] at hl3
      refine XP_n 2 (pc' := 90) (ls' := [.ref (99), .int (nI (0)), .int (nI (bn m)), x3]) (st' := [.int (I3 99 50)]) (M' := (I3, J, Rx R, N, G)) rfl ?_
      rw [q50]
      refine XP_ifN (x := hx.length + 1)  rfl (by omega) (fun (b90 : ¬ hx.length + 1 = 0) => ?_) (fun (b90 : hx.length + 1 = 0) => absurd b90 (by omega))
      refine XP_n 1 (pc' := 94) (ls' := [.ref (99), .int (nI (0)), .int (nI (bn m)), x3]) (st' := [.int (nI (0))]) (M' := (I3, J, Rx R, N, G)) rfl ?_
      exact XP_ret rfl (kEnd I3 0 e0 (by omega) ⟨fun z => absurd z (by omega), fun z => by have z2 : (unw 1 h u).1 = [] := z.2.2; rw [hgu] at z2; cases z2⟩ hO hF3 h453 h443)
  by_cases g2 : tk b L p = 41
  · have q46 : I1 99 46 = nI 41 := h46.trans (by rw [g2]; rfl)
    refine XP_n 1 (pc' := 13) (ls' := [.ref (99), .int (nI (0)), .int (nI (bn m)), x3]) (st' := [.int (nI (0))]) (M' := (I1, J, Rx R, N, G)) rfl ?_
    refine XP_ifN (x := 0)  rfl (by omega) (fun (b13 : 0 = 0) => ?_) (fun (b13 : ¬ 0 = 0) => absurd b13 (by omega))
    refine XP_n 2 (pc' := 83) (ls' := [.ref (99), .int (nI (0)), .int (nI (bn m)), x3]) (st' := [.int (I1 99 46)]) (M' := (I1, J, Rx R, N, G)) rfl ?_
    rw [q46]
    refine XP_n 1 (pc' := 84) (ls' := [.ref (99), .int (nI (0)), .int (nI (bn m)), x3]) (st' := [.int (nI (59)), .int (nI (41))]) (M' := (I1, J, Rx R, N, G)) rfl ?_
    refine XP_icN (x := 41) (y := 59) rfl (by omega) (by omega) (fun (b84 : ¬ 41 = 59) => ?_) (fun (b84 : 41 = 59) => absurd b84 (by omega))
    refine XP_n 2 (pc' := 97) (ls' := [.ref (99), .int (nI (0)), .int (nI (bn m)), x3]) (st' := [.int (I1 99 46)]) (M' := (I1, J, Rx R, N, G)) rfl ?_
    rw [q46]
    refine XP_n 1 (pc' := 98) (ls' := [.ref (99), .int (nI (0)), .int (nI (bn m)), x3]) (st' := [.int (nI (41)), .int (nI (41))]) (M' := (I1, J, Rx R, N, G)) rfl ?_
    refine XP_icN (x := 41) (y := 41) rfl (by omega) (by omega) (fun (b98 : ¬ 41 = 41) => absurd b98 (by omega)) (fun (b98 : 41 = 41) => ?_)
    refine XP_n 2 (pc' := 101) (ls' := [.ref (99), .int (nI (0)), .int (nI (bn m)), x3]) (st' := [.int (nI (1)), .ref (99)]) (M' := (I1, J, Rx R, N, G)) rfl ?_
    refine XP_call rfl rfl (c_unw (r := 1) (by omega) (by omega) ht k30 (by omega) hM1 hF1) ?_
    rintro v3 M3 ⟨rfl, I3, rfl, hM3, hF3, hT3⟩
    have h443 : I3 99 44 = nI (nx b L p) := (hT3 44 (by omega) (by omega)).trans hC.2.1
    have h453 : I3 99 45 = nI (pl b L p) := (hT3 45 (by omega) (by omega)).trans hC.2.2.1
    have hl3 := unw_len 1 h u
    have his := unw_is 1 h u
    generalize hgu : unw 1 h u = U at hM3 hl3 his
    obtain ⟨hx, ux⟩ := U
    have hM3 : MS It t I3 hx ux := hM3
    have hl3 : hx.length + ux.length = h.length + u.length := hl3
    have his : lowB 1 hx = true := his
    have eU : endU b L ((h, u), false, m, p) = ux := by
      show (if tk b L p = 59 ∨ tk b L p = 41 then (unw 1 h u).2 else _) = ux
      rw [if_pos (Or.inr g2), hgu]
    have hO : MO It t I3 (endU b L ((h, u), false, m, p)) := by rw [eU]; exact hM3.o
    match hx, hM3, hl3, hgu, his with
    | [], hM3, hl3, hgu, _ =>
      have q50 : I3 99 50 = nI 0 := hM3.1
      have e0 : stp b L ((h, u), false, m, p) = none := by
        show stpN b L h u m p = _
        unfold stpN
        rw [if_neg g1, if_pos g2, hgu]
      refine XP_n 2 (pc' := 104) (ls' := [.ref (99), .int (nI (0)), .int (nI (bn m)), x3]) (st' := [.int (I3 99 50)]) (M' := (I3, J, Rx R, N, G)) rfl ?_
      rw [q50]
      refine XP_ifN (x := 0)  rfl (by omega) (fun (b104 : ¬ 0 = 0) => absurd b104 (by omega)) (fun (b104 : 0 = 0) => ?_)
      refine XP_n 1 (pc' := 106) (ls' := [.ref (99), .int (nI (0)), .int (nI (bn m)), x3]) (st' := [.int (nI (0))]) (M' := (I3, J, Rx R, N, G)) rfl ?_
      exact XP_ret rfl (kEnd I3 0 e0 (by omega) ⟨fun z => absurd z (by omega), fun z => absurd z.2.1 g1⟩ hO hF3 h453 h443)
    | x :: hx, hM3, hl3, hgu, his =>
      have hx0 : x = 0 := by
        have his : Nat.blt (rk x) 1 = true := his
        have h1 : rk x < 1 := Nat.le_of_ble_eq_true his
        have h20 := hM3.2.2.2.2.2 x (List.mem_cons_self ..)
        have hk : ∀ x, x < 20 → rk x < 1 → x = 0 := by decide
        exact hk x h20 h1
      subst hx0
      rw [List.length_cons] at hl3
      have q50 : I3 99 50 = nI (hx.length + 1) := hM3.1
      have q51 : I3 99 51 = nI (1 + cnt hx) := hM3.2.1
      have hcx := cnt_le hx
      have hM4 := hM3.pop
      have e50 : nI (hx.length + 1 - 1) = nI hx.length := by rw [Nat.add_sub_cancel]
      have e51 : nI (1 + cnt hx) - nI 1 = nI (cnt hx) := by rw [nI_sub (by omega), Nat.add_sub_cancel_left]
      have hF4 : Fr0 It (rw2 (rw2 I3 99 50 (nI hx.length)) 99 51 (nI (cnt hx))) := (hF3.w (by omega)).w (by omega)
      have e0 : stp b L ((h, u), false, m, p) = some (unw 7 hx ux, false, m, nx b L p) := by
        show stpN b L h u m p = _
        unfold stpN
        rw [if_neg g1, if_pos g2, hgu]
      refine XP_n 2 (pc' := 104) (ls' := [.ref (99), .int (nI (0)), .int (nI (bn m)), x3]) (st' := [.int (I3 99 50)]) (M' := (I3, J, Rx R, N, G)) rfl ?_
      rw [q50]
      refine XP_ifN (x := hx.length + 1)  rfl (by omega) (fun (b104 : ¬ hx.length + 1 = 0) => ?_) (fun (b104 : hx.length + 1 = 0) => absurd b104 (by omega))
      refine XP_n 3 (pc' := 110) (ls' := [.ref (99), .int (nI (0)), .int (nI (bn m)), x3]) (st' := [.int (I3 99 50), .ref (99)]) (M' := (I3, J, Rx R, N, G)) rfl ?_
      rw [q50]
      refine XP_n 2 (pc' := 112) (ls' := [.ref (99), .int (nI (0)), .int (nI (bn m)), x3]) (st' := [.int ((nI (hx.length + 1)) - (nI (1))), .ref (99)]) (M' := (I3, J, Rx R, N, G)) rfl ?_
      rw [show (nI (hx.length + 1)) - (nI (1)) = nI (hx.length + 1 - 1) from nI_subE (rfl) (rfl) (by omega)]
      refine XP_n 4 (pc' := 116) (ls' := [.ref (99), .int (nI (0)), .int (nI (bn m)), x3]) (st' := [.int (I3 99 51), .ref (99)]) (M' := ((rw2 I3 99 50 (nI (hx.length + 1 - 1))), J, Rx R, N, G)) rfl ?_
      rw [q51]
      refine XP_n 5 (pc' := 121) (ls' := [.ref (99), .int (nI (0)), .int (nI (bn m)), x3]) (st' := [.int (nI (7)), .ref (99)]) (M' := ((rw2 (rw2 I3 99 50 (nI (hx.length + 1 - 1))) 99 51 ((nI (1 + cnt hx)) - (nI (1)))), J, Rx R, N, G)) rfl ?_
      rw [e50, e51]
      refine XP_call rfl rfl (c_unw (I := rw2 (rw2 I3 99 50 (nI hx.length)) 99 51 (nI (cnt hx))) (r := 7) (by omega) (by omega) ht k30 (by omega) hM4 hF4) ?_
      rintro v5 M5 ⟨rfl, I5, rfl, hM5, hF5, hT5⟩
      have h445 : I5 99 44 = nI (nx b L p) := (hT5 44 (by omega) (by omega)).trans h443
      refine XP_n 1 (pc' := 10) (ls' := [.ref (99), .int (nI (0)), .int (nI (bn m)), x3]) (st' := []) (M' := (I5, J, Rx R, N, G)) rfl ?_
      exact kGo _ _ false m _ I5 _ e0 hM5 hF5 h445
  by_cases g3 : sgn (tk b L p) = 0
  · have e0 : stp b L ((h, u), false, m, p) = none := by
      show stpN b L h u m p = _
      unfold stpN
      rw [if_neg g1, if_neg g2, if_pos g3]
    have eU : endU b L ((h, u), false, m, p) = u := by
      show (if tk b L p = 59 ∨ tk b L p = 41 then _ else _) = u
      rw [if_neg (fun z => by rcases z with z | z; · exact g1 z
                              · exact g2 z), if_pos g3]
    have hO : MO It t I1 (endU b L ((h, u), false, m, p)) := by rw [eU]; exact hM1.o
    have hmt : ¬ mT (tk b L p) = nI 59 ∧ ¬ mT (tk b L p) = nI 41 := by
      have hgr : tk b L p = 40 ∨ tk b L p = 1011 ∨ tk b L p = 2000 ∨ tk b L p = 2001 ∨ tk b L p = 2002 ∨ tk b L p = 1000 ∨ tk b L p = 1001 ∨ tk b L p = 1002 ∨ tk b L p = 1003 ∨ tk b L p = 1004 ∨ tk b L p = 1005 ∨ tk b L p = 1006 ∨ tk b L p = 1007 ∨ tk b L p = 1008 ∨ tk b L p = 43 ∨ tk b L p = 45 ∨ tk b L p = 42 ∨ tk b L p = 60 ∨ tk b L p = 61 ∨ tk b L p = 1009 ∨ tk b L p = 1010 := by omega
      rcases hgr with z | z | z | z | z | z | z | z | z | z | z | z | z | z | z | z | z | z | z | z | z <;> rw [z] <;> decide
    refine XP_n 1 (pc' := 13) (ls' := [.ref (99), .int (nI (0)), .int (nI (bn m)), x3]) (st' := [.int (nI (0))]) (M' := (I1, J, Rx R, N, G)) rfl ?_
    refine XP_ifN (x := 0)  rfl (by omega) (fun (b13 : 0 = 0) => ?_) (fun (b13 : ¬ 0 = 0) => absurd b13 (by omega))
    refine XP_n 2 (pc' := 83) (ls' := [.ref (99), .int (nI (0)), .int (nI (bn m)), x3]) (st' := [.int (I1 99 46)]) (M' := (I1, J, Rx R, N, G)) rfl ?_
    rw [h46]
    refine XP_n 1 (pc' := 84) (ls' := [.ref (99), .int (nI (0)), .int (nI (bn m)), x3]) (st' := [.int (nI (59)), .int (mT (tk b L p))]) (M' := (I1, J, Rx R, N, G)) rfl ?_
    refine XP_icD rfl (fun (b84 : ¬ mT (tk b L p) = nI (59)) => ?_) (fun (b84 : mT (tk b L p) = nI (59)) => absurd b84 (by first | exact hmt.1 | exact fun z => z hmt.1 | exact Int32.not_le.mpr hmt.1 | exact Int32.not_lt.mpr (Int32.not_lt.mp hmt.1) | omega))
    refine XP_n 2 (pc' := 97) (ls' := [.ref (99), .int (nI (0)), .int (nI (bn m)), x3]) (st' := [.int (I1 99 46)]) (M' := (I1, J, Rx R, N, G)) rfl ?_
    rw [h46]
    refine XP_n 1 (pc' := 98) (ls' := [.ref (99), .int (nI (0)), .int (nI (bn m)), x3]) (st' := [.int (nI (41)), .int (mT (tk b L p))]) (M' := (I1, J, Rx R, N, G)) rfl ?_
    refine XP_icD rfl (fun (b98 : ¬ mT (tk b L p) = nI (41)) => ?_) (fun (b98 : mT (tk b L p) = nI (41)) => absurd b98 (by first | exact hmt.2 | exact fun z => z hmt.2 | exact Int32.not_le.mpr hmt.2 | exact Int32.not_lt.mpr (Int32.not_lt.mp hmt.2) | omega))
    refine XP_n 1 (pc' := 124) (ls' := [.ref (99), .int (nI (0)), .int (nI (bn m)), x3]) (st' := [.ref (99)]) (M' := (I1, J, Rx R, N, G)) rfl ?_
    refine XP_pure rfl rfl (c_sgn hr h46) ?_
    rw [if_pos g3]
    refine XP_n 3 (pc' := 128) (ls' := [.ref (99), .int (nI (0)), .int (nI (bn m)), .int (cI (-1))]) (st' := [.int (cI (-1)), .int (cI (-1))]) (M' := (I1, J, Rx R, N, G)) rfl ?_
    refine XP_icD rfl (fun (b128 : cI (-1) = cI (-1)) => ?_) (fun (b128 : ¬ cI (-1) = cI (-1)) => absurd b128 (by decide))
    refine XP_n 1 (pc' := 134) (ls' := [.ref (99), .int (nI (0)), .int (nI (bn m)), .int (cI (-1))]) (st' := [.int (nI (0))]) (M' := (I1, J, Rx R, N, G)) rfl ?_
    exact XP_ret rfl (kEnd I1 0 e0 (by omega) ⟨fun z => absurd z (by omega), fun z => absurd z.2.1 g1⟩ hO hF1 hC.2.2.1 hC.2.1)
  have hgs : tk b L p = 1009 ∨ tk b L p = 1010 ∨ tk b L p = 60 ∨ tk b L p = 61 ∨ tk b L p = 43 ∨ tk b L p = 45 ∨ tk b L p = 42 := by
    unfold sgn at g3
    by_cases z1 : tk b L p = 1009
    · exact Or.inl z1
    · by_cases z2 : tk b L p = 1010
      · exact Or.inr (Or.inl z2)
      · by_cases z3 : tk b L p = 60
        · exact Or.inr (Or.inr (Or.inl z3))
        · by_cases z4 : tk b L p = 61
          · exact Or.inr (Or.inr (Or.inr (Or.inl z4)))
          · by_cases z5 : tk b L p = 43
            · exact Or.inr (Or.inr (Or.inr (Or.inr (Or.inl z5))))
            · by_cases z6 : tk b L p = 45
              · exact Or.inr (Or.inr (Or.inr (Or.inr (Or.inr (Or.inl z6)))))
              · by_cases z7 : tk b L p = 42
                · exact Or.inr (Or.inr (Or.inr (Or.inr (Or.inr (Or.inr z7)))))
                · rw [if_neg z1, if_neg z2, if_neg z3, if_neg z4, if_neg z5, if_neg z6, if_neg z7] at g3
                  exact absurd rfl g3
  rcases hgs with gg | gg | gg | gg | gg | gg | gg
  · have q46 : I1 99 46 = nI 4 := h46.trans (by rw [gg]; rfl)
    have hs : sgn (tk b L p) = 11 := by rw [gg]; rfl
    refine XP_n 1 (pc' := 13) (ls' := [.ref (99), .int (nI (0)), .int (nI (bn m)), x3]) (st' := [.int (nI (0))]) (M' := (I1, J, Rx R, N, G)) rfl ?_
    refine XP_ifN (x := 0)  rfl (by omega) (fun (b13 : 0 = 0) => ?_) (fun (b13 : ¬ 0 = 0) => absurd b13 (by omega))
    refine XP_n 2 (pc' := 83) (ls' := [.ref (99), .int (nI (0)), .int (nI (bn m)), x3]) (st' := [.int (I1 99 46)]) (M' := (I1, J, Rx R, N, G)) rfl ?_
    rw [q46]
    refine XP_n 1 (pc' := 84) (ls' := [.ref (99), .int (nI (0)), .int (nI (bn m)), x3]) (st' := [.int (nI (59)), .int (nI (4))]) (M' := (I1, J, Rx R, N, G)) rfl ?_
    refine XP_icN (x := 4) (y := 59) rfl (by omega) (by omega) (fun (b84 : ¬ 4 = 59) => ?_) (fun (b84 : 4 = 59) => absurd b84 (by omega))
    refine XP_n 2 (pc' := 97) (ls' := [.ref (99), .int (nI (0)), .int (nI (bn m)), x3]) (st' := [.int (I1 99 46)]) (M' := (I1, J, Rx R, N, G)) rfl ?_
    rw [q46]
    refine XP_n 1 (pc' := 98) (ls' := [.ref (99), .int (nI (0)), .int (nI (bn m)), x3]) (st' := [.int (nI (41)), .int (nI (4))]) (M' := (I1, J, Rx R, N, G)) rfl ?_
    refine XP_icN (x := 4) (y := 41) rfl (by omega) (by omega) (fun (b98 : ¬ 4 = 41) => ?_) (fun (b98 : 4 = 41) => absurd b98 (by omega))
    refine XP_n 1 (pc' := 124) (ls' := [.ref (99), .int (nI (0)), .int (nI (bn m)), x3]) (st' := [.ref (99)]) (M' := (I1, J, Rx R, N, G)) rfl ?_
    refine XP_pure rfl rfl (c_sgn hr h46) ?_
    rw [if_neg g3, hs]
    refine XP_n 3 (pc' := 128) (ls' := [.ref (99), .int (nI (0)), .int (nI (bn m)), .int (nI (11))]) (st' := [.int (cI (-1)), .int (nI (11))]) (M' := (I1, J, Rx R, N, G)) rfl ?_
    refine XP_icD rfl (fun (b128 : nI (11) = cI (-1)) => absurd b128 (by decide)) (fun (b128 : ¬ nI (11) = cI (-1)) => ?_)
    refine XP_n 2 (pc' := 131) (ls' := [.ref (99), .int (nI (0)), .int (nI (bn m)), .int (nI (11))]) (st' := [.int (nI (11)), .ref (99)]) (M' := (I1, J, Rx R, N, G)) rfl ?_
    refine XP_call rfl rfl (c_bet (s := 11) ht k30 hM1 hF1 (by omega) (by omega)) ?_
    rintro v3 M3 ⟨I3, rfl, hF3, hT3, hX⟩
    have h443 : I3 99 44 = nI (nx b L p) := (hT3 44 (by omega) (by omega)).trans hC.2.1
    have h453 : I3 99 45 = nI (pl b L p) := (hT3 45 (by omega) (by omega)).trans hC.2.2.1
    rcases hX with ⟨rfl, hlo, hM3⟩ | ⟨rfl, hr4, hlo, hM3⟩
    · have hM3 : MS It t I3 (11 :: (unw 1 h u).1) (unw 1 h u).2 := hM3
      have e0 : stp b L ((h, u), false, m, p) = some ((11 :: (unw 1 h u).1, (unw 1 h u).2), true, true, nx b L p) := by
        show stpN b L h u m p = _
        unfold stpN
        rw [if_neg g1, if_neg g2, if_neg g3, hs]
        rfl
      refine XP_ifN (x := 1)  rfl (by omega) (fun (b132 : ¬ 1 = 0) => ?_) (fun (b132 : 1 = 0) => absurd b132 (by omega))
      refine XP_n 4 (pc' := 139) (ls' := [.ref (99), .int (nI (1)), .int (nI (bn m)), .int (nI (11))]) (st' := [.int (nI (12)), .int (nI (11))]) (M' := (I3, J, Rx R, N, G)) rfl ?_
      refine XP_icN (x := 11) (y := 12) rfl (by omega) (by omega) (fun (b139 : 12 < 11) => absurd b139 (by omega)) (fun (b139 : 11 ≤ 12) => ?_)
      refine XP_n 4 (pc' := 10) (ls' := [.ref (99), .int (nI (1)), .int (nI (1)), .int (nI (11))]) (st' := []) (M' := (I3, J, Rx R, N, G)) rfl ?_
      exact kGo _ _ true true _ I3 _ e0 hM3 hF3 h443
    · exact absurd hr4 (by decide)
  · have q46 : I1 99 46 = nI 5 := h46.trans (by rw [gg]; rfl)
    have hs : sgn (tk b L p) = 12 := by rw [gg]; rfl
    refine XP_n 1 (pc' := 13) (ls' := [.ref (99), .int (nI (0)), .int (nI (bn m)), x3]) (st' := [.int (nI (0))]) (M' := (I1, J, Rx R, N, G)) rfl ?_
    refine XP_ifN (x := 0)  rfl (by omega) (fun (b13 : 0 = 0) => ?_) (fun (b13 : ¬ 0 = 0) => absurd b13 (by omega))
    refine XP_n 2 (pc' := 83) (ls' := [.ref (99), .int (nI (0)), .int (nI (bn m)), x3]) (st' := [.int (I1 99 46)]) (M' := (I1, J, Rx R, N, G)) rfl ?_
    rw [q46]
    refine XP_n 1 (pc' := 84) (ls' := [.ref (99), .int (nI (0)), .int (nI (bn m)), x3]) (st' := [.int (nI (59)), .int (nI (5))]) (M' := (I1, J, Rx R, N, G)) rfl ?_
    refine XP_icN (x := 5) (y := 59) rfl (by omega) (by omega) (fun (b84 : ¬ 5 = 59) => ?_) (fun (b84 : 5 = 59) => absurd b84 (by omega))
    refine XP_n 2 (pc' := 97) (ls' := [.ref (99), .int (nI (0)), .int (nI (bn m)), x3]) (st' := [.int (I1 99 46)]) (M' := (I1, J, Rx R, N, G)) rfl ?_
    rw [q46]
    refine XP_n 1 (pc' := 98) (ls' := [.ref (99), .int (nI (0)), .int (nI (bn m)), x3]) (st' := [.int (nI (41)), .int (nI (5))]) (M' := (I1, J, Rx R, N, G)) rfl ?_
    refine XP_icN (x := 5) (y := 41) rfl (by omega) (by omega) (fun (b98 : ¬ 5 = 41) => ?_) (fun (b98 : 5 = 41) => absurd b98 (by omega))
    refine XP_n 1 (pc' := 124) (ls' := [.ref (99), .int (nI (0)), .int (nI (bn m)), x3]) (st' := [.ref (99)]) (M' := (I1, J, Rx R, N, G)) rfl ?_
    refine XP_pure rfl rfl (c_sgn hr h46) ?_
    rw [if_neg g3, hs]
    refine XP_n 3 (pc' := 128) (ls' := [.ref (99), .int (nI (0)), .int (nI (bn m)), .int (nI (12))]) (st' := [.int (cI (-1)), .int (nI (12))]) (M' := (I1, J, Rx R, N, G)) rfl ?_
    refine XP_icD rfl (fun (b128 : nI (12) = cI (-1)) => absurd b128 (by decide)) (fun (b128 : ¬ nI (12) = cI (-1)) => ?_)
    refine XP_n 2 (pc' := 131) (ls' := [.ref (99), .int (nI (0)), .int (nI (bn m)), .int (nI (12))]) (st' := [.int (nI (12)), .ref (99)]) (M' := (I1, J, Rx R, N, G)) rfl ?_
    refine XP_call rfl rfl (c_bet (s := 12) ht k30 hM1 hF1 (by omega) (by omega)) ?_
    rintro v3 M3 ⟨I3, rfl, hF3, hT3, hX⟩
    have h443 : I3 99 44 = nI (nx b L p) := (hT3 44 (by omega) (by omega)).trans hC.2.1
    have h453 : I3 99 45 = nI (pl b L p) := (hT3 45 (by omega) (by omega)).trans hC.2.2.1
    rcases hX with ⟨rfl, hlo, hM3⟩ | ⟨rfl, hr4, hlo, hM3⟩
    · have hM3 : MS It t I3 (12 :: (unw 2 h u).1) (unw 2 h u).2 := hM3
      have e0 : stp b L ((h, u), false, m, p) = some ((12 :: (unw 2 h u).1, (unw 2 h u).2), true, true, nx b L p) := by
        show stpN b L h u m p = _
        unfold stpN
        rw [if_neg g1, if_neg g2, if_neg g3, hs]
        rfl
      refine XP_ifN (x := 1)  rfl (by omega) (fun (b132 : ¬ 1 = 0) => ?_) (fun (b132 : 1 = 0) => absurd b132 (by omega))
      refine XP_n 4 (pc' := 139) (ls' := [.ref (99), .int (nI (1)), .int (nI (bn m)), .int (nI (12))]) (st' := [.int (nI (12)), .int (nI (12))]) (M' := (I3, J, Rx R, N, G)) rfl ?_
      refine XP_icN (x := 12) (y := 12) rfl (by omega) (by omega) (fun (b139 : 12 < 12) => absurd b139 (by omega)) (fun (b139 : 12 ≤ 12) => ?_)
      refine XP_n 4 (pc' := 10) (ls' := [.ref (99), .int (nI (1)), .int (nI (1)), .int (nI (12))]) (st' := []) (M' := (I3, J, Rx R, N, G)) rfl ?_
      exact kGo _ _ true true _ I3 _ e0 hM3 hF3 h443
    · exact absurd hr4 (by decide)
  · have q46 : I1 99 46 = nI 60 := h46.trans (by rw [gg]; rfl)
    have hs : sgn (tk b L p) = 14 := by rw [gg]; rfl
    refine XP_n 1 (pc' := 13) (ls' := [.ref (99), .int (nI (0)), .int (nI (bn m)), x3]) (st' := [.int (nI (0))]) (M' := (I1, J, Rx R, N, G)) rfl ?_
    refine XP_ifN (x := 0)  rfl (by omega) (fun (b13 : 0 = 0) => ?_) (fun (b13 : ¬ 0 = 0) => absurd b13 (by omega))
    refine XP_n 2 (pc' := 83) (ls' := [.ref (99), .int (nI (0)), .int (nI (bn m)), x3]) (st' := [.int (I1 99 46)]) (M' := (I1, J, Rx R, N, G)) rfl ?_
    rw [q46]
    refine XP_n 1 (pc' := 84) (ls' := [.ref (99), .int (nI (0)), .int (nI (bn m)), x3]) (st' := [.int (nI (59)), .int (nI (60))]) (M' := (I1, J, Rx R, N, G)) rfl ?_
    refine XP_icN (x := 60) (y := 59) rfl (by omega) (by omega) (fun (b84 : ¬ 60 = 59) => ?_) (fun (b84 : 60 = 59) => absurd b84 (by omega))
    refine XP_n 2 (pc' := 97) (ls' := [.ref (99), .int (nI (0)), .int (nI (bn m)), x3]) (st' := [.int (I1 99 46)]) (M' := (I1, J, Rx R, N, G)) rfl ?_
    rw [q46]
    refine XP_n 1 (pc' := 98) (ls' := [.ref (99), .int (nI (0)), .int (nI (bn m)), x3]) (st' := [.int (nI (41)), .int (nI (60))]) (M' := (I1, J, Rx R, N, G)) rfl ?_
    refine XP_icN (x := 60) (y := 41) rfl (by omega) (by omega) (fun (b98 : ¬ 60 = 41) => ?_) (fun (b98 : 60 = 41) => absurd b98 (by omega))
    refine XP_n 1 (pc' := 124) (ls' := [.ref (99), .int (nI (0)), .int (nI (bn m)), x3]) (st' := [.ref (99)]) (M' := (I1, J, Rx R, N, G)) rfl ?_
    refine XP_pure rfl rfl (c_sgn hr h46) ?_
    rw [if_neg g3, hs]
    refine XP_n 3 (pc' := 128) (ls' := [.ref (99), .int (nI (0)), .int (nI (bn m)), .int (nI (14))]) (st' := [.int (cI (-1)), .int (nI (14))]) (M' := (I1, J, Rx R, N, G)) rfl ?_
    refine XP_icD rfl (fun (b128 : nI (14) = cI (-1)) => absurd b128 (by decide)) (fun (b128 : ¬ nI (14) = cI (-1)) => ?_)
    refine XP_n 2 (pc' := 131) (ls' := [.ref (99), .int (nI (0)), .int (nI (bn m)), .int (nI (14))]) (st' := [.int (nI (14)), .ref (99)]) (M' := (I1, J, Rx R, N, G)) rfl ?_
    refine XP_call rfl rfl (c_bet (s := 14) ht k30 hM1 hF1 (by omega) (by omega)) ?_
    rintro v3 M3 ⟨I3, rfl, hF3, hT3, hX⟩
    have h443 : I3 99 44 = nI (nx b L p) := (hT3 44 (by omega) (by omega)).trans hC.2.1
    have h453 : I3 99 45 = nI (pl b L p) := (hT3 45 (by omega) (by omega)).trans hC.2.2.1
    rcases hX with ⟨rfl, hlo, hM3⟩ | ⟨rfl, hr4, hlo, hM3⟩
    · have hM3 : MS It t I3 (14 :: (unw 5 h u).1) (unw 5 h u).2 := hM3
      have e0 : stp b L ((h, u), false, m, p) = some ((14 :: (unw 5 h u).1, (unw 5 h u).2), true, false, nx b L p) := by
        show stpN b L h u m p = _
        unfold stpN
        rw [if_neg g1, if_neg g2, if_neg g3, hs]
        rw [if_pos (show rk 14 = 4 from rfl), if_pos (hlo rfl)]
      refine XP_ifN (x := 1)  rfl (by omega) (fun (b132 : ¬ 1 = 0) => ?_) (fun (b132 : 1 = 0) => absurd b132 (by omega))
      refine XP_n 4 (pc' := 139) (ls' := [.ref (99), .int (nI (1)), .int (nI (bn m)), .int (nI (14))]) (st' := [.int (nI (12)), .int (nI (14))]) (M' := (I3, J, Rx R, N, G)) rfl ?_
      refine XP_icN (x := 14) (y := 12) rfl (by omega) (by omega) (fun (b139 : 12 < 14) => ?_) (fun (b139 : 14 ≤ 12) => absurd b139 (by omega))
      refine XP_n 3 (pc' := 10) (ls' := [.ref (99), .int (nI (1)), .int (nI (0)), .int (nI (14))]) (st' := []) (M' := (I3, J, Rx R, N, G)) rfl ?_
      exact kGo _ _ true false _ I3 _ e0 hM3 hF3 h443
    · have e0 : stp b L ((h, u), false, m, p) = none := by
        show stpN b L h u m p = _
        unfold stpN
        rw [if_neg g1, if_neg g2, if_neg g3, hs, if_pos (show rk 14 = 4 from rfl), hlo]
        rfl
      have eU : endU b L ((h, u), false, m, p) = (unw 5 h u).2 := by
        show (if tk b L p = 59 ∨ tk b L p = 41 then _ else _) = _
        rw [if_neg (by omega), if_neg g3, hs]
        rfl
      have hO : MO It t I3 (endU b L ((h, u), false, m, p)) := by rw [eU]; exact hM3.o
      refine XP_ifN (x := 0)  rfl (by omega) (fun (b132 : ¬ 0 = 0) => absurd b132 (by omega)) (fun (b132 : 0 = 0) => ?_)
      refine XP_n 1 (pc' := 134) (ls' := [.ref (99), .int (nI (0)), .int (nI (bn m)), .int (nI (14))]) (st' := [.int (nI (0))]) (M' := (I3, J, Rx R, N, G)) rfl ?_
      exact XP_ret rfl (kEnd I3 0 e0 (by omega) ⟨fun z => absurd z (by omega), fun z => absurd z.2.1 g1⟩ hO hF3 h453 h443)
  · have q46 : I1 99 46 = nI 61 := h46.trans (by rw [gg]; rfl)
    have hs : sgn (tk b L p) = 15 := by rw [gg]; rfl
    refine XP_n 1 (pc' := 13) (ls' := [.ref (99), .int (nI (0)), .int (nI (bn m)), x3]) (st' := [.int (nI (0))]) (M' := (I1, J, Rx R, N, G)) rfl ?_
    refine XP_ifN (x := 0)  rfl (by omega) (fun (b13 : 0 = 0) => ?_) (fun (b13 : ¬ 0 = 0) => absurd b13 (by omega))
    refine XP_n 2 (pc' := 83) (ls' := [.ref (99), .int (nI (0)), .int (nI (bn m)), x3]) (st' := [.int (I1 99 46)]) (M' := (I1, J, Rx R, N, G)) rfl ?_
    rw [q46]
    refine XP_n 1 (pc' := 84) (ls' := [.ref (99), .int (nI (0)), .int (nI (bn m)), x3]) (st' := [.int (nI (59)), .int (nI (61))]) (M' := (I1, J, Rx R, N, G)) rfl ?_
    refine XP_icN (x := 61) (y := 59) rfl (by omega) (by omega) (fun (b84 : ¬ 61 = 59) => ?_) (fun (b84 : 61 = 59) => absurd b84 (by omega))
    refine XP_n 2 (pc' := 97) (ls' := [.ref (99), .int (nI (0)), .int (nI (bn m)), x3]) (st' := [.int (I1 99 46)]) (M' := (I1, J, Rx R, N, G)) rfl ?_
    rw [q46]
    refine XP_n 1 (pc' := 98) (ls' := [.ref (99), .int (nI (0)), .int (nI (bn m)), x3]) (st' := [.int (nI (41)), .int (nI (61))]) (M' := (I1, J, Rx R, N, G)) rfl ?_
    refine XP_icN (x := 61) (y := 41) rfl (by omega) (by omega) (fun (b98 : ¬ 61 = 41) => ?_) (fun (b98 : 61 = 41) => absurd b98 (by omega))
    refine XP_n 1 (pc' := 124) (ls' := [.ref (99), .int (nI (0)), .int (nI (bn m)), x3]) (st' := [.ref (99)]) (M' := (I1, J, Rx R, N, G)) rfl ?_
    refine XP_pure rfl rfl (c_sgn hr h46) ?_
    rw [if_neg g3, hs]
    refine XP_n 3 (pc' := 128) (ls' := [.ref (99), .int (nI (0)), .int (nI (bn m)), .int (nI (15))]) (st' := [.int (cI (-1)), .int (nI (15))]) (M' := (I1, J, Rx R, N, G)) rfl ?_
    refine XP_icD rfl (fun (b128 : nI (15) = cI (-1)) => absurd b128 (by decide)) (fun (b128 : ¬ nI (15) = cI (-1)) => ?_)
    refine XP_n 2 (pc' := 131) (ls' := [.ref (99), .int (nI (0)), .int (nI (bn m)), .int (nI (15))]) (st' := [.int (nI (15)), .ref (99)]) (M' := (I1, J, Rx R, N, G)) rfl ?_
    refine XP_call rfl rfl (c_bet (s := 15) ht k30 hM1 hF1 (by omega) (by omega)) ?_
    rintro v3 M3 ⟨I3, rfl, hF3, hT3, hX⟩
    have h443 : I3 99 44 = nI (nx b L p) := (hT3 44 (by omega) (by omega)).trans hC.2.1
    have h453 : I3 99 45 = nI (pl b L p) := (hT3 45 (by omega) (by omega)).trans hC.2.2.1
    rcases hX with ⟨rfl, hlo, hM3⟩ | ⟨rfl, hr4, hlo, hM3⟩
    · have hM3 : MS It t I3 (15 :: (unw 5 h u).1) (unw 5 h u).2 := hM3
      have e0 : stp b L ((h, u), false, m, p) = some ((15 :: (unw 5 h u).1, (unw 5 h u).2), true, false, nx b L p) := by
        show stpN b L h u m p = _
        unfold stpN
        rw [if_neg g1, if_neg g2, if_neg g3, hs]
        rw [if_pos (show rk 15 = 4 from rfl), if_pos (hlo rfl)]
      refine XP_ifN (x := 1)  rfl (by omega) (fun (b132 : ¬ 1 = 0) => ?_) (fun (b132 : 1 = 0) => absurd b132 (by omega))
      refine XP_n 4 (pc' := 139) (ls' := [.ref (99), .int (nI (1)), .int (nI (bn m)), .int (nI (15))]) (st' := [.int (nI (12)), .int (nI (15))]) (M' := (I3, J, Rx R, N, G)) rfl ?_
      refine XP_icN (x := 15) (y := 12) rfl (by omega) (by omega) (fun (b139 : 12 < 15) => ?_) (fun (b139 : 15 ≤ 12) => absurd b139 (by omega))
      refine XP_n 3 (pc' := 10) (ls' := [.ref (99), .int (nI (1)), .int (nI (0)), .int (nI (15))]) (st' := []) (M' := (I3, J, Rx R, N, G)) rfl ?_
      exact kGo _ _ true false _ I3 _ e0 hM3 hF3 h443
    · have e0 : stp b L ((h, u), false, m, p) = none := by
        show stpN b L h u m p = _
        unfold stpN
        rw [if_neg g1, if_neg g2, if_neg g3, hs, if_pos (show rk 15 = 4 from rfl), hlo]
        rfl
      have eU : endU b L ((h, u), false, m, p) = (unw 5 h u).2 := by
        show (if tk b L p = 59 ∨ tk b L p = 41 then _ else _) = _
        rw [if_neg (by omega), if_neg g3, hs]
        rfl
      have hO : MO It t I3 (endU b L ((h, u), false, m, p)) := by rw [eU]; exact hM3.o
      refine XP_ifN (x := 0)  rfl (by omega) (fun (b132 : ¬ 0 = 0) => absurd b132 (by omega)) (fun (b132 : 0 = 0) => ?_)
      refine XP_n 1 (pc' := 134) (ls' := [.ref (99), .int (nI (0)), .int (nI (bn m)), .int (nI (15))]) (st' := [.int (nI (0))]) (M' := (I3, J, Rx R, N, G)) rfl ?_
      exact XP_ret rfl (kEnd I3 0 e0 (by omega) ⟨fun z => absurd z (by omega), fun z => absurd z.2.1 g1⟩ hO hF3 h453 h443)
  · have q46 : I1 99 46 = nI 43 := h46.trans (by rw [gg]; rfl)
    have hs : sgn (tk b L p) = 16 := by rw [gg]; rfl
    refine XP_n 1 (pc' := 13) (ls' := [.ref (99), .int (nI (0)), .int (nI (bn m)), x3]) (st' := [.int (nI (0))]) (M' := (I1, J, Rx R, N, G)) rfl ?_
    refine XP_ifN (x := 0)  rfl (by omega) (fun (b13 : 0 = 0) => ?_) (fun (b13 : ¬ 0 = 0) => absurd b13 (by omega))
    refine XP_n 2 (pc' := 83) (ls' := [.ref (99), .int (nI (0)), .int (nI (bn m)), x3]) (st' := [.int (I1 99 46)]) (M' := (I1, J, Rx R, N, G)) rfl ?_
    rw [q46]
    refine XP_n 1 (pc' := 84) (ls' := [.ref (99), .int (nI (0)), .int (nI (bn m)), x3]) (st' := [.int (nI (59)), .int (nI (43))]) (M' := (I1, J, Rx R, N, G)) rfl ?_
    refine XP_icN (x := 43) (y := 59) rfl (by omega) (by omega) (fun (b84 : ¬ 43 = 59) => ?_) (fun (b84 : 43 = 59) => absurd b84 (by omega))
    refine XP_n 2 (pc' := 97) (ls' := [.ref (99), .int (nI (0)), .int (nI (bn m)), x3]) (st' := [.int (I1 99 46)]) (M' := (I1, J, Rx R, N, G)) rfl ?_
    rw [q46]
    refine XP_n 1 (pc' := 98) (ls' := [.ref (99), .int (nI (0)), .int (nI (bn m)), x3]) (st' := [.int (nI (41)), .int (nI (43))]) (M' := (I1, J, Rx R, N, G)) rfl ?_
    refine XP_icN (x := 43) (y := 41) rfl (by omega) (by omega) (fun (b98 : ¬ 43 = 41) => ?_) (fun (b98 : 43 = 41) => absurd b98 (by omega))
    refine XP_n 1 (pc' := 124) (ls' := [.ref (99), .int (nI (0)), .int (nI (bn m)), x3]) (st' := [.ref (99)]) (M' := (I1, J, Rx R, N, G)) rfl ?_
    refine XP_pure rfl rfl (c_sgn hr h46) ?_
    rw [if_neg g3, hs]
    refine XP_n 3 (pc' := 128) (ls' := [.ref (99), .int (nI (0)), .int (nI (bn m)), .int (nI (16))]) (st' := [.int (cI (-1)), .int (nI (16))]) (M' := (I1, J, Rx R, N, G)) rfl ?_
    refine XP_icD rfl (fun (b128 : nI (16) = cI (-1)) => absurd b128 (by decide)) (fun (b128 : ¬ nI (16) = cI (-1)) => ?_)
    refine XP_n 2 (pc' := 131) (ls' := [.ref (99), .int (nI (0)), .int (nI (bn m)), .int (nI (16))]) (st' := [.int (nI (16)), .ref (99)]) (M' := (I1, J, Rx R, N, G)) rfl ?_
    refine XP_call rfl rfl (c_bet (s := 16) ht k30 hM1 hF1 (by omega) (by omega)) ?_
    rintro v3 M3 ⟨I3, rfl, hF3, hT3, hX⟩
    have h443 : I3 99 44 = nI (nx b L p) := (hT3 44 (by omega) (by omega)).trans hC.2.1
    have h453 : I3 99 45 = nI (pl b L p) := (hT3 45 (by omega) (by omega)).trans hC.2.2.1
    rcases hX with ⟨rfl, hlo, hM3⟩ | ⟨rfl, hr4, hlo, hM3⟩
    · have hM3 : MS It t I3 (16 :: (unw 5 h u).1) (unw 5 h u).2 := hM3
      have e0 : stp b L ((h, u), false, m, p) = some ((16 :: (unw 5 h u).1, (unw 5 h u).2), true, false, nx b L p) := by
        show stpN b L h u m p = _
        unfold stpN
        rw [if_neg g1, if_neg g2, if_neg g3, hs]
        rfl
      refine XP_ifN (x := 1)  rfl (by omega) (fun (b132 : ¬ 1 = 0) => ?_) (fun (b132 : 1 = 0) => absurd b132 (by omega))
      refine XP_n 4 (pc' := 139) (ls' := [.ref (99), .int (nI (1)), .int (nI (bn m)), .int (nI (16))]) (st' := [.int (nI (12)), .int (nI (16))]) (M' := (I3, J, Rx R, N, G)) rfl ?_
      refine XP_icN (x := 16) (y := 12) rfl (by omega) (by omega) (fun (b139 : 12 < 16) => ?_) (fun (b139 : 16 ≤ 12) => absurd b139 (by omega))
      refine XP_n 3 (pc' := 10) (ls' := [.ref (99), .int (nI (1)), .int (nI (0)), .int (nI (16))]) (st' := []) (M' := (I3, J, Rx R, N, G)) rfl ?_
      exact kGo _ _ true false _ I3 _ e0 hM3 hF3 h443
    · exact absurd hr4 (by decide)
  · have q46 : I1 99 46 = nI 45 := h46.trans (by rw [gg]; rfl)
    have hs : sgn (tk b L p) = 17 := by rw [gg]; rfl
    refine XP_n 1 (pc' := 13) (ls' := [.ref (99), .int (nI (0)), .int (nI (bn m)), x3]) (st' := [.int (nI (0))]) (M' := (I1, J, Rx R, N, G)) rfl ?_
    refine XP_ifN (x := 0)  rfl (by omega) (fun (b13 : 0 = 0) => ?_) (fun (b13 : ¬ 0 = 0) => absurd b13 (by omega))
    refine XP_n 2 (pc' := 83) (ls' := [.ref (99), .int (nI (0)), .int (nI (bn m)), x3]) (st' := [.int (I1 99 46)]) (M' := (I1, J, Rx R, N, G)) rfl ?_
    rw [q46]
    refine XP_n 1 (pc' := 84) (ls' := [.ref (99), .int (nI (0)), .int (nI (bn m)), x3]) (st' := [.int (nI (59)), .int (nI (45))]) (M' := (I1, J, Rx R, N, G)) rfl ?_
    refine XP_icN (x := 45) (y := 59) rfl (by omega) (by omega) (fun (b84 : ¬ 45 = 59) => ?_) (fun (b84 : 45 = 59) => absurd b84 (by omega))
    refine XP_n 2 (pc' := 97) (ls' := [.ref (99), .int (nI (0)), .int (nI (bn m)), x3]) (st' := [.int (I1 99 46)]) (M' := (I1, J, Rx R, N, G)) rfl ?_
    rw [q46]
    refine XP_n 1 (pc' := 98) (ls' := [.ref (99), .int (nI (0)), .int (nI (bn m)), x3]) (st' := [.int (nI (41)), .int (nI (45))]) (M' := (I1, J, Rx R, N, G)) rfl ?_
    refine XP_icN (x := 45) (y := 41) rfl (by omega) (by omega) (fun (b98 : ¬ 45 = 41) => ?_) (fun (b98 : 45 = 41) => absurd b98 (by omega))
    refine XP_n 1 (pc' := 124) (ls' := [.ref (99), .int (nI (0)), .int (nI (bn m)), x3]) (st' := [.ref (99)]) (M' := (I1, J, Rx R, N, G)) rfl ?_
    refine XP_pure rfl rfl (c_sgn hr h46) ?_
    rw [if_neg g3, hs]
    refine XP_n 3 (pc' := 128) (ls' := [.ref (99), .int (nI (0)), .int (nI (bn m)), .int (nI (17))]) (st' := [.int (cI (-1)), .int (nI (17))]) (M' := (I1, J, Rx R, N, G)) rfl ?_
    refine XP_icD rfl (fun (b128 : nI (17) = cI (-1)) => absurd b128 (by decide)) (fun (b128 : ¬ nI (17) = cI (-1)) => ?_)
    refine XP_n 2 (pc' := 131) (ls' := [.ref (99), .int (nI (0)), .int (nI (bn m)), .int (nI (17))]) (st' := [.int (nI (17)), .ref (99)]) (M' := (I1, J, Rx R, N, G)) rfl ?_
    refine XP_call rfl rfl (c_bet (s := 17) ht k30 hM1 hF1 (by omega) (by omega)) ?_
    rintro v3 M3 ⟨I3, rfl, hF3, hT3, hX⟩
    have h443 : I3 99 44 = nI (nx b L p) := (hT3 44 (by omega) (by omega)).trans hC.2.1
    have h453 : I3 99 45 = nI (pl b L p) := (hT3 45 (by omega) (by omega)).trans hC.2.2.1
    rcases hX with ⟨rfl, hlo, hM3⟩ | ⟨rfl, hr4, hlo, hM3⟩
    · have hM3 : MS It t I3 (17 :: (unw 5 h u).1) (unw 5 h u).2 := hM3
      have e0 : stp b L ((h, u), false, m, p) = some ((17 :: (unw 5 h u).1, (unw 5 h u).2), true, false, nx b L p) := by
        show stpN b L h u m p = _
        unfold stpN
        rw [if_neg g1, if_neg g2, if_neg g3, hs]
        rfl
      refine XP_ifN (x := 1)  rfl (by omega) (fun (b132 : ¬ 1 = 0) => ?_) (fun (b132 : 1 = 0) => absurd b132 (by omega))
      refine XP_n 4 (pc' := 139) (ls' := [.ref (99), .int (nI (1)), .int (nI (bn m)), .int (nI (17))]) (st' := [.int (nI (12)), .int (nI (17))]) (M' := (I3, J, Rx R, N, G)) rfl ?_
      refine XP_icN (x := 17) (y := 12) rfl (by omega) (by omega) (fun (b139 : 12 < 17) => ?_) (fun (b139 : 17 ≤ 12) => absurd b139 (by omega))
      refine XP_n 3 (pc' := 10) (ls' := [.ref (99), .int (nI (1)), .int (nI (0)), .int (nI (17))]) (st' := []) (M' := (I3, J, Rx R, N, G)) rfl ?_
      exact kGo _ _ true false _ I3 _ e0 hM3 hF3 h443
    · exact absurd hr4 (by decide)
  · have q46 : I1 99 46 = nI 42 := h46.trans (by rw [gg]; rfl)
    have hs : sgn (tk b L p) = 18 := by rw [gg]; rfl
    refine XP_n 1 (pc' := 13) (ls' := [.ref (99), .int (nI (0)), .int (nI (bn m)), x3]) (st' := [.int (nI (0))]) (M' := (I1, J, Rx R, N, G)) rfl ?_
    refine XP_ifN (x := 0)  rfl (by omega) (fun (b13 : 0 = 0) => ?_) (fun (b13 : ¬ 0 = 0) => absurd b13 (by omega))
    refine XP_n 2 (pc' := 83) (ls' := [.ref (99), .int (nI (0)), .int (nI (bn m)), x3]) (st' := [.int (I1 99 46)]) (M' := (I1, J, Rx R, N, G)) rfl ?_
    rw [q46]
    refine XP_n 1 (pc' := 84) (ls' := [.ref (99), .int (nI (0)), .int (nI (bn m)), x3]) (st' := [.int (nI (59)), .int (nI (42))]) (M' := (I1, J, Rx R, N, G)) rfl ?_
    refine XP_icN (x := 42) (y := 59) rfl (by omega) (by omega) (fun (b84 : ¬ 42 = 59) => ?_) (fun (b84 : 42 = 59) => absurd b84 (by omega))
    refine XP_n 2 (pc' := 97) (ls' := [.ref (99), .int (nI (0)), .int (nI (bn m)), x3]) (st' := [.int (I1 99 46)]) (M' := (I1, J, Rx R, N, G)) rfl ?_
    rw [q46]
    refine XP_n 1 (pc' := 98) (ls' := [.ref (99), .int (nI (0)), .int (nI (bn m)), x3]) (st' := [.int (nI (41)), .int (nI (42))]) (M' := (I1, J, Rx R, N, G)) rfl ?_
    refine XP_icN (x := 42) (y := 41) rfl (by omega) (by omega) (fun (b98 : ¬ 42 = 41) => ?_) (fun (b98 : 42 = 41) => absurd b98 (by omega))
    refine XP_n 1 (pc' := 124) (ls' := [.ref (99), .int (nI (0)), .int (nI (bn m)), x3]) (st' := [.ref (99)]) (M' := (I1, J, Rx R, N, G)) rfl ?_
    refine XP_pure rfl rfl (c_sgn hr h46) ?_
    rw [if_neg g3, hs]
    refine XP_n 3 (pc' := 128) (ls' := [.ref (99), .int (nI (0)), .int (nI (bn m)), .int (nI (18))]) (st' := [.int (cI (-1)), .int (nI (18))]) (M' := (I1, J, Rx R, N, G)) rfl ?_
    refine XP_icD rfl (fun (b128 : nI (18) = cI (-1)) => absurd b128 (by decide)) (fun (b128 : ¬ nI (18) = cI (-1)) => ?_)
    refine XP_n 2 (pc' := 131) (ls' := [.ref (99), .int (nI (0)), .int (nI (bn m)), .int (nI (18))]) (st' := [.int (nI (18)), .ref (99)]) (M' := (I1, J, Rx R, N, G)) rfl ?_
    refine XP_call rfl rfl (c_bet (s := 18) ht k30 hM1 hF1 (by omega) (by omega)) ?_
    rintro v3 M3 ⟨I3, rfl, hF3, hT3, hX⟩
    have h443 : I3 99 44 = nI (nx b L p) := (hT3 44 (by omega) (by omega)).trans hC.2.1
    have h453 : I3 99 45 = nI (pl b L p) := (hT3 45 (by omega) (by omega)).trans hC.2.2.1
    rcases hX with ⟨rfl, hlo, hM3⟩ | ⟨rfl, hr4, hlo, hM3⟩
    · have hM3 : MS It t I3 (18 :: (unw 6 h u).1) (unw 6 h u).2 := hM3
      have e0 : stp b L ((h, u), false, m, p) = some ((18 :: (unw 6 h u).1, (unw 6 h u).2), true, false, nx b L p) := by
        show stpN b L h u m p = _
        unfold stpN
        rw [if_neg g1, if_neg g2, if_neg g3, hs]
        rfl
      refine XP_ifN (x := 1)  rfl (by omega) (fun (b132 : ¬ 1 = 0) => ?_) (fun (b132 : 1 = 0) => absurd b132 (by omega))
      refine XP_n 4 (pc' := 139) (ls' := [.ref (99), .int (nI (1)), .int (nI (bn m)), .int (nI (18))]) (st' := [.int (nI (12)), .int (nI (18))]) (M' := (I3, J, Rx R, N, G)) rfl ?_
      refine XP_icN (x := 18) (y := 12) rfl (by omega) (by omega) (fun (b139 : 12 < 18) => ?_) (fun (b139 : 18 ≤ 12) => absurd b139 (by omega))
      refine XP_n 3 (pc' := 10) (ls' := [.ref (99), .int (nI (1)), .int (nI (0)), .int (nI (18))]) (st' := []) (M' := (I3, J, Rx R, N, G)) rfl ?_
      exact kGo _ _ true false _ I3 _ e0 hM3 hF3 h443
    · exact absurd hr4 (by decide)
theorem e_run (hT : TpM It b L) (hL : L ≤ 160) (hb : ∀ i, i < L → b i ≤ 255) (hD : WD J) (ht : t < 6) (k30 : It 99 30 = nI t) {T0 : PS} {Q : Option Value → hM → Prop} (hend : stp b L T0 = none) (kEnd : ∀ (I1 : Nat → Nat → Int32) (a : Nat), a ≤ 1 → (a = 1 ↔ Acc b L T0) → MO It t I1 (endU b L T0) → Fr0 It I1 → I1 99 45 = nI (pl b L T0.2.2.2) → I1 99 44 = nI (nx b L T0.2.2.2) → Q (some (.int (nI a))) (I1, J, Rx R, N, G)) : ∀ (n : Nat) (h u : List Nat) (w m : Bool) (p : Nat) (I1 : Nat → Nat → Int32) (x3 : Value), lds b L n ((h, u), w, m, p) T0 → h.length + u.length ≤ p → p ≤ L → MS It t I1 h u → Fr0 It I1 → I1 99 44 = nI p → XP X (d + 10) k_M_eRead 10 [.ref 99, .int (nI (bn w)), .int (nI (bn m)), x3] [] (I1, J, Rx R, N, G) Q := by
  intro n
  induction n with
  | zero =>
    rintro h u w m p I1 x3 hl hsz hp hM hF h44
    have hl : ((h, u), w, m, p) = T0 := hl
    subst hl
    cases w with
    | true => exact e_stepW hT hL hb hD ht k30 hsz hp hM hF h44 (fun h1 u1 w1 m1 p1 I1 x3 e _ _ _ => by rw [hend] at e; cases e) (fun I1 a e h1 h2 h3 h4 h5 h6 => kEnd I1 a h1 h2 h3 h4 h5 h6)
    | false => exact e_stepN hT hL hb hD ht k30 hsz hp hM hF h44 (fun h1 u1 w1 m1 p1 I1 x3 e _ _ _ => by rw [hend] at e; cases e) (fun I1 a e h1 h2 h3 h4 h5 h6 => kEnd I1 a h1 h2 h3 h4 h5 h6)
  | succ n ih =>
    rintro h u w m p I1 x3 ⟨S1, e1, hl⟩ hsz hp hM hF h44
    have go : ∀ (h1 u1 : List Nat) (w1 m1 : Bool) (p1 : Nat) (I1 : Nat → Nat → Int32) (x3 : Value), stp b L ((h, u), w, m, p) = some ((h1, u1), w1, m1, p1) → MS It t I1 h1 u1 → Fr0 It I1 → I1 99 44 = nI p1 → XP X (d + 10) k_M_eRead 10 [.ref 99, .int (nI (bn w1)), .int (nI (bn m1)), x3] [] (I1, J, Rx R, N, G) Q := fun h1 u1 w1 m1 p1 I1 x3 e a1 a2 a3 => by
      have hb2 := stp_bnd hsz hp e
      rw [e1] at e
      injection e with e
      subst e
      exact ih h1 u1 w1 m1 p1 I1 x3 hl hb2.1 hb2.2 a1 a2 a3
    cases w with
    | true => exact e_stepW hT hL hb hD ht k30 hsz hp hM hF h44 go (fun I1 a e _ _ _ _ _ _ => by rw [e1] at e; cases e)
    | false => exact e_stepN hT hL hb hD ht k30 hsz hp hM hF h44 go (fun I1 a e _ _ _ _ _ _ => by rw [e1] at e; cases e)
theorem c_eRead (hT : TpM It b L) (hL : L ≤ 160) (hb : ∀ i, i < L → b i ≤ 255) (hD : WD J) (ht : t < 6) (k30 : It 99 30 = nI t) {P : Nat} {u : List Nat} {T0 : PS} (hO : MO It t I u) (hF : Fr0 It I) (h44 : I 99 44 = nI P) (hu : u.length ≤ P) (hP : P ≤ L) (hld : Leads b L (([], u), true, true, P) T0) (hend : stp b L T0 = none) : TP X (d + 10) n_M_eRead [.ref 99] (I, J, Rx R, N, G) (fun v M' => ∃ I1 a, v = some (.int (nI a)) ∧ M' = (I1, J, Rx R, N, G) ∧ a ≤ 1 ∧ (a = 1 ↔ Acc b L T0) ∧ MO It t I1 (endU b L T0) ∧ Fr0 It I1 ∧ I1 99 45 = nI (pl b L T0.2.2.2) ∧ I1 99 44 = nI (nx b L T0.2.2.2)) := by
  obtain ⟨n, hld⟩ := hld
  unfold TP
  show XP X _ k_M_eRead 0 [.ref (99), xj, xj, xj] [] _ _
  refine XP_n 10 (pc' := 10) (ls' := [.ref (99), .int (nI (1)), .int (nI (1)), xj]) (st' := []) (M' := ((rw2 (rw2 I 99 50 (nI (0))) 99 51 (nI (0))), J, Rx R, N, G)) rfl ?_
  exact e_run hT hL hb hD ht k30 hend (fun I1 a h1 h2 h3 h4 h5 h6 => ⟨I1, a, rfl, rfl, h1, h2, h3, h4, h5, h6⟩) n [] u true true P _ _ hld (by show 0 + u.length ≤ P; omega) hP ⟨rfl, rfl, hO.1, fun i hi => absurd hi (by simp), hO.2, fun x hx => by cases hx⟩ ((hF.w (by omega)).w (by omega)) h44
end
