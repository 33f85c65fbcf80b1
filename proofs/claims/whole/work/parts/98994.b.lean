/-! the model's reading of an expression: holding, signs -/
section
variable {X : hX} {d : Nat} {s I : Nat → Nat → Int32} {J : Nat → Nat → Int64} {R : Nat → Nat → Option Nat} {N : Nat → Nat} {G : hG} {I0 : Nat → Nat → Int32} {t : Nat} {b : Nat → Nat} {L : Nat}
theorem MS.hold {h u : List Nat} {s : Nat} {Ib : Nat → Nat → Int32} (hM : MS I0 t I h u) (hs : s < 20) (h1 : ∀ k, k ≠ 99 → Ib k = I k) (h52 : Ib 99 52 = I 99 52) (h51 : Ib 99 51 = nI (cnt (s :: h))) : MS I0 t (rw2 (rw2 Ib 124 h.length (nI s)) 99 50 (nI (h.length + 1))) (s :: h) u := by
  obtain ⟨a, b, c, d, e, f⟩ := hM
  refine ⟨rw2_on, ?_, ?_, fun i hi => ?_, fun j => ?_, fun x hx => ?_⟩
  · rw [rw2_c, if_neg (by omega), rw2_ro (by omega)]
    exact h51
  · rw [rw2_c, if_neg (by omega), rw2_ro (by omega), h52]
    exact c
  · rw [rw2_ro (show (124 : Nat) ≠ 99 by omega), rw2_c]
    rw [List.length_cons] at hi
    by_cases g : i = h.length
    · rw [if_pos g, g, List.length_cons, show h.length + 1 - 1 - h.length = 0 by omega]
      rfl
    · rw [if_neg g, gd_rev (by omega), h1 124 (by omega)]
      exact d i (by omega)
  · rw [rw2_ro (show (117 : Nat) ≠ 99 by omega), rw2_ro (show (117 : Nat) ≠ 124 by omega), h1 117 (by omega)]
    exact e j
  · rcases List.mem_cons.mp hx with rfl | hx
    · exact hs
    · exact f x hx
theorem c_holds {n : Nat} (hn : n < 200) (k50 : I 99 50 = nI n) (x : Int32) : TP X d n_M_holds [.ref 99, .int x] (I, J, Rx R, N, G) (fun v M' => v = none ∧ M' = (rw2 (rw2 I 124 n x) 99 50 (nI (n + 1)), J, Rx R, N, G)) := by
  unfold TP
  show XP X _ k_M_holds 0 [.ref (99), .int (x)] [] _ _
  refine XP_n 4 (pc' := 4) (ls' := [.ref (99), .int (x)]) (st' := [.int (I 99 50), .ref (124)]) (M' := (I, J, Rx R, N, G)) rfl ?_
  rw [k50]
  refine XP_n 1 (pc' := 5) (ls' := [.ref (99), .int (x)]) (st' := [.int (x), .int (nI (n)), .ref (124)]) (M' := (I, J, Rx R, N, G)) rfl ?_
  refine XP_iast rfl rfl (show n < 200 by omega) rfl (by omega) ?_
  refine XP_n 3 (pc' := 9) (ls' := [.ref (99), .int (x)]) (st' := [.int (I 99 50), .ref (99)]) (M' := ((rw2 I 124 n (x)), J, Rx R, N, G)) rfl ?_
  rw [k50]
  refine XP_n 2 (pc' := 11) (ls' := [.ref (99), .int (x)]) (st' := [.int ((nI (n)) + (nI (1))), .ref (99)]) (M' := ((rw2 I 124 n (x)), J, Rx R, N, G)) rfl ?_
  rw [show (nI (n)) + (nI (1)) = nI (n + 1) from nI_addE (rfl) (rfl)]
  refine XP_n 1 (pc' := 12) (ls' := [.ref (99), .int (x)]) (st' := []) (M' := ((rw2 (rw2 I 124 n (x)) 99 50 (nI (n + 1))), J, Rx R, N, G)) rfl ?_
  exact XP_ret rfl ⟨rfl, rfl⟩
theorem c_opT {h u : List Nat} {s : Nat} {It : Nat → Nat → Int32} (hM : MS I0 t I h u) (hF : Fr0 It I) (hl : h.length + u.length ≤ 160) (hs : s = 0 ∨ s = 13 ∨ s = 19) (hc : cnt h ≠ 5) : TP X (d + 1) n_M_opensOne [.ref 99, .int (nI s)] (I, J, Rx R, N, G) (fun v M' => v = some (.int (nI 1)) ∧ ∃ I', M' = (I', J, Rx R, N, G) ∧ MS I0 t I' (s :: h) u ∧ Fr0 It I' ∧ (∀ j, 44 ≤ j → j ≤ 47 → I' 99 j = I 99 j)) := by
  have hcl := cnt_le h
  have hcs : cnt (s :: h) = cnt h + 1 := by
    show (if s = 0 ∨ s = 13 ∨ s = 19 then 1 else 0) + cnt h = _
    rw [if_pos hs]
    omega
  unfold TP
  show XP X _ k_M_opensOne 0 [.ref (99), .int (nI (s))] [] _ _
  refine XP_n 2 (pc' := 2) (ls' := [.ref (99), .int (nI (s))]) (st' := [.int (I 99 51)]) (M' := (I, J, Rx R, N, G)) rfl ?_
  rw [hM.2.1]
  refine XP_n 1 (pc' := 3) (ls' := [.ref (99), .int (nI (s))]) (st' := [.int (nI (5)), .int (nI (cnt h))]) (M' := (I, J, Rx R, N, G)) rfl ?_
  refine XP_icN (x := cnt h) (y := 5) rfl (by omega) (by omega) (fun (b3 : ¬ cnt h = 5) => ?_) (fun (b3 : cnt h = 5) => absurd b3 (by omega))
  refine XP_n 3 (pc' := 9) (ls' := [.ref (99), .int (nI (s))]) (st' := [.int (I 99 51), .ref (99)]) (M' := (I, J, Rx R, N, G)) rfl ?_
  rw [hM.2.1]
  refine XP_n 2 (pc' := 11) (ls' := [.ref (99), .int (nI (s))]) (st' := [.int ((nI (cnt h)) + (nI (1))), .ref (99)]) (M' := (I, J, Rx R, N, G)) rfl ?_
  rw [show (nI (cnt h)) + (nI (1)) = nI (cnt h + 1) from nI_addE (rfl) (rfl)]
  refine XP_n 3 (pc' := 14) (ls' := [.ref (99), .int (nI (s))]) (st' := [.int (nI (s)), .ref (99)]) (M' := ((rw2 I 99 51 (nI (cnt h + 1))), J, Rx R, N, G)) rfl ?_
  refine XP_call rfl rfl (c_holds (I := (rw2 I 99 51 (nI (cnt h + 1)))) (n := h.length) (by omega) (by exact hM.1) _) ?_
  rintro v1 M1 ⟨rfl, rfl⟩
  refine XP_n 1 (pc' := 16) (ls' := [.ref (99), .int (nI (s))]) (st' := [.int (nI (1))]) (M' := ((rw2 (rw2 (rw2 I 99 51 (nI (cnt h + 1))) 124 h.length (nI (s))) 99 50 (nI (h.length + 1))), J, Rx R, N, G)) rfl ?_
  exact XP_ret rfl ⟨rfl, _, rfl, hM.hold (by omega) (fun k hk => rw2_ro hk) (by rw [rw2_c, if_neg (by omega)]) (by rw [hcs]; exact rw2_on), (hF.w (by omega)).put (Or.inr rfl) (by omega), fun j h1 h2 => by rw [rw2_c, if_neg (by omega), rw2_ro (by omega), rw2_c, if_neg (by omega)]⟩
theorem c_opF {h u : List Nat} (s : Int32) (hM : MS I0 t I h u) (hc : cnt h = 5) : TP X (d + 1) n_M_opensOne [.ref 99, .int s] (I, J, Rx R, N, G) (Ret (.int (nI 0)) (I, J, Rx R, N, G)) := by
  unfold TP
  show XP X _ k_M_opensOne 0 [.ref (99), .int (s)] [] _ _
  refine XP_n 2 (pc' := 2) (ls' := [.ref (99), .int (s)]) (st' := [.int (I 99 51)]) (M' := (I, J, Rx R, N, G)) rfl ?_
  rw [hM.2.1]
  refine XP_n 1 (pc' := 3) (ls' := [.ref (99), .int (s)]) (st' := [.int (nI (5)), .int (nI (cnt h))]) (M' := (I, J, Rx R, N, G)) rfl ?_
  refine XP_icN (x := cnt h) (y := 5) rfl (by omega) (by omega) (fun (b3 : ¬ cnt h = 5) => absurd b3 (by omega)) (fun (b3 : cnt h = 5) => ?_)
  refine XP_n 1 (pc' := 5) (ls' := [.ref (99), .int (s)]) (st' := [.int (nI (0))]) (M' := (I, J, Rx R, N, G)) rfl ?_
  exact XP_ret rfl ⟨rfl, rfl⟩
theorem c_bet {h u : List Nat} {s : Nat} {It : Nat → Nat → Int32} (ht : t < 6) (k30 : It 99 30 = nI t) (hM : MS I0 t I h u) (hF : Fr0 It I) (hl : h.length + u.length ≤ 160) (hs : 11 ≤ s ∧ s ≤ 18 ∧ s ≠ 13) : TP X (d + 2) n_M_between [.ref 99, .int (nI s)] (I, J, Rx R, N, G) (fun v M' => ∃ I', M' = (I', J, Rx R, N, G) ∧ Fr0 It I' ∧ (∀ j, 44 ≤ j → j ≤ 47 → I' 99 j = I 99 j) ∧
    ((v = some (.int (nI 1)) ∧ (rk s = 4 → lowB 4 (unw 5 h u).1 = true) ∧ MS I0 t I' (s :: (unw (if rk s = 4 then 5 else rk s) h u).1) (unw (if rk s = 4 then 5 else rk s) h u).2) ∨ (v = some (.int (nI 0)) ∧ rk s = 4 ∧ lowB 4 (unw 5 h u).1 = false ∧ MS I0 t I' (unw 5 h u).1 (unw 5 h u).2))) := by
  have hrk := rk_le s
  have hr1 : 1 ≤ rk s := by
    unfold rk
    repeat' split
    all_goals omega
  have hn0 : ∀ g : List Nat, cnt (s :: g) = cnt g := fun g => by
    show (if s = 0 ∨ s = 13 ∨ s = 19 then 1 else 0) + cnt g = _
    rw [if_neg (by omega)]
    omega
  by_cases g4 : rk s = 4
  rotate_left
  · rw [if_neg g4]
    unfold TP
    show XP X _ k_M_between 0 [.ref (99), .int (nI (s))] [] _ _
    refine XP_n 2 (pc' := 2) (ls' := [.ref (99), .int (nI (s))]) (st' := [.int (nI (s)), .ref (99)]) (M' := (I, J, Rx R, N, G)) rfl ?_
    refine XP_pure rfl rfl (c_rank (by omega)) ?_
    refine XP_n 1 (pc' := 4) (ls' := [.ref (99), .int (nI (s))]) (st' := [.int (nI (4)), .int (nI (rk s)), .ref (99)]) (M' := (I, J, Rx R, N, G)) rfl ?_
    refine XP_icN (x := rk s) (y := 4) rfl (by omega) (by omega) (fun (b4 : ¬ rk s = 4) => ?_) (fun (b4 : rk s = 4) => absurd b4 (by omega))
    refine XP_n 1 (pc' := 8) (ls' := [.ref (99), .int (nI (s))]) (st' := [.int (nI (s)), .ref (99)]) (M' := (I, J, Rx R, N, G)) rfl ?_
    refine XP_pure rfl rfl (c_rank (by omega)) ?_
    refine XP_call rfl rfl (c_unw (r := rk s) (by omega) (by omega) ht k30 hl hM hF) ?_
    rintro v1 M1 ⟨rfl, I1, rfl, hM1, hF1, hT1⟩
    have hl1 := unw_len (rk s) h u
    generalize hgu : unw (rk s) h u = U at hM1 hl1 ⊢
    obtain ⟨h1, u1⟩ := U
    have hM1 : MS I0 t I1 h1 u1 := hM1
    have hl1 : h1.length + u1.length = h.length + u.length := hl1
    refine XP_n 1 (pc' := 11) (ls' := [.ref (99), .int (nI (s))]) (st' := [.int (nI (s))]) (M' := (I1, J, Rx R, N, G)) rfl ?_
    refine XP_pure rfl rfl (c_rank (by omega)) ?_
    refine XP_n 1 (pc' := 13) (ls' := [.ref (99), .int (nI (s))]) (st' := [.int (nI (4)), .int (nI (rk s))]) (M' := (I1, J, Rx R, N, G)) rfl ?_
    refine XP_icN (x := rk s) (y := 4) rfl (by omega) (by omega) (fun (b13 : ¬ rk s = 4) => ?_) (fun (b13 : rk s = 4) => absurd b13 (by omega))
    refine XP_n 2 (pc' := 31) (ls' := [.ref (99), .int (nI (s))]) (st' := [.int (nI (s)), .ref (99)]) (M' := (I1, J, Rx R, N, G)) rfl ?_
    refine XP_call rfl rfl (c_holds (n := h1.length) (by omega) hM1.1 _) ?_
    rintro v2 M2 ⟨rfl, rfl⟩
    refine XP_n 1 (pc' := 33) (ls' := [.ref (99), .int (nI (s))]) (st' := [.int (nI (1))]) (M' := ((rw2 (rw2 I1 124 h1.length (nI (s))) 99 50 (nI (h1.length + 1))), J, Rx R, N, G)) rfl ?_
    exact XP_ret rfl ⟨_, rfl, hF1.put (Or.inr rfl) (by omega), fun j q1 q2 => by rw [rw2_c, if_neg (by omega), rw2_ro (by omega)]; exact hT1 j q1 q2, Or.inl ⟨rfl, fun z => absurd z g4, hM1.hold (by omega) (fun _ _ => rfl) rfl (by rw [hn0]; exact hM1.2.1)⟩⟩
  rw [if_pos g4]
  have hwis := unw_is 5 h u
  by_cases g5 : lowB 4 (unw 5 h u).1 = true
  · skip
    unfold TP
    show XP X _ k_M_between 0 [.ref (99), .int (nI (s))] [] _ _
    refine XP_n 2 (pc' := 2) (ls' := [.ref (99), .int (nI (s))]) (st' := [.int (nI (s)), .ref (99)]) (M' := (I, J, Rx R, N, G)) rfl ?_
    refine XP_pure rfl rfl (c_rank (by omega)) ?_
    refine XP_n 1 (pc' := 4) (ls' := [.ref (99), .int (nI (s))]) (st' := [.int (nI (4)), .int (nI (rk s)), .ref (99)]) (M' := (I, J, Rx R, N, G)) rfl ?_
    refine XP_icN (x := rk s) (y := 4) rfl (by omega) (by omega) (fun (b4 : ¬ rk s = 4) => absurd b4 (by omega)) (fun (b4 : rk s = 4) => ?_)
    refine XP_n 2 (pc' := 9) (ls' := [.ref (99), .int (nI (s))]) (st' := [.int (nI (5)), .ref (99)]) (M' := (I, J, Rx R, N, G)) rfl ?_
    refine XP_call rfl rfl (c_unw (r := 5) (by omega) (by omega) ht k30 hl hM hF) ?_
    rintro v1 M1 ⟨rfl, I1, rfl, hM1, hF1, hT1⟩
    have hl1 := unw_len (5) h u
    generalize hgu : unw (5) h u = U at hM1 hl1 ⊢
    obtain ⟨h1, u1⟩ := U
    have hM1 : MS I0 t I1 h1 u1 := hM1
    have hl1 : h1.length + u1.length = h.length + u.length := hl1
    refine XP_n 1 (pc' := 11) (ls' := [.ref (99), .int (nI (s))]) (st' := [.int (nI (s))]) (M' := (I1, J, Rx R, N, G)) rfl ?_
    refine XP_pure rfl rfl (c_rank (by omega)) ?_
    refine XP_n 1 (pc' := 13) (ls' := [.ref (99), .int (nI (s))]) (st' := [.int (nI (4)), .int (nI (rk s))]) (M' := (I1, J, Rx R, N, G)) rfl ?_
    refine XP_icN (x := rk s) (y := 4) rfl (by omega) (by omega) (fun (b13 : ¬ rk s = 4) => absurd b13 (by omega)) (fun (b13 : rk s = 4) => ?_)
    have g5 : lowB 4 h1 = true := by rw [hgu] at g5; exact g5
    match h1, hM1, hl1, hgu, g5, hwis with
    | [], hM1, hl1, hgu, g5, _ =>
      have q0 : I1 99 50 = nI 0 := hM1.1
      refine XP_n 2 (pc' := 16) (ls' := [.ref (99), .int (nI (s))]) (st' := [.int (I1 99 50)]) (M' := (I1, J, Rx R, N, G)) rfl ?_
      rw [q0]
      refine XP_ifN (x := 0)  rfl (by omega) (fun (b16 : 0 ≤ 0) => ?_) (fun (b16 : 0 < 0) => absurd b16 (by omega))
      refine XP_n 2 (pc' := 31) (ls' := [.ref (99), .int (nI (s))]) (st' := [.int (nI (s)), .ref (99)]) (M' := (I1, J, Rx R, N, G)) rfl ?_
      refine XP_call rfl rfl (c_holds (n := 0) (by omega) hM1.1 _) ?_
      rintro v2 M2 ⟨rfl, rfl⟩
      refine XP_n 1 (pc' := 33) (ls' := [.ref (99), .int (nI (s))]) (st' := [.int (nI (1))]) (M' := ((rw2 (rw2 I1 124 0 (nI (s))) 99 50 (nI (0 + 1))), J, Rx R, N, G)) rfl ?_
      exact XP_ret rfl ⟨_, rfl, hF1.put (Or.inr rfl) (by omega), fun j q1 q2 => by rw [rw2_c, if_neg (by omega), rw2_ro (by omega)]; exact hT1 j q1 q2, Or.inl ⟨rfl, fun _ => g5, hM1.hold (by omega) (fun _ _ => rfl) rfl (by rw [hn0]; exact hM1.2.1)⟩⟩
    | x :: h1, hM1, hl1, hgu, g5, hwis =>
      have hx20 := hM1.2.2.2.2.2 x (List.mem_cons_self ..)
      have hx4 : rk x < 4 := Nat.le_of_ble_eq_true g5
      have q0 : I1 99 50 = nI (h1.length + 1) := hM1.1
      have q124 : I1 124 (h1.length + 1 - 1) = nI x := by
        have := hM1.2.2.2.1 (h1.length + 1 - 1) (by rw [List.length_cons]; omega)
        rw [List.length_cons, Nat.sub_self] at this
        exact this
      rw [List.length_cons] at hl1
      refine XP_n 2 (pc' := 16) (ls' := [.ref (99), .int (nI (s))]) (st' := [.int (I1 99 50)]) (M' := (I1, J, Rx R, N, G)) rfl ?_
      rw [q0]
      refine XP_ifN (x := h1.length + 1)  rfl (by omega) (fun (b16 : h1.length + 1 ≤ 0) => absurd b16 (by omega)) (fun (b16 : 0 < h1.length + 1) => ?_)
      refine XP_n 4 (pc' := 21) (ls' := [.ref (99), .int (nI (s))]) (st' := [.int (I1 99 50), .ref (124)]) (M' := (I1, J, Rx R, N, G)) rfl ?_
      rw [q0]
      refine XP_n 2 (pc' := 23) (ls' := [.ref (99), .int (nI (s))]) (st' := [.int ((nI (h1.length + 1)) - (nI (1))), .ref (124)]) (M' := (I1, J, Rx R, N, G)) rfl ?_
      rw [show (nI (h1.length + 1)) - (nI (1)) = nI (h1.length + 1 - 1) from nI_subE (rfl) (rfl) (by omega)]
      refine XP_iraw rfl rfl (show h1.length + 1 - 1 < 200 by omega) rfl (by omega) ?_
      rw [show I1 124 (h1.length + 1 - 1) = nI (x) from q124]
      refine XP_pure rfl rfl (c_rank (by omega)) ?_
      refine XP_n 1 (pc' := 26) (ls' := [.ref (99), .int (nI (s))]) (st' := [.int (nI (4)), .int (nI (rk x))]) (M' := (I1, J, Rx R, N, G)) rfl ?_
      refine XP_icN (x := rk x) (y := 4) rfl (by omega) (by omega) (fun (b26 : ¬ rk x = 4) => ?_) (fun (b26 : rk x = 4) => absurd b26 (by omega))
      refine XP_n 2 (pc' := 31) (ls' := [.ref (99), .int (nI (s))]) (st' := [.int (nI (s)), .ref (99)]) (M' := (I1, J, Rx R, N, G)) rfl ?_
      refine XP_call rfl rfl (c_holds (n := h1.length + 1) (by omega) hM1.1 _) ?_
      rintro v2 M2 ⟨rfl, rfl⟩
      refine XP_n 1 (pc' := 33) (ls' := [.ref (99), .int (nI (s))]) (st' := [.int (nI (1))]) (M' := ((rw2 (rw2 I1 124 (h1.length + 1) (nI (s))) 99 50 (nI (h1.length + 1 + 1))), J, Rx R, N, G)) rfl ?_
      exact XP_ret rfl ⟨_, rfl, hF1.put (Or.inr rfl) (by omega), fun j q1 q2 => by rw [rw2_c, if_neg (by omega), rw2_ro (by omega)]; exact hT1 j q1 q2, Or.inl ⟨rfl, fun _ => g5, hM1.hold (by omega) (fun _ _ => rfl) rfl (by rw [hn0]; exact hM1.2.1)⟩⟩
  · have g6 : lowB 4 (unw 5 h u).1 = false := Bool.eq_false_iff.mpr g5
    unfold TP
    show XP X _ k_M_between 0 [.ref (99), .int (nI (s))] [] _ _
    refine XP_n 2 (pc' := 2) (ls' := [.ref (99), .int (nI (s))]) (st' := [.int (nI (s)), .ref (99)]) (M' := (I, J, Rx R, N, G)) rfl ?_
    refine XP_pure rfl rfl (c_rank (by omega)) ?_
    refine XP_n 1 (pc' := 4) (ls' := [.ref (99), .int (nI (s))]) (st' := [.int (nI (4)), .int (nI (rk s)), .ref (99)]) (M' := (I, J, Rx R, N, G)) rfl ?_
    refine XP_icN (x := rk s) (y := 4) rfl (by omega) (by omega) (fun (b4 : ¬ rk s = 4) => absurd b4 (by omega)) (fun (b4 : rk s = 4) => ?_)
    refine XP_n 2 (pc' := 9) (ls' := [.ref (99), .int (nI (s))]) (st' := [.int (nI (5)), .ref (99)]) (M' := (I, J, Rx R, N, G)) rfl ?_
    refine XP_call rfl rfl (c_unw (r := 5) (by omega) (by omega) ht k30 hl hM hF) ?_
    rintro v1 M1 ⟨rfl, I1, rfl, hM1, hF1, hT1⟩
    have hl1 := unw_len (5) h u
    generalize hgu : unw (5) h u = U at hM1 hl1 ⊢
    obtain ⟨h1, u1⟩ := U
    have hM1 : MS I0 t I1 h1 u1 := hM1
    have hl1 : h1.length + u1.length = h.length + u.length := hl1
    refine XP_n 1 (pc' := 11) (ls' := [.ref (99), .int (nI (s))]) (st' := [.int (nI (s))]) (M' := (I1, J, Rx R, N, G)) rfl ?_
    refine XP_pure rfl rfl (c_rank (by omega)) ?_
    refine XP_n 1 (pc' := 13) (ls' := [.ref (99), .int (nI (s))]) (st' := [.int (nI (4)), .int (nI (rk s))]) (M' := (I1, J, Rx R, N, G)) rfl ?_
    refine XP_icN (x := rk s) (y := 4) rfl (by omega) (by omega) (fun (b13 : ¬ rk s = 4) => absurd b13 (by omega)) (fun (b13 : rk s = 4) => ?_)
    have g6 : lowB 4 h1 = false := by rw [hgu] at g6; exact g6
    match h1, hM1, hl1, hgu, g6, hwis with
    | x :: h1, hM1, hl1, hgu, g6, hwis =>
      have hwis : Nat.blt (rk x) 5 = true := by rw [hgu] at hwis; exact hwis
      have hx20 := hM1.2.2.2.2.2 x (List.mem_cons_self ..)
      have hx5 : rk x < 5 := Nat.le_of_ble_eq_true hwis
      have hx4 : ¬ rk x < 4 := fun z => by
        have : lowB 4 (x :: h1) = true := Nat.ble_eq.mpr z
        rw [this] at g6
        cases g6
      have q0 : I1 99 50 = nI (h1.length + 1) := hM1.1
      have q124 : I1 124 (h1.length + 1 - 1) = nI x := by
        have := hM1.2.2.2.1 (h1.length + 1 - 1) (by rw [List.length_cons]; omega)
        rw [List.length_cons, Nat.sub_self] at this
        exact this
      rw [List.length_cons] at hl1
      refine XP_n 2 (pc' := 16) (ls' := [.ref (99), .int (nI (s))]) (st' := [.int (I1 99 50)]) (M' := (I1, J, Rx R, N, G)) rfl ?_
      rw [q0]
      refine XP_ifN (x := h1.length + 1)  rfl (by omega) (fun (b16 : h1.length + 1 ≤ 0) => absurd b16 (by omega)) (fun (b16 : 0 < h1.length + 1) => ?_)
      refine XP_n 4 (pc' := 21) (ls' := [.ref (99), .int (nI (s))]) (st' := [.int (I1 99 50), .ref (124)]) (M' := (I1, J, Rx R, N, G)) rfl ?_
      rw [q0]
      refine XP_n 2 (pc' := 23) (ls' := [.ref (99), .int (nI (s))]) (st' := [.int ((nI (h1.length + 1)) - (nI (1))), .ref (124)]) (M' := (I1, J, Rx R, N, G)) rfl ?_
      rw [show (nI (h1.length + 1)) - (nI (1)) = nI (h1.length + 1 - 1) from nI_subE (rfl) (rfl) (by omega)]
      refine XP_iraw rfl rfl (show h1.length + 1 - 1 < 200 by omega) rfl (by omega) ?_
      rw [show I1 124 (h1.length + 1 - 1) = nI (x) from q124]
      refine XP_pure rfl rfl (c_rank (by omega)) ?_
      refine XP_n 1 (pc' := 26) (ls' := [.ref (99), .int (nI (s))]) (st' := [.int (nI (4)), .int (nI (rk x))]) (M' := (I1, J, Rx R, N, G)) rfl ?_
      refine XP_icN (x := rk x) (y := 4) rfl (by omega) (by omega) (fun (b26 : ¬ rk x = 4) => absurd b26 (by omega)) (fun (b26 : rk x = 4) => ?_)
      refine XP_n 1 (pc' := 28) (ls' := [.ref (99), .int (nI (s))]) (st' := [.int (nI (0))]) (M' := (I1, J, Rx R, N, G)) rfl ?_
      exact XP_ret rfl ⟨_, rfl, hF1, hT1, Or.inr ⟨rfl, g4, g6, hM1⟩⟩
theorem c_sgn {k : Nat} (hk : (k = 40 ∨ k = 41 ∨ k = 59 ∨ k = 43 ∨ k = 45 ∨ k = 42 ∨ k = 60 ∨ k = 61) ∨ (1000 ≤ k ∧ k ≤ 1011) ∨ k = 2000 ∨ k = 2001 ∨ k = 2002) (h46 : I 99 46 = mT k) : TP X d n_M_signOf [.ref 99] (I, J, Rx R, N, G) (Ret (.int (if sgn k = 0 then cI (-1) else nI (sgn k))) (I, J, Rx R, N, G)) := by
  have hc : k = 1009 ∨ k = 1010 ∨ k = 60 ∨ k = 61 ∨ k = 43 ∨ k = 45 ∨ k = 42 ∨ k = 40 ∨ k = 41 ∨ k = 59 ∨ k = 1011 ∨ k = 2000 ∨ k = 2001 ∨ k = 2002 ∨ (1000 ≤ k ∧ k < 1006) ∨ (1006 ≤ k ∧ k < 1009) := by omega
  rcases hc with rfl | rfl | rfl | rfl | rfl | rfl | rfl | rfl | rfl | rfl | rfl | rfl | rfl | rfl | hc | hc
  · have q : I 99 46 = nI 4 := h46
    unfold TP
    show XP X _ k_M_signOf 0 [.ref (99)] [] _ _
    refine XP_n 2 (pc' := 2) (ls' := [.ref (99)]) (st' := [.int (I 99 46)]) (M' := (I, J, Rx R, N, G)) rfl ?_
    rw [q]
    refine XP_n 1 (pc' := 3) (ls' := [.ref (99)]) (st' := [.int (nI (4)), .int (nI (4))]) (M' := (I, J, Rx R, N, G)) rfl ?_
    refine XP_icN (x := 4) (y := 4) rfl (by omega) (by omega) (fun (b3 : ¬ 4 = 4) => absurd b3 (by omega)) (fun (b3 : 4 = 4) => ?_)
    refine XP_n 2 (pc' := 43) (ls' := [.ref (99)]) (st' := [.int (nI (11))]) (M' := (I, J, Rx R, N, G)) rfl ?_
    exact XP_ret rfl ⟨rfl, rfl⟩
  · have q : I 99 46 = nI 5 := h46
    unfold TP
    show XP X _ k_M_signOf 0 [.ref (99)] [] _ _
    refine XP_n 2 (pc' := 2) (ls' := [.ref (99)]) (st' := [.int (I 99 46)]) (M' := (I, J, Rx R, N, G)) rfl ?_
    rw [q]
    refine XP_n 1 (pc' := 3) (ls' := [.ref (99)]) (st' := [.int (nI (4)), .int (nI (5))]) (M' := (I, J, Rx R, N, G)) rfl ?_
    refine XP_icN (x := 5) (y := 4) rfl (by omega) (by omega) (fun (b3 : ¬ 5 = 4) => ?_) (fun (b3 : 5 = 4) => absurd b3 (by omega))
    refine XP_n 2 (pc' := 8) (ls' := [.ref (99)]) (st' := [.int (I 99 46)]) (M' := (I, J, Rx R, N, G)) rfl ?_
    rw [q]
    refine XP_n 1 (pc' := 9) (ls' := [.ref (99)]) (st' := [.int (nI (5)), .int (nI (5))]) (M' := (I, J, Rx R, N, G)) rfl ?_
    refine XP_icN (x := 5) (y := 5) rfl (by omega) (by omega) (fun (b9 : ¬ 5 = 5) => absurd b9 (by omega)) (fun (b9 : 5 = 5) => ?_)
    refine XP_n 2 (pc' := 43) (ls' := [.ref (99)]) (st' := [.int (nI (12))]) (M' := (I, J, Rx R, N, G)) rfl ?_
    exact XP_ret rfl ⟨rfl, rfl⟩
  · have q : I 99 46 = nI 60 := h46
    unfold TP
    show XP X _ k_M_signOf 0 [.ref (99)] [] _ _
    refine XP_n 2 (pc' := 2) (ls' := [.ref (99)]) (st' := [.int (I 99 46)]) (M' := (I, J, Rx R, N, G)) rfl ?_
    rw [q]
    refine XP_n 1 (pc' := 3) (ls' := [.ref (99)]) (st' := [.int (nI (4)), .int (nI (60))]) (M' := (I, J, Rx R, N, G)) rfl ?_
    refine XP_icN (x := 60) (y := 4) rfl (by omega) (by omega) (fun (b3 : ¬ 60 = 4) => ?_) (fun (b3 : 60 = 4) => absurd b3 (by omega))
    refine XP_n 2 (pc' := 8) (ls' := [.ref (99)]) (st' := [.int (I 99 46)]) (M' := (I, J, Rx R, N, G)) rfl ?_
    rw [q]
    refine XP_n 1 (pc' := 9) (ls' := [.ref (99)]) (st' := [.int (nI (5)), .int (nI (60))]) (M' := (I, J, Rx R, N, G)) rfl ?_
    refine XP_icN (x := 60) (y := 5) rfl (by omega) (by omega) (fun (b9 : ¬ 60 = 5) => ?_) (fun (b9 : 60 = 5) => absurd b9 (by omega))
    refine XP_n 2 (pc' := 14) (ls' := [.ref (99)]) (st' := [.int (I 99 46)]) (M' := (I, J, Rx R, N, G)) rfl ?_
    rw [q]
    refine XP_n 1 (pc' := 15) (ls' := [.ref (99)]) (st' := [.int (nI (60)), .int (nI (60))]) (M' := (I, J, Rx R, N, G)) rfl ?_
    refine XP_icN (x := 60) (y := 60) rfl (by omega) (by omega) (fun (b15 : ¬ 60 = 60) => absurd b15 (by omega)) (fun (b15 : 60 = 60) => ?_)
    refine XP_n 2 (pc' := 43) (ls' := [.ref (99)]) (st' := [.int (nI (14))]) (M' := (I, J, Rx R, N, G)) rfl ?_
    exact XP_ret rfl ⟨rfl, rfl⟩
  · have q : I 99 46 = nI 61 := h46
    unfold TP
    show XP X _ k_M_signOf 0 [.ref (99)] [] _ _
    refine XP_n 2 (pc' := 2) (ls' := [.ref (99)]) (st' := [.int (I 99 46)]) (M' := (I, J, Rx R, N, G)) rfl ?_
    rw [q]
    refine XP_n 1 (pc' := 3) (ls' := [.ref (99)]) (st' := [.int (nI (4)), .int (nI (61))]) (M' := (I, J, Rx R, N, G)) rfl ?_
    refine XP_icN (x := 61) (y := 4) rfl (by omega) (by omega) (fun (b3 : ¬ 61 = 4) => ?_) (fun (b3 : 61 = 4) => absurd b3 (by omega))
    refine XP_n 2 (pc' := 8) (ls' := [.ref (99)]) (st' := [.int (I 99 46)]) (M' := (I, J, Rx R, N, G)) rfl ?_
    rw [q]
    refine XP_n 1 (pc' := 9) (ls' := [.ref (99)]) (st' := [.int (nI (5)), .int (nI (61))]) (M' := (I, J, Rx R, N, G)) rfl ?_
    refine XP_icN (x := 61) (y := 5) rfl (by omega) (by omega) (fun (b9 : ¬ 61 = 5) => ?_) (fun (b9 : 61 = 5) => absurd b9 (by omega))
    refine XP_n 2 (pc' := 14) (ls' := [.ref (99)]) (st' := [.int (I 99 46)]) (M' := (I, J, Rx R, N, G)) rfl ?_
    rw [q]
    refine XP_n 1 (pc' := 15) (ls' := [.ref (99)]) (st' := [.int (nI (60)), .int (nI (61))]) (M' := (I, J, Rx R, N, G)) rfl ?_
    refine XP_icN (x := 61) (y := 60) rfl (by omega) (by omega) (fun (b15 : ¬ 61 = 60) => ?_) (fun (b15 : 61 = 60) => absurd b15 (by omega))
    refine XP_n 2 (pc' := 20) (ls' := [.ref (99)]) (st' := [.int (I 99 46)]) (M' := (I, J, Rx R, N, G)) rfl ?_
    rw [q]
    refine XP_n 1 (pc' := 21) (ls' := [.ref (99)]) (st' := [.int (nI (61)), .int (nI (61))]) (M' := (I, J, Rx R, N, G)) rfl ?_
    refine XP_icN (x := 61) (y := 61) rfl (by omega) (by omega) (fun (b21 : ¬ 61 = 61) => absurd b21 (by omega)) (fun (b21 : 61 = 61) => ?_)
    refine XP_n 2 (pc' := 43) (ls' := [.ref (99)]) (st' := [.int (nI (15))]) (M' := (I, J, Rx R, N, G)) rfl ?_
    exact XP_ret rfl ⟨rfl, rfl⟩
  · have q : I 99 46 = nI 43 := h46
    unfold TP
    show XP X _ k_M_signOf 0 [.ref (99)] [] _ _
    refine XP_n 2 (pc' := 2) (ls' := [.ref (99)]) (st' := [.int (I 99 46)]) (M' := (I, J, Rx R, N, G)) rfl ?_
    rw [q]
    refine XP_n 1 (pc' := 3) (ls' := [.ref (99)]) (st' := [.int (nI (4)), .int (nI (43))]) (M' := (I, J, Rx R, N, G)) rfl ?_
    refine XP_icN (x := 43) (y := 4) rfl (by omega) (by omega) (fun (b3 : ¬ 43 = 4) => ?_) (fun (b3 : 43 = 4) => absurd b3 (by omega))
    refine XP_n 2 (pc' := 8) (ls' := [.ref (99)]) (st' := [.int (I 99 46)]) (M' := (I, J, Rx R, N, G)) rfl ?_
    rw [q]
    refine XP_n 1 (pc' := 9) (ls' := [.ref (99)]) (st' := [.int (nI (5)), .int (nI (43))]) (M' := (I, J, Rx R, N, G)) rfl ?_
    refine XP_icN (x := 43) (y := 5) rfl (by omega) (by omega) (fun (b9 : ¬ 43 = 5) => ?_) (fun (b9 : 43 = 5) => absurd b9 (by omega))
    refine XP_n 2 (pc' := 14) (ls' := [.ref (99)]) (st' := [.int (I 99 46)]) (M' := (I, J, Rx R, N, G)) rfl ?_
    rw [q]
    refine XP_n 1 (pc' := 15) (ls' := [.ref (99)]) (st' := [.int (nI (60)), .int (nI (43))]) (M' := (I, J, Rx R, N, G)) rfl ?_
    refine XP_icN (x := 43) (y := 60) rfl (by omega) (by omega) (fun (b15 : ¬ 43 = 60) => ?_) (fun (b15 : 43 = 60) => absurd b15 (by omega))
    refine XP_n 2 (pc' := 20) (ls' := [.ref (99)]) (st' := [.int (I 99 46)]) (M' := (I, J, Rx R, N, G)) rfl ?_
    rw [q]
    refine XP_n 1 (pc' := 21) (ls' := [.ref (99)]) (st' := [.int (nI (61)), .int (nI (43))]) (M' := (I, J, Rx R, N, G)) rfl ?_
    refine XP_icN (x := 43) (y := 61) rfl (by omega) (by omega) (fun (b21 : ¬ 43 = 61) => ?_) (fun (b21 : 43 = 61) => absurd b21 (by omega))
    refine XP_n 2 (pc' := 26) (ls' := [.ref (99)]) (st' := [.int (I 99 46)]) (M' := (I, J, Rx R, N, G)) rfl ?_
    rw [q]
    refine XP_n 1 (pc' := 27) (ls' := [.ref (99)]) (st' := [.int (nI (43)), .int (nI (43))]) (M' := (I, J, Rx R, N, G)) rfl ?_
    refine XP_icN (x := 43) (y := 43) rfl (by omega) (by omega) (fun (b27 : ¬ 43 = 43) => absurd b27 (by omega)) (fun (b27 : 43 = 43) => ?_)
    refine XP_n 2 (pc' := 43) (ls' := [.ref (99)]) (st' := [.int (nI (16))]) (M' := (I, J, Rx R, N, G)) rfl ?_
    exact XP_ret rfl ⟨rfl, rfl⟩
  · have q : I 99 46 = nI 45 := h46
    unfold TP
    show XP X _ k_M_signOf 0 [.ref (99)] [] _ _
    refine XP_n 2 (pc' := 2) (ls' := [.ref (99)]) (st' := [.int (I 99 46)]) (M' := (I, J, Rx R, N, G)) rfl ?_
    rw [q]
    refine XP_n 1 (pc' := 3) (ls' := [.ref (99)]) (st' := [.int (nI (4)), .int (nI (45))]) (M' := (I, J, Rx R, N, G)) rfl ?_
    refine XP_icN (x := 45) (y := 4) rfl (by omega) (by omega) (fun (b3 : ¬ 45 = 4) => ?_) (fun (b3 : 45 = 4) => absurd b3 (by omega))
    refine XP_n 2 (pc' := 8) (ls' := [.ref (99)]) (st' := [.int (I 99 46)]) (M' := (I, J, Rx R, N, G)) rfl ?_
    rw [q]
    refine XP_n 1 (pc' := 9) (ls' := [.ref (99)]) (st' := [.int (nI (5)), .int (nI (45))]) (M' := (I, J, Rx R, N, G)) rfl ?_
    refine XP_icN (x := 45) (y := 5) rfl (by omega) (by omega) (fun (b9 : ¬ 45 = 5) => ?_) (fun (b9 : 45 = 5) => absurd b9 (by omega))
    refine XP_n 2 (pc' := 14) (ls' := [.ref (99)]) (st' := [.int (I 99 46)]) (M' := (I, J, Rx R, N, G)) rfl ?_
    rw [q]
    refine XP_n 1 (pc' := 15) (ls' := [.ref (99)]) (st' := [.int (nI (60)), .int (nI (45))]) (M' := (I, J, Rx R, N, G)) rfl ?_
    refine XP_icN (x := 45) (y := 60) rfl (by omega) (by omega) (fun (b15 : ¬ 45 = 60) => ?_) (fun (b15 : 45 = 60) => absurd b15 (by omega))
    refine XP_n 2 (pc' := 20) (ls' := [.ref (99)]) (st' := [.int (I 99 46)]) (M' := (I, J, Rx R, N, G)) rfl ?_
    rw [q]
    refine XP_n 1 (pc' := 21) (ls' := [.ref (99)]) (st' := [.int (nI (61)), .int (nI (45))]) (M' := (I, J, Rx R, N, G)) rfl ?_
    refine XP_icN (x := 45) (y := 61) rfl (by omega) (by omega) (fun (b21 : ¬ 45 = 61) => ?_) (fun (b21 : 45 = 61) => absurd b21 (by omega))
    refine XP_n 2 (pc' := 26) (ls' := [.ref (99)]) (st' := [.int (I 99 46)]) (M' := (I, J, Rx R, N, G)) rfl ?_
    rw [q]
    refine XP_n 1 (pc' := 27) (ls' := [.ref (99)]) (st' := [.int (nI (43)), .int (nI (45))]) (M' := (I, J, Rx R, N, G)) rfl ?_
    refine XP_icN (x := 45) (y := 43) rfl (by omega) (by omega) (fun (b27 : ¬ 45 = 43) => ?_) (fun (b27 : 45 = 43) => absurd b27 (by omega))
    refine XP_n 2 (pc' := 32) (ls' := [.ref (99)]) (st' := [.int (I 99 46)]) (M' := (I, J, Rx R, N, G)) rfl ?_
    rw [q]
    refine XP_n 1 (pc' := 33) (ls' := [.ref (99)]) (st' := [.int (nI (45)), .int (nI (45))]) (M' := (I, J, Rx R, N, G)) rfl ?_
    refine XP_icN (x := 45) (y := 45) rfl (by omega) (by omega) (fun (b33 : ¬ 45 = 45) => absurd b33 (by omega)) (fun (b33 : 45 = 45) => ?_)
    refine XP_n 2 (pc' := 43) (ls' := [.ref (99)]) (st' := [.int (nI (17))]) (M' := (I, J, Rx R, N, G)) rfl ?_
    exact XP_ret rfl ⟨rfl, rfl⟩
  · have q : I 99 46 = nI 42 := h46
    unfold TP
    show XP X _ k_M_signOf 0 [.ref (99)] [] _ _
    refine XP_n 2 (pc' := 2) (ls' := [.ref (99)]) (st' := [.int (I 99 46)]) (M' := (I, J, Rx R, N, G)) rfl ?_
    rw [q]
    refine XP_n 1 (pc' := 3) (ls' := [.ref (99)]) (st' := [.int (nI (4)), .int (nI (42))]) (M' := (I, J, Rx R, N, G)) rfl ?_
    refine XP_icN (x := 42) (y := 4) rfl (by omega) (by omega) (fun (b3 : ¬ 42 = 4) => ?_) (fun (b3 : 42 = 4) => absurd b3 (by omega))
    refine XP_n 2 (pc' := 8) (ls' := [.ref (99)]) (st' := [.int (I 99 46)]) (M' := (I, J, Rx R, N, G)) rfl ?_
    rw [q]
    refine XP_n 1 (pc' := 9) (ls' := [.ref (99)]) (st' := [.int (nI (5)), .int (nI (42))]) (M' := (I, J, Rx R, N, G)) rfl ?_
    refine XP_icN (x := 42) (y := 5) rfl (by omega) (by omega) (fun (b9 : ¬ 42 = 5) => ?_) (fun (b9 : 42 = 5) => absurd b9 (by omega))
    refine XP_n 2 (pc' := 14) (ls' := [.ref (99)]) (st' := [.int (I 99 46)]) (M' := (I, J, Rx R, N, G)) rfl ?_
    rw [q]
    refine XP_n 1 (pc' := 15) (ls' := [.ref (99)]) (st' := [.int (nI (60)), .int (nI (42))]) (M' := (I, J, Rx R, N, G)) rfl ?_
    refine XP_icN (x := 42) (y := 60) rfl (by omega) (by omega) (fun (b15 : ¬ 42 = 60) => ?_) (fun (b15 : 42 = 60) => absurd b15 (by omega))
    refine XP_n 2 (pc' := 20) (ls' := [.ref (99)]) (st' := [.int (I 99 46)]) (M' := (I, J, Rx R, N, G)) rfl ?_
    rw [q]
    refine XP_n 1 (pc' := 21) (ls' := [.ref (99)]) (st' := [.int (nI (61)), .int (nI (42))]) (M' := (I, J, Rx R, N, G)) rfl ?_
    refine XP_icN (x := 42) (y := 61) rfl (by omega) (by omega) (fun (b21 : ¬ 42 = 61) => ?_) (fun (b21 : 42 = 61) => absurd b21 (by omega))
    refine XP_n 2 (pc' := 26) (ls' := [.ref (99)]) (st' := [.int (I 99 46)]) (M' := (I, J, Rx R, N, G)) rfl ?_
    rw [q]
    refine XP_n 1 (pc' := 27) (ls' := [.ref (99)]) (st' := [.int (nI (43)), .int (nI (42))]) (M' := (I, J, Rx R, N, G)) rfl ?_
    refine XP_icN (x := 42) (y := 43) rfl (by omega) (by omega) (fun (b27 : ¬ 42 = 43) => ?_) (fun (b27 : 42 = 43) => absurd b27 (by omega))
    refine XP_n 2 (pc' := 32) (ls' := [.ref (99)]) (st' := [.int (I 99 46)]) (M' := (I, J, Rx R, N, G)) rfl ?_
    rw [q]
    refine XP_n 1 (pc' := 33) (ls' := [.ref (99)]) (st' := [.int (nI (45)), .int (nI (42))]) (M' := (I, J, Rx R, N, G)) rfl ?_
    refine XP_icN (x := 42) (y := 45) rfl (by omega) (by omega) (fun (b33 : ¬ 42 = 45) => ?_) (fun (b33 : 42 = 45) => absurd b33 (by omega))
    refine XP_n 2 (pc' := 38) (ls' := [.ref (99)]) (st' := [.int (I 99 46)]) (M' := (I, J, Rx R, N, G)) rfl ?_
    rw [q]
    refine XP_n 1 (pc' := 39) (ls' := [.ref (99)]) (st' := [.int (nI (42)), .int (nI (42))]) (M' := (I, J, Rx R, N, G)) rfl ?_
    refine XP_icN (x := 42) (y := 42) rfl (by omega) (by omega) (fun (b39 : ¬ 42 = 42) => absurd b39 (by omega)) (fun (b39 : 42 = 42) => ?_)
    refine XP_n 2 (pc' := 43) (ls' := [.ref (99)]) (st' := [.int (nI (18))]) (M' := (I, J, Rx R, N, G)) rfl ?_
    exact XP_ret rfl ⟨rfl, rfl⟩
  · have q : I 99 46 = nI 40 := h46
    unfold TP
    show XP X _ k_M_signOf 0 [.ref (99)] [] _ _
    refine XP_n 2 (pc' := 2) (ls' := [.ref (99)]) (st' := [.int (I 99 46)]) (M' := (I, J, Rx R, N, G)) rfl ?_
    rw [q]
    refine XP_n 1 (pc' := 3) (ls' := [.ref (99)]) (st' := [.int (nI (4)), .int (nI (40))]) (M' := (I, J, Rx R, N, G)) rfl ?_
    refine XP_icN (x := 40) (y := 4) rfl (by omega) (by omega) (fun (b3 : ¬ 40 = 4) => ?_) (fun (b3 : 40 = 4) => absurd b3 (by omega))
    refine XP_n 2 (pc' := 8) (ls' := [.ref (99)]) (st' := [.int (I 99 46)]) (M' := (I, J, Rx R, N, G)) rfl ?_
    rw [q]
    refine XP_n 1 (pc' := 9) (ls' := [.ref (99)]) (st' := [.int (nI (5)), .int (nI (40))]) (M' := (I, J, Rx R, N, G)) rfl ?_
    refine XP_icN (x := 40) (y := 5) rfl (by omega) (by omega) (fun (b9 : ¬ 40 = 5) => ?_) (fun (b9 : 40 = 5) => absurd b9 (by omega))
    refine XP_n 2 (pc' := 14) (ls' := [.ref (99)]) (st' := [.int (I 99 46)]) (M' := (I, J, Rx R, N, G)) rfl ?_
    rw [q]
    refine XP_n 1 (pc' := 15) (ls' := [.ref (99)]) (st' := [.int (nI (60)), .int (nI (40))]) (M' := (I, J, Rx R, N, G)) rfl ?_
    refine XP_icN (x := 40) (y := 60) rfl (by omega) (by omega) (fun (b15 : ¬ 40 = 60) => ?_) (fun (b15 : 40 = 60) => absurd b15 (by omega))
    refine XP_n 2 (pc' := 20) (ls' := [.ref (99)]) (st' := [.int (I 99 46)]) (M' := (I, J, Rx R, N, G)) rfl ?_
    rw [q]
    refine XP_n 1 (pc' := 21) (ls' := [.ref (99)]) (st' := [.int (nI (61)), .int (nI (40))]) (M' := (I, J, Rx R, N, G)) rfl ?_
    refine XP_icN (x := 40) (y := 61) rfl (by omega) (by omega) (fun (b21 : ¬ 40 = 61) => ?_) (fun (b21 : 40 = 61) => absurd b21 (by omega))
    refine XP_n 2 (pc' := 26) (ls' := [.ref (99)]) (st' := [.int (I 99 46)]) (M' := (I, J, Rx R, N, G)) rfl ?_
    rw [q]
    refine XP_n 1 (pc' := 27) (ls' := [.ref (99)]) (st' := [.int (nI (43)), .int (nI (40))]) (M' := (I, J, Rx R, N, G)) rfl ?_
    refine XP_icN (x := 40) (y := 43) rfl (by omega) (by omega) (fun (b27 : ¬ 40 = 43) => ?_) (fun (b27 : 40 = 43) => absurd b27 (by omega))
    refine XP_n 2 (pc' := 32) (ls' := [.ref (99)]) (st' := [.int (I 99 46)]) (M' := (I, J, Rx R, N, G)) rfl ?_
    rw [q]
    refine XP_n 1 (pc' := 33) (ls' := [.ref (99)]) (st' := [.int (nI (45)), .int (nI (40))]) (M' := (I, J, Rx R, N, G)) rfl ?_
    refine XP_icN (x := 40) (y := 45) rfl (by omega) (by omega) (fun (b33 : ¬ 40 = 45) => ?_) (fun (b33 : 40 = 45) => absurd b33 (by omega))
    refine XP_n 2 (pc' := 38) (ls' := [.ref (99)]) (st' := [.int (I 99 46)]) (M' := (I, J, Rx R, N, G)) rfl ?_
    rw [q]
    refine XP_n 1 (pc' := 39) (ls' := [.ref (99)]) (st' := [.int (nI (42)), .int (nI (40))]) (M' := (I, J, Rx R, N, G)) rfl ?_
    refine XP_icN (x := 40) (y := 42) rfl (by omega) (by omega) (fun (b39 : ¬ 40 = 42) => ?_) (fun (b39 : 40 = 42) => absurd b39 (by omega))
    refine XP_n 1 (pc' := 43) (ls' := [.ref (99)]) (st' := [.int (cI (-1))]) (M' := (I, J, Rx R, N, G)) rfl ?_
    exact XP_ret rfl ⟨rfl, rfl⟩
  · have q : I 99 46 = nI 41 := h46
    unfold TP
    show XP X _ k_M_signOf 0 [.ref (99)] [] _ _
    refine XP_n 2 (pc' := 2) (ls' := [.ref (99)]) (st' := [.int (I 99 46)]) (M' := (I, J, Rx R, N, G)) rfl ?_
    rw [q]
    refine XP_n 1 (pc' := 3) (ls' := [.ref (99)]) (st' := [.int (nI (4)), .int (nI (41))]) (M' := (I, J, Rx R, N, G)) rfl ?_
    refine XP_icN (x := 41) (y := 4) rfl (by omega) (by omega) (fun (b3 : ¬ 41 = 4) => ?_) (fun (b3 : 41 = 4) => absurd b3 (by omega))
    refine XP_n 2 (pc' := 8) (ls' := [.ref (99)]) (st' := [.int (I 99 46)]) (M' := (I, J, Rx R, N, G)) rfl ?_
    rw [q]
    refine XP_n 1 (pc' := 9) (ls' := [.ref (99)]) (st' := [.int (nI (5)), .int (nI (41))]) (M' := (I, J, Rx R, N, G)) rfl ?_
    refine XP_icN (x := 41) (y := 5) rfl (by omega) (by omega) (fun (b9 : ¬ 41 = 5) => ?_) (fun (b9 : 41 = 5) => absurd b9 (by omega))
    refine XP_n 2 (pc' := 14) (ls' := [.ref (99)]) (st' := [.int (I 99 46)]) (M' := (I, J, Rx R, N, G)) rfl ?_
    rw [q]
    refine XP_n 1 (pc' := 15) (ls' := [.ref (99)]) (st' := [.int (nI (60)), .int (nI (41))]) (M' := (I, J, Rx R, N, G)) rfl ?_
    refine XP_icN (x := 41) (y := 60) rfl (by omega) (by omega) (fun (b15 : ¬ 41 = 60) => ?_) (fun (b15 : 41 = 60) => absurd b15 (by omega))
    refine XP_n 2 (pc' := 20) (ls' := [.ref (99)]) (st' := [.int (I 99 46)]) (M' := (I, J, Rx R, N, G)) rfl ?_
    rw [q]
    refine XP_n 1 (pc' := 21) (ls' := [.ref (99)]) (st' := [.int (nI (61)), .int (nI (41))]) (M' := (I, J, Rx R, N, G)) rfl ?_
    refine XP_icN (x := 41) (y := 61) rfl (by omega) (by omega) (fun (b21 : ¬ 41 = 61) => ?_) (fun (b21 : 41 = 61) => absurd b21 (by omega))
    refine XP_n 2 (pc' := 26) (ls' := [.ref (99)]) (st' := [.int (I 99 46)]) (M' := (I, J, Rx R, N, G)) rfl ?_
    rw [q]
    refine XP_n 1 (pc' := 27) (ls' := [.ref (99)]) (st' := [.int (nI (43)), .int (nI (41))]) (M' := (I, J, Rx R, N, G)) rfl ?_
    refine XP_icN (x := 41) (y := 43) rfl (by omega) (by omega) (fun (b27 : ¬ 41 = 43) => ?_) (fun (b27 : 41 = 43) => absurd b27 (by omega))
    refine XP_n 2 (pc' := 32) (ls' := [.ref (99)]) (st' := [.int (I 99 46)]) (M' := (I, J, Rx R, N, G)) rfl ?_
    rw [q]
    refine XP_n 1 (pc' := 33) (ls' := [.ref (99)]) (st' := [.int (nI (45)), .int (nI (41))]) (M' := (I, J, Rx R, N, G)) rfl ?_
    refine XP_icN (x := 41) (y := 45) rfl (by omega) (by omega) (fun (b33 : ¬ 41 = 45) => ?_) (fun (b33 : 41 = 45) => absurd b33 (by omega))
    refine XP_n 2 (pc' := 38) (ls' := [.ref (99)]) (st' := [.int (I 99 46)]) (M' := (I, J, Rx R, N, G)) rfl ?_
    rw [q]
    refine XP_n 1 (pc' := 39) (ls' := [.ref (99)]) (st' := [.int (nI (42)), .int (nI (41))]) (M' := (I, J, Rx R, N, G)) rfl ?_
    refine XP_icN (x := 41) (y := 42) rfl (by omega) (by omega) (fun (b39 : ¬ 41 = 42) => ?_) (fun (b39 : 41 = 42) => absurd b39 (by omega))
    refine XP_n 1 (pc' := 43) (ls' := [.ref (99)]) (st' := [.int (cI (-1))]) (M' := (I, J, Rx R, N, G)) rfl ?_
    exact XP_ret rfl ⟨rfl, rfl⟩
  · have q : I 99 46 = nI 59 := h46
    unfold TP
    show XP X _ k_M_signOf 0 [.ref (99)] [] _ _
    refine XP_n 2 (pc' := 2) (ls' := [.ref (99)]) (st' := [.int (I 99 46)]) (M' := (I, J, Rx R, N, G)) rfl ?_
    rw [q]
    refine XP_n 1 (pc' := 3) (ls' := [.ref (99)]) (st' := [.int (nI (4)), .int (nI (59))]) (M' := (I, J, Rx R, N, G)) rfl ?_
    refine XP_icN (x := 59) (y := 4) rfl (by omega) (by omega) (fun (b3 : ¬ 59 = 4) => ?_) (fun (b3 : 59 = 4) => absurd b3 (by omega))
    refine XP_n 2 (pc' := 8) (ls' := [.ref (99)]) (st' := [.int (I 99 46)]) (M' := (I, J, Rx R, N, G)) rfl ?_
    rw [q]
    refine XP_n 1 (pc' := 9) (ls' := [.ref (99)]) (st' := [.int (nI (5)), .int (nI (59))]) (M' := (I, J, Rx R, N, G)) rfl ?_
    refine XP_icN (x := 59) (y := 5) rfl (by omega) (by omega) (fun (b9 : ¬ 59 = 5) => ?_) (fun (b9 : 59 = 5) => absurd b9 (by omega))
    refine XP_n 2 (pc' := 14) (ls' := [.ref (99)]) (st' := [.int (I 99 46)]) (M' := (I, J, Rx R, N, G)) rfl ?_
    rw [q]
    refine XP_n 1 (pc' := 15) (ls' := [.ref (99)]) (st' := [.int (nI (60)), .int (nI (59))]) (M' := (I, J, Rx R, N, G)) rfl ?_
    refine XP_icN (x := 59) (y := 60) rfl (by omega) (by omega) (fun (b15 : ¬ 59 = 60) => ?_) (fun (b15 : 59 = 60) => absurd b15 (by omega))
    refine XP_n 2 (pc' := 20) (ls' := [.ref (99)]) (st' := [.int (I 99 46)]) (M' := (I, J, Rx R, N, G)) rfl ?_
    rw [q]
    refine XP_n 1 (pc' := 21) (ls' := [.ref (99)]) (st' := [.int (nI (61)), .int (nI (59))]) (M' := (I, J, Rx R, N, G)) rfl ?_
    refine XP_icN (x := 59) (y := 61) rfl (by omega) (by omega) (fun (b21 : ¬ 59 = 61) => ?_) (fun (b21 : 59 = 61) => absurd b21 (by omega))
    refine XP_n 2 (pc' := 26) (ls' := [.ref (99)]) (st' := [.int (I 99 46)]) (M' := (I, J, Rx R, N, G)) rfl ?_
    rw [q]
    refine XP_n 1 (pc' := 27) (ls' := [.ref (99)]) (st' := [.int (nI (43)), .int (nI (59))]) (M' := (I, J, Rx R, N, G)) rfl ?_
    refine XP_icN (x := 59) (y := 43) rfl (by omega) (by omega) (fun (b27 : ¬ 59 = 43) => ?_) (fun (b27 : 59 = 43) => absurd b27 (by omega))
    refine XP_n 2 (pc' := 32) (ls' := [.ref (99)]) (st' := [.int (I 99 46)]) (M' := (I, J, Rx R, N, G)) rfl ?_
    rw [q]
    refine XP_n 1 (pc' := 33) (ls' := [.ref (99)]) (st' := [.int (nI (45)), .int (nI (59))]) (M' := (I, J, Rx R, N, G)) rfl ?_
    refine XP_icN (x := 59) (y := 45) rfl (by omega) (by omega) (fun (b33 : ¬ 59 = 45) => ?_) (fun (b33 : 59 = 45) => absurd b33 (by omega))
    refine XP_n 2 (pc' := 38) (ls' := [.ref (99)]) (st' := [.int (I 99 46)]) (M' := (I, J, Rx R, N, G)) rfl ?_
    rw [q]
    refine XP_n 1 (pc' := 39) (ls' := [.ref (99)]) (st' := [.int (nI (42)), .int (nI (59))]) (M' := (I, J, Rx R, N, G)) rfl ?_
    refine XP_icN (x := 59) (y := 42) rfl (by omega) (by omega) (fun (b39 : ¬ 59 = 42) => ?_) (fun (b39 : 59 = 42) => absurd b39 (by omega))
    refine XP_n 1 (pc' := 43) (ls' := [.ref (99)]) (st' := [.int (cI (-1))]) (M' := (I, J, Rx R, N, G)) rfl ?_
    exact XP_ret rfl ⟨rfl, rfl⟩
  · have q : I 99 46 = nI 6 := h46
    unfold TP
    show XP X _ k_M_signOf 0 [.ref (99)] [] _ _
    refine XP_n 2 (pc' := 2) (ls' := [.ref (99)]) (st' := [.int (I 99 46)]) (M' := (I, J, Rx R, N, G)) rfl ?_
    rw [q]
    refine XP_n 1 (pc' := 3) (ls' := [.ref (99)]) (st' := [.int (nI (4)), .int (nI (6))]) (M' := (I, J, Rx R, N, G)) rfl ?_
    refine XP_icN (x := 6) (y := 4) rfl (by omega) (by omega) (fun (b3 : ¬ 6 = 4) => ?_) (fun (b3 : 6 = 4) => absurd b3 (by omega))
    refine XP_n 2 (pc' := 8) (ls' := [.ref (99)]) (st' := [.int (I 99 46)]) (M' := (I, J, Rx R, N, G)) rfl ?_
    rw [q]
    refine XP_n 1 (pc' := 9) (ls' := [.ref (99)]) (st' := [.int (nI (5)), .int (nI (6))]) (M' := (I, J, Rx R, N, G)) rfl ?_
    refine XP_icN (x := 6) (y := 5) rfl (by omega) (by omega) (fun (b9 : ¬ 6 = 5) => ?_) (fun (b9 : 6 = 5) => absurd b9 (by omega))
    refine XP_n 2 (pc' := 14) (ls' := [.ref (99)]) (st' := [.int (I 99 46)]) (M' := (I, J, Rx R, N, G)) rfl ?_
    rw [q]
    refine XP_n 1 (pc' := 15) (ls' := [.ref (99)]) (st' := [.int (nI (60)), .int (nI (6))]) (M' := (I, J, Rx R, N, G)) rfl ?_
    refine XP_icN (x := 6) (y := 60) rfl (by omega) (by omega) (fun (b15 : ¬ 6 = 60) => ?_) (fun (b15 : 6 = 60) => absurd b15 (by omega))
    refine XP_n 2 (pc' := 20) (ls' := [.ref (99)]) (st' := [.int (I 99 46)]) (M' := (I, J, Rx R, N, G)) rfl ?_
    rw [q]
    refine XP_n 1 (pc' := 21) (ls' := [.ref (99)]) (st' := [.int (nI (61)), .int (nI (6))]) (M' := (I, J, Rx R, N, G)) rfl ?_
    refine XP_icN (x := 6) (y := 61) rfl (by omega) (by omega) (fun (b21 : ¬ 6 = 61) => ?_) (fun (b21 : 6 = 61) => absurd b21 (by omega))
    refine XP_n 2 (pc' := 26) (ls' := [.ref (99)]) (st' := [.int (I 99 46)]) (M' := (I, J, Rx R, N, G)) rfl ?_
    rw [q]
    refine XP_n 1 (pc' := 27) (ls' := [.ref (99)]) (st' := [.int (nI (43)), .int (nI (6))]) (M' := (I, J, Rx R, N, G)) rfl ?_
    refine XP_icN (x := 6) (y := 43) rfl (by omega) (by omega) (fun (b27 : ¬ 6 = 43) => ?_) (fun (b27 : 6 = 43) => absurd b27 (by omega))
    refine XP_n 2 (pc' := 32) (ls' := [.ref (99)]) (st' := [.int (I 99 46)]) (M' := (I, J, Rx R, N, G)) rfl ?_
    rw [q]
    refine XP_n 1 (pc' := 33) (ls' := [.ref (99)]) (st' := [.int (nI (45)), .int (nI (6))]) (M' := (I, J, Rx R, N, G)) rfl ?_
    refine XP_icN (x := 6) (y := 45) rfl (by omega) (by omega) (fun (b33 : ¬ 6 = 45) => ?_) (fun (b33 : 6 = 45) => absurd b33 (by omega))
    refine XP_n 2 (pc' := 38) (ls' := [.ref (99)]) (st' := [.int (I 99 46)]) (M' := (I, J, Rx R, N, G)) rfl ?_
    rw [q]
    refine XP_n 1 (pc' := 39) (ls' := [.ref (99)]) (st' := [.int (nI (42)), .int (nI (6))]) (M' := (I, J, Rx R, N, G)) rfl ?_
    refine XP_icN (x := 6) (y := 42) rfl (by omega) (by omega) (fun (b39 : ¬ 6 = 42) => ?_) (fun (b39 : 6 = 42) => absurd b39 (by omega))
    refine XP_n 1 (pc' := 43) (ls' := [.ref (99)]) (st' := [.int (cI (-1))]) (M' := (I, J, Rx R, N, G)) rfl ?_
    exact XP_ret rfl ⟨rfl, rfl⟩
  · have q : I 99 46 = nI 1 := h46
    unfold TP
    show XP X _ k_M_signOf 0 [.ref (99)] [] _ _
    refine XP_n 2 (pc' := 2) (ls' := [.ref (99)]) (st' := [.int (I 99 46)]) (M' := (I, J, Rx R, N, G)) rfl ?_
    rw [q]
    refine XP_n 1 (pc' := 3) (ls' := [.ref (99)]) (st' := [.int (nI (4)), .int (nI (1))]) (M' := (I, J, Rx R, N, G)) rfl ?_
    refine XP_icN (x := 1) (y := 4) rfl (by omega) (by omega) (fun (b3 : ¬ 1 = 4) => ?_) (fun (b3 : 1 = 4) => absurd b3 (by omega))
    refine XP_n 2 (pc' := 8) (ls' := [.ref (99)]) (st' := [.int (I 99 46)]) (M' := (I, J, Rx R, N, G)) rfl ?_
    rw [q]
    refine XP_n 1 (pc' := 9) (ls' := [.ref (99)]) (st' := [.int (nI (5)), .int (nI (1))]) (M' := (I, J, Rx R, N, G)) rfl ?_
    refine XP_icN (x := 1) (y := 5) rfl (by omega) (by omega) (fun (b9 : ¬ 1 = 5) => ?_) (fun (b9 : 1 = 5) => absurd b9 (by omega))
    refine XP_n 2 (pc' := 14) (ls' := [.ref (99)]) (st' := [.int (I 99 46)]) (M' := (I, J, Rx R, N, G)) rfl ?_
    rw [q]
    refine XP_n 1 (pc' := 15) (ls' := [.ref (99)]) (st' := [.int (nI (60)), .int (nI (1))]) (M' := (I, J, Rx R, N, G)) rfl ?_
    refine XP_icN (x := 1) (y := 60) rfl (by omega) (by omega) (fun (b15 : ¬ 1 = 60) => ?_) (fun (b15 : 1 = 60) => absurd b15 (by omega))
    refine XP_n 2 (pc' := 20) (ls' := [.ref (99)]) (st' := [.int (I 99 46)]) (M' := (I, J, Rx R, N, G)) rfl ?_
    rw [q]
    refine XP_n 1 (pc' := 21) (ls' := [.ref (99)]) (st' := [.int (nI (61)), .int (nI (1))]) (M' := (I, J, Rx R, N, G)) rfl ?_
    refine XP_icN (x := 1) (y := 61) rfl (by omega) (by omega) (fun (b21 : ¬ 1 = 61) => ?_) (fun (b21 : 1 = 61) => absurd b21 (by omega))
    refine XP_n 2 (pc' := 26) (ls' := [.ref (99)]) (st' := [.int (I 99 46)]) (M' := (I, J, Rx R, N, G)) rfl ?_
    rw [q]
    refine XP_n 1 (pc' := 27) (ls' := [.ref (99)]) (st' := [.int (nI (43)), .int (nI (1))]) (M' := (I, J, Rx R, N, G)) rfl ?_
    refine XP_icN (x := 1) (y := 43) rfl (by omega) (by omega) (fun (b27 : ¬ 1 = 43) => ?_) (fun (b27 : 1 = 43) => absurd b27 (by omega))
    refine XP_n 2 (pc' := 32) (ls' := [.ref (99)]) (st' := [.int (I 99 46)]) (M' := (I, J, Rx R, N, G)) rfl ?_
    rw [q]
    refine XP_n 1 (pc' := 33) (ls' := [.ref (99)]) (st' := [.int (nI (45)), .int (nI (1))]) (M' := (I, J, Rx R, N, G)) rfl ?_
    refine XP_icN (x := 1) (y := 45) rfl (by omega) (by omega) (fun (b33 : ¬ 1 = 45) => ?_) (fun (b33 : 1 = 45) => absurd b33 (by omega))
    refine XP_n 2 (pc' := 38) (ls' := [.ref (99)]) (st' := [.int (I 99 46)]) (M' := (I, J, Rx R, N, G)) rfl ?_
    rw [q]
    refine XP_n 1 (pc' := 39) (ls' := [.ref (99)]) (st' := [.int (nI (42)), .int (nI (1))]) (M' := (I, J, Rx R, N, G)) rfl ?_
    refine XP_icN (x := 1) (y := 42) rfl (by omega) (by omega) (fun (b39 : ¬ 1 = 42) => ?_) (fun (b39 : 1 = 42) => absurd b39 (by omega))
    refine XP_n 1 (pc' := 43) (ls' := [.ref (99)]) (st' := [.int (cI (-1))]) (M' := (I, J, Rx R, N, G)) rfl ?_
    exact XP_ret rfl ⟨rfl, rfl⟩
  · have q : I 99 46 = nI 0 := h46
    unfold TP
    show XP X _ k_M_signOf 0 [.ref (99)] [] _ _
    refine XP_n 2 (pc' := 2) (ls' := [.ref (99)]) (st' := [.int (I 99 46)]) (M' := (I, J, Rx R, N, G)) rfl ?_
    rw [q]
    refine XP_n 1 (pc' := 3) (ls' := [.ref (99)]) (st' := [.int (nI (4)), .int (nI (0))]) (M' := (I, J, Rx R, N, G)) rfl ?_
    refine XP_icN (x := 0) (y := 4) rfl (by omega) (by omega) (fun (b3 : ¬ 0 = 4) => ?_) (fun (b3 : 0 = 4) => absurd b3 (by omega))
    refine XP_n 2 (pc' := 8) (ls' := [.ref (99)]) (st' := [.int (I 99 46)]) (M' := (I, J, Rx R, N, G)) rfl ?_
    rw [q]
    refine XP_n 1 (pc' := 9) (ls' := [.ref (99)]) (st' := [.int (nI (5)), .int (nI (0))]) (M' := (I, J, Rx R, N, G)) rfl ?_
    refine XP_icN (x := 0) (y := 5) rfl (by omega) (by omega) (fun (b9 : ¬ 0 = 5) => ?_) (fun (b9 : 0 = 5) => absurd b9 (by omega))
    refine XP_n 2 (pc' := 14) (ls' := [.ref (99)]) (st' := [.int (I 99 46)]) (M' := (I, J, Rx R, N, G)) rfl ?_
    rw [q]
    refine XP_n 1 (pc' := 15) (ls' := [.ref (99)]) (st' := [.int (nI (60)), .int (nI (0))]) (M' := (I, J, Rx R, N, G)) rfl ?_
    refine XP_icN (x := 0) (y := 60) rfl (by omega) (by omega) (fun (b15 : ¬ 0 = 60) => ?_) (fun (b15 : 0 = 60) => absurd b15 (by omega))
    refine XP_n 2 (pc' := 20) (ls' := [.ref (99)]) (st' := [.int (I 99 46)]) (M' := (I, J, Rx R, N, G)) rfl ?_
    rw [q]
    refine XP_n 1 (pc' := 21) (ls' := [.ref (99)]) (st' := [.int (nI (61)), .int (nI (0))]) (M' := (I, J, Rx R, N, G)) rfl ?_
    refine XP_icN (x := 0) (y := 61) rfl (by omega) (by omega) (fun (b21 : ¬ 0 = 61) => ?_) (fun (b21 : 0 = 61) => absurd b21 (by omega))
    refine XP_n 2 (pc' := 26) (ls' := [.ref (99)]) (st' := [.int (I 99 46)]) (M' := (I, J, Rx R, N, G)) rfl ?_
    rw [q]
    refine XP_n 1 (pc' := 27) (ls' := [.ref (99)]) (st' := [.int (nI (43)), .int (nI (0))]) (M' := (I, J, Rx R, N, G)) rfl ?_
    refine XP_icN (x := 0) (y := 43) rfl (by omega) (by omega) (fun (b27 : ¬ 0 = 43) => ?_) (fun (b27 : 0 = 43) => absurd b27 (by omega))
    refine XP_n 2 (pc' := 32) (ls' := [.ref (99)]) (st' := [.int (I 99 46)]) (M' := (I, J, Rx R, N, G)) rfl ?_
    rw [q]
    refine XP_n 1 (pc' := 33) (ls' := [.ref (99)]) (st' := [.int (nI (45)), .int (nI (0))]) (M' := (I, J, Rx R, N, G)) rfl ?_
    refine XP_icN (x := 0) (y := 45) rfl (by omega) (by omega) (fun (b33 : ¬ 0 = 45) => ?_) (fun (b33 : 0 = 45) => absurd b33 (by omega))
    refine XP_n 2 (pc' := 38) (ls' := [.ref (99)]) (st' := [.int (I 99 46)]) (M' := (I, J, Rx R, N, G)) rfl ?_
    rw [q]
    refine XP_n 1 (pc' := 39) (ls' := [.ref (99)]) (st' := [.int (nI (42)), .int (nI (0))]) (M' := (I, J, Rx R, N, G)) rfl ?_
    refine XP_icN (x := 0) (y := 42) rfl (by omega) (by omega) (fun (b39 : ¬ 0 = 42) => ?_) (fun (b39 : 0 = 42) => absurd b39 (by omega))
    refine XP_n 1 (pc' := 43) (ls' := [.ref (99)]) (st' := [.int (cI (-1))]) (M' := (I, J, Rx R, N, G)) rfl ?_
    exact XP_ret rfl ⟨rfl, rfl⟩
  · have q : I 99 46 = cI (-1) := h46
    unfold TP
    show XP X _ k_M_signOf 0 [.ref (99)] [] _ _
    refine XP_n 2 (pc' := 2) (ls' := [.ref (99)]) (st' := [.int (I 99 46)]) (M' := (I, J, Rx R, N, G)) rfl ?_
    rw [q]
    refine XP_n 1 (pc' := 3) (ls' := [.ref (99)]) (st' := [.int (nI (4)), .int (cI (-1))]) (M' := (I, J, Rx R, N, G)) rfl ?_
    refine XP_icD rfl (fun (b3 : ¬ cI (-1) = nI (4)) => ?_) (fun (b3 : cI (-1) = nI (4)) => absurd b3 (by decide))
    refine XP_n 2 (pc' := 8) (ls' := [.ref (99)]) (st' := [.int (I 99 46)]) (M' := (I, J, Rx R, N, G)) rfl ?_
    rw [q]
    refine XP_n 1 (pc' := 9) (ls' := [.ref (99)]) (st' := [.int (nI (5)), .int (cI (-1))]) (M' := (I, J, Rx R, N, G)) rfl ?_
    refine XP_icD rfl (fun (b9 : ¬ cI (-1) = nI (5)) => ?_) (fun (b9 : cI (-1) = nI (5)) => absurd b9 (by decide))
    refine XP_n 2 (pc' := 14) (ls' := [.ref (99)]) (st' := [.int (I 99 46)]) (M' := (I, J, Rx R, N, G)) rfl ?_
    rw [q]
    refine XP_n 1 (pc' := 15) (ls' := [.ref (99)]) (st' := [.int (nI (60)), .int (cI (-1))]) (M' := (I, J, Rx R, N, G)) rfl ?_
    refine XP_icD rfl (fun (b15 : ¬ cI (-1) = nI (60)) => ?_) (fun (b15 : cI (-1) = nI (60)) => absurd b15 (by decide))
    refine XP_n 2 (pc' := 20) (ls' := [.ref (99)]) (st' := [.int (I 99 46)]) (M' := (I, J, Rx R, N, G)) rfl ?_
    rw [q]
    refine XP_n 1 (pc' := 21) (ls' := [.ref (99)]) (st' := [.int (nI (61)), .int (cI (-1))]) (M' := (I, J, Rx R, N, G)) rfl ?_
    refine XP_icD rfl (fun (b21 : ¬ cI (-1) = nI (61)) => ?_) (fun (b21 : cI (-1) = nI (61)) => absurd b21 (by decide))
    refine XP_n 2 (pc' := 26) (ls' := [.ref (99)]) (st' := [.int (I 99 46)]) (M' := (I, J, Rx R, N, G)) rfl ?_
    rw [q]
    refine XP_n 1 (pc' := 27) (ls' := [.ref (99)]) (st' := [.int (nI (43)), .int (cI (-1))]) (M' := (I, J, Rx R, N, G)) rfl ?_
    refine XP_icD rfl (fun (b27 : ¬ cI (-1) = nI (43)) => ?_) (fun (b27 : cI (-1) = nI (43)) => absurd b27 (by decide))
    refine XP_n 2 (pc' := 32) (ls' := [.ref (99)]) (st' := [.int (I 99 46)]) (M' := (I, J, Rx R, N, G)) rfl ?_
    rw [q]
    refine XP_n 1 (pc' := 33) (ls' := [.ref (99)]) (st' := [.int (nI (45)), .int (cI (-1))]) (M' := (I, J, Rx R, N, G)) rfl ?_
    refine XP_icD rfl (fun (b33 : ¬ cI (-1) = nI (45)) => ?_) (fun (b33 : cI (-1) = nI (45)) => absurd b33 (by decide))
    refine XP_n 2 (pc' := 38) (ls' := [.ref (99)]) (st' := [.int (I 99 46)]) (M' := (I, J, Rx R, N, G)) rfl ?_
    rw [q]
    refine XP_n 1 (pc' := 39) (ls' := [.ref (99)]) (st' := [.int (nI (42)), .int (cI (-1))]) (M' := (I, J, Rx R, N, G)) rfl ?_
    refine XP_icD rfl (fun (b39 : ¬ cI (-1) = nI (42)) => ?_) (fun (b39 : cI (-1) = nI (42)) => absurd b39 (by decide))
    refine XP_n 1 (pc' := 43) (ls' := [.ref (99)]) (st' := [.int (cI (-1))]) (M' := (I, J, Rx R, N, G)) rfl ?_
    exact XP_ret rfl ⟨rfl, rfl⟩
  · have q : I 99 46 = nI 2 := by
      rw [h46]
      unfold mT
      repeat (first | rw [if_pos (by omega)] | rw [if_neg (by omega)])
    have e : sgn k = 0 := by
      unfold sgn
      repeat (first | rw [if_pos (by omega)] | rw [if_neg (by omega)])
    rw [if_pos e]
    unfold TP
    show XP X _ k_M_signOf 0 [.ref (99)] [] _ _
    refine XP_n 2 (pc' := 2) (ls' := [.ref (99)]) (st' := [.int (I 99 46)]) (M' := (I, J, Rx R, N, G)) rfl ?_
    rw [q]
    refine XP_n 1 (pc' := 3) (ls' := [.ref (99)]) (st' := [.int (nI (4)), .int (nI (2))]) (M' := (I, J, Rx R, N, G)) rfl ?_
    refine XP_icN (x := 2) (y := 4) rfl (by omega) (by omega) (fun (b3 : ¬ 2 = 4) => ?_) (fun (b3 : 2 = 4) => absurd b3 (by omega))
    refine XP_n 2 (pc' := 8) (ls' := [.ref (99)]) (st' := [.int (I 99 46)]) (M' := (I, J, Rx R, N, G)) rfl ?_
    rw [q]
    refine XP_n 1 (pc' := 9) (ls' := [.ref (99)]) (st' := [.int (nI (5)), .int (nI (2))]) (M' := (I, J, Rx R, N, G)) rfl ?_
    refine XP_icN (x := 2) (y := 5) rfl (by omega) (by omega) (fun (b9 : ¬ 2 = 5) => ?_) (fun (b9 : 2 = 5) => absurd b9 (by omega))
    refine XP_n 2 (pc' := 14) (ls' := [.ref (99)]) (st' := [.int (I 99 46)]) (M' := (I, J, Rx R, N, G)) rfl ?_
    rw [q]
    refine XP_n 1 (pc' := 15) (ls' := [.ref (99)]) (st' := [.int (nI (60)), .int (nI (2))]) (M' := (I, J, Rx R, N, G)) rfl ?_
    refine XP_icN (x := 2) (y := 60) rfl (by omega) (by omega) (fun (b15 : ¬ 2 = 60) => ?_) (fun (b15 : 2 = 60) => absurd b15 (by omega))
    refine XP_n 2 (pc' := 20) (ls' := [.ref (99)]) (st' := [.int (I 99 46)]) (M' := (I, J, Rx R, N, G)) rfl ?_
    rw [q]
    refine XP_n 1 (pc' := 21) (ls' := [.ref (99)]) (st' := [.int (nI (61)), .int (nI (2))]) (M' := (I, J, Rx R, N, G)) rfl ?_
    refine XP_icN (x := 2) (y := 61) rfl (by omega) (by omega) (fun (b21 : ¬ 2 = 61) => ?_) (fun (b21 : 2 = 61) => absurd b21 (by omega))
    refine XP_n 2 (pc' := 26) (ls' := [.ref (99)]) (st' := [.int (I 99 46)]) (M' := (I, J, Rx R, N, G)) rfl ?_
    rw [q]
    refine XP_n 1 (pc' := 27) (ls' := [.ref (99)]) (st' := [.int (nI (43)), .int (nI (2))]) (M' := (I, J, Rx R, N, G)) rfl ?_
    refine XP_icN (x := 2) (y := 43) rfl (by omega) (by omega) (fun (b27 : ¬ 2 = 43) => ?_) (fun (b27 : 2 = 43) => absurd b27 (by omega))
    refine XP_n 2 (pc' := 32) (ls' := [.ref (99)]) (st' := [.int (I 99 46)]) (M' := (I, J, Rx R, N, G)) rfl ?_
    rw [q]
    refine XP_n 1 (pc' := 33) (ls' := [.ref (99)]) (st' := [.int (nI (45)), .int (nI (2))]) (M' := (I, J, Rx R, N, G)) rfl ?_
    refine XP_icN (x := 2) (y := 45) rfl (by omega) (by omega) (fun (b33 : ¬ 2 = 45) => ?_) (fun (b33 : 2 = 45) => absurd b33 (by omega))
    refine XP_n 2 (pc' := 38) (ls' := [.ref (99)]) (st' := [.int (I 99 46)]) (M' := (I, J, Rx R, N, G)) rfl ?_
    rw [q]
    refine XP_n 1 (pc' := 39) (ls' := [.ref (99)]) (st' := [.int (nI (42)), .int (nI (2))]) (M' := (I, J, Rx R, N, G)) rfl ?_
    refine XP_icN (x := 2) (y := 42) rfl (by omega) (by omega) (fun (b39 : ¬ 2 = 42) => ?_) (fun (b39 : 2 = 42) => absurd b39 (by omega))
    refine XP_n 1 (pc' := 43) (ls' := [.ref (99)]) (st' := [.int (cI (-1))]) (M' := (I, J, Rx R, N, G)) rfl ?_
    exact XP_ret rfl ⟨rfl, rfl⟩
  · have q : I 99 46 = nI 3 := by
      rw [h46]
      unfold mT
      repeat (first | rw [if_pos (by omega)] | rw [if_neg (by omega)])
    have e : sgn k = 0 := by
      unfold sgn
      repeat (first | rw [if_pos (by omega)] | rw [if_neg (by omega)])
    rw [if_pos e]
    unfold TP
    show XP X _ k_M_signOf 0 [.ref (99)] [] _ _
    refine XP_n 2 (pc' := 2) (ls' := [.ref (99)]) (st' := [.int (I 99 46)]) (M' := (I, J, Rx R, N, G)) rfl ?_
    rw [q]
    refine XP_n 1 (pc' := 3) (ls' := [.ref (99)]) (st' := [.int (nI (4)), .int (nI (3))]) (M' := (I, J, Rx R, N, G)) rfl ?_
    refine XP_icN (x := 3) (y := 4) rfl (by omega) (by omega) (fun (b3 : ¬ 3 = 4) => ?_) (fun (b3 : 3 = 4) => absurd b3 (by omega))
    refine XP_n 2 (pc' := 8) (ls' := [.ref (99)]) (st' := [.int (I 99 46)]) (M' := (I, J, Rx R, N, G)) rfl ?_
    rw [q]
    refine XP_n 1 (pc' := 9) (ls' := [.ref (99)]) (st' := [.int (nI (5)), .int (nI (3))]) (M' := (I, J, Rx R, N, G)) rfl ?_
    refine XP_icN (x := 3) (y := 5) rfl (by omega) (by omega) (fun (b9 : ¬ 3 = 5) => ?_) (fun (b9 : 3 = 5) => absurd b9 (by omega))
    refine XP_n 2 (pc' := 14) (ls' := [.ref (99)]) (st' := [.int (I 99 46)]) (M' := (I, J, Rx R, N, G)) rfl ?_
    rw [q]
    refine XP_n 1 (pc' := 15) (ls' := [.ref (99)]) (st' := [.int (nI (60)), .int (nI (3))]) (M' := (I, J, Rx R, N, G)) rfl ?_
    refine XP_icN (x := 3) (y := 60) rfl (by omega) (by omega) (fun (b15 : ¬ 3 = 60) => ?_) (fun (b15 : 3 = 60) => absurd b15 (by omega))
    refine XP_n 2 (pc' := 20) (ls' := [.ref (99)]) (st' := [.int (I 99 46)]) (M' := (I, J, Rx R, N, G)) rfl ?_
    rw [q]
    refine XP_n 1 (pc' := 21) (ls' := [.ref (99)]) (st' := [.int (nI (61)), .int (nI (3))]) (M' := (I, J, Rx R, N, G)) rfl ?_
    refine XP_icN (x := 3) (y := 61) rfl (by omega) (by omega) (fun (b21 : ¬ 3 = 61) => ?_) (fun (b21 : 3 = 61) => absurd b21 (by omega))
    refine XP_n 2 (pc' := 26) (ls' := [.ref (99)]) (st' := [.int (I 99 46)]) (M' := (I, J, Rx R, N, G)) rfl ?_
    rw [q]
    refine XP_n 1 (pc' := 27) (ls' := [.ref (99)]) (st' := [.int (nI (43)), .int (nI (3))]) (M' := (I, J, Rx R, N, G)) rfl ?_
    refine XP_icN (x := 3) (y := 43) rfl (by omega) (by omega) (fun (b27 : ¬ 3 = 43) => ?_) (fun (b27 : 3 = 43) => absurd b27 (by omega))
    refine XP_n 2 (pc' := 32) (ls' := [.ref (99)]) (st' := [.int (I 99 46)]) (M' := (I, J, Rx R, N, G)) rfl ?_
    rw [q]
    refine XP_n 1 (pc' := 33) (ls' := [.ref (99)]) (st' := [.int (nI (45)), .int (nI (3))]) (M' := (I, J, Rx R, N, G)) rfl ?_
    refine XP_icN (x := 3) (y := 45) rfl (by omega) (by omega) (fun (b33 : ¬ 3 = 45) => ?_) (fun (b33 : 3 = 45) => absurd b33 (by omega))
    refine XP_n 2 (pc' := 38) (ls' := [.ref (99)]) (st' := [.int (I 99 46)]) (M' := (I, J, Rx R, N, G)) rfl ?_
    rw [q]
    refine XP_n 1 (pc' := 39) (ls' := [.ref (99)]) (st' := [.int (nI (42)), .int (nI (3))]) (M' := (I, J, Rx R, N, G)) rfl ?_
    refine XP_icN (x := 3) (y := 42) rfl (by omega) (by omega) (fun (b39 : ¬ 3 = 42) => ?_) (fun (b39 : 3 = 42) => absurd b39 (by omega))
    refine XP_n 1 (pc' := 43) (ls' := [.ref (99)]) (st' := [.int (cI (-1))]) (M' := (I, J, Rx R, N, G)) rfl ?_
    exact XP_ret rfl ⟨rfl, rfl⟩
end
