/-! setters: back -/
theorem rw2_c {α : Type} {f : Nat → Nat → α} {k j b : Nat} {v : α} : rw2 f k j v k b = if b = j then v else f k b := by
  unfold rw2
  rw [if_pos rfl]
section
variable {X : hX} {d : Nat} {s I : Nat → Nat → Int32} {J : Nat → Nat → Int64} {R : Nat → Nat → Option Nat} {N : Nat → Nat} {G : hG}
theorem c_hasP2 (hW : Wf s) (k4 : I 1 4 = nI (cP s)) {p : Nat} (hp : p < cP s) : TP X d n_Coast_hasPath [.ref 1, .int (nI p)] (I, J, Rx R, N, G) (Ret (.int (nI 1)) (I, J, Rx R, N, G)) := by
  have hp4 := hW.p.2
  unfold TP
  show XP X _ k_Coast_hasPath 0 [.ref (1), .int (nI (p))] [] _ _
  refine XP_n 1 (pc' := 1) (ls' := [.ref (1), .int (nI (p))]) (st' := [.int (nI (p))]) (M' := (I, J, Rx R, N, G)) rfl ?_
  refine XP_ifN (x := p)  rfl (by omega) (fun (b1 : p < 0) => absurd b1 (by omega)) (fun (b1 : 0 ≤ p) => ?_)
  refine XP_n 3 (pc' := 5) (ls' := [.ref (1), .int (nI (p))]) (st' := [.int (I 1 4), .int (nI (p))]) (M' := (I, J, Rx R, N, G)) rfl ?_
  rw [k4]
  refine XP_icN (x := p) (y := cP s) rfl (by omega) (by omega) (fun (b5 : cP s ≤ p) => absurd b5 (by omega)) (fun (b5 : p < cP s) => ?_)
  refine XP_n 2 (pc' := 8) (ls' := [.ref (1), .int (nI (p))]) (st' := [.int (nI (4)), .int (nI (p))]) (M' := (I, J, Rx R, N, G)) rfl ?_
  refine XP_icN (x := p) (y := 4) rfl (by omega) (by omega) (fun (b8 : 4 ≤ p) => absurd b8 (by omega)) (fun (b8 : p < 4) => ?_)
  refine XP_n 2 (pc' := 12) (ls' := [.ref (1), .int (nI (p))]) (st' := [.int (nI (1))]) (M' := (I, J, Rx R, N, G)) rfl ?_
  exact XP_ret rfl ⟨rfl, rfl⟩
theorem c_putW2 (hW : Wf s) (k4 : I 1 4 = nI (cP s)) {p c : Nat} (hp : p < cP s) (k0 : I 1 15 = nI c) (w : Int32) : TP X (d + 1) n_Coast_putWeight [.ref 1, .int (nI p), .int w] (I, J, Rx R, N, G) (fun v M' => (∃ x, v = some (.int x)) ∧ M' = (rw2 (rw2 I 2 p w) 1 15 (nI (c + 1)), J, Rx R, N, G)) := by
  have hp4 := hW.p.2
  unfold TP
  show XP X _ k_Coast_putWeight 0 [.ref (1), .int (nI (p)), .int (w), xj] [] _ _
  refine XP_n 2 (pc' := 2) (ls' := [.ref (1), .int (nI (p)), .int (w), xj]) (st' := [.int (nI (p)), .ref (1)]) (M' := (I, J, Rx R, N, G)) rfl ?_
  refine XP_pure rfl rfl (c_hasP2 hW k4 hp) ?_
  refine XP_ifN (x := 1)  rfl (by omega) (fun (b3 : ¬ 1 = 0) => ?_) (fun (b3 : 1 = 0) => absurd b3 (by omega))
  refine XP_n 3 (pc' := 9) (ls' := [.ref (1), .int (nI (p)), .int (w), xj]) (st' := [.int (nI (p)), .ref (2)]) (M' := (I, J, Rx R, N, G)) rfl ?_
  refine XP_iraw rfl rfl (show p < 4 by omega) rfl (by omega) ?_
  refine XP_n 5 (pc' := 15) (ls' := [.ref (1), .int (nI (p)), .int (w), .int (I 2 p)]) (st' := [.int (w), .int (nI (p)), .ref (2)]) (M' := (I, J, Rx R, N, G)) rfl ?_
  refine XP_iast rfl rfl (show p < 4 by omega) rfl (by omega) ?_
  refine XP_n 3 (pc' := 19) (ls' := [.ref (1), .int (nI (p)), .int (w), .int (I 2 p)]) (st' := [.int (I 1 15), .ref (1)]) (M' := ((rw2 I 2 p (w)), J, Rx R, N, G)) rfl ?_
  rw [k0]
  refine XP_n 2 (pc' := 21) (ls' := [.ref (1), .int (nI (p)), .int (w), .int (I 2 p)]) (st' := [.int ((nI (c)) + (nI (1))), .ref (1)]) (M' := ((rw2 I 2 p (w)), J, Rx R, N, G)) rfl ?_
  rw [show (nI (c)) + (nI (1)) = nI (c + 1) from nI_addE (rfl) (rfl)]
  refine XP_n 2 (pc' := 23) (ls' := [.ref (1), .int (nI (p)), .int (w), .int (I 2 p)]) (st' := [.int (I 2 p)]) (M' := ((rw2 (rw2 I 2 p (w)) 1 15 (nI (c + 1))), J, Rx R, N, G)) rfl ?_
  exact XP_ret rfl ⟨⟨_, rfl⟩, rfl⟩
theorem l_gb (hW : Wf s) (hip : cIP s ≤ cP s) {Iz : Nat → Nat → Int32} {c : Nat} (k84 : Iz 84 4 = nI (cIP s)) (k4 : Iz 1 4 = nI (cP s)) : ∀ (n i : Nat) (I1 : Nat → Nat → Int32), i + n = cIP s → (∀ k, k ≠ 2 → I1 k = rw2 Iz 1 15 (nI (c + i)) k) → (∀ j, I1 2 j = if j < i then Iz 86 j else Iz 2 j) → XP X (d + 2) k_Image_giveBack 18 [.ref 84, .ref 1, .ref 80, .int (nI i)] [] (I1, J, Rx R, N, G) (fun v M' => v = none ∧ ∃ I', M' = (I', J, Rx R, N, G) ∧ (∀ k, k ≠ 2 → I' k = rw2 (rw2 Iz 1 15 (nI (c + cIP s))) 80 4 (Iz 84 5) k) ∧ ∀ j, I' 2 j = if j < cIP s then Iz 86 j else Iz 2 j) := by
  have hp4 := hW.p.2
  intro n
  induction n with
  | zero =>
    rintro i I1 hi h1 h2
    obtain rfl : i = cIP s := by omega
    have q84 : I1 84 4 = nI (cIP s) := by rw [h1 84 (by omega)]; exact k84
    have q5 : I1 84 5 = Iz 84 5 := by rw [h1 84 (by omega)]; rfl
    refine XP_n 3 (pc' := 21) (ls' := [.ref (84), .ref (1), .ref (80), .int (nI (cIP s))]) (st' := [.int (I1 84 4), .int (nI (cIP s))]) (M' := (I1, J, Rx R, N, G)) rfl ?_
    rw [q84]
    refine XP_icN (x := cIP s) (y := cIP s) rfl (by omega) (by omega) (fun (b21 : cIP s ≤ cIP s) => ?_) (fun (b21 : cIP s < cIP s) => absurd b21 (by omega))
    refine XP_n 3 (pc' := 40) (ls' := [.ref (84), .ref (1), .ref (80), .int (nI (cIP s))]) (st' := [.int (I1 84 5), .ref (80)]) (M' := (I1, J, Rx R, N, G)) rfl ?_
    rw [q5]
    refine XP_n 1 (pc' := 41) (ls' := [.ref (84), .ref (1), .ref (80), .int (nI (cIP s))]) (st' := []) (M' := ((rw2 I1 80 4 (Iz 84 5)), J, Rx R, N, G)) rfl ?_
    exact XP_ret rfl ⟨rfl, _, rfl, fun k hk => by
      by_cases e : k = 80
      · subst e
        funext j
        rw [rw2_c, rw2_c, h1 80 (by omega)]
      · rw [rw2_ro e, rw2_ro e, h1 k hk], h2⟩
  | succ n ih =>
    rintro i I1 hi h1 h2
    have q84 : I1 84 4 = nI (cIP s) := by rw [h1 84 (by omega)]; exact k84
    have q4 : I1 1 4 = nI (cP s) := by rw [h1 1 (by omega)]; exact k4
    have q15 : I1 1 15 = nI (c + i) := by rw [h1 1 (by omega)]; exact rw2_on
    refine XP_n 3 (pc' := 21) (ls' := [.ref (84), .ref (1), .ref (80), .int (nI (i))]) (st' := [.int (I1 84 4), .int (nI (i))]) (M' := (I1, J, Rx R, N, G)) rfl ?_
    rw [q84]
    refine XP_icN (x := i) (y := cIP s) rfl (by omega) (by omega) (fun (b21 : cIP s ≤ i) => absurd b21 (by omega)) (fun (b21 : i < cIP s) => ?_)
    refine XP_n 4 (pc' := 26) (ls' := [.ref (84), .ref (1), .ref (80), .int (nI (i))]) (st' := [.int (nI (4)), .int (nI (i))]) (M' := (I1, J, Rx R, N, G)) rfl ?_
    refine XP_icN (x := i) (y := 4) rfl (by omega) (by omega) (fun (b26 : 4 ≤ i) => absurd b26 (by omega)) (fun (b26 : i < 4) => ?_)
    refine XP_n 5 (pc' := 32) (ls' := [.ref (84), .ref (1), .ref (80), .int (nI (i))]) (st' := [.int (nI (i)), .ref (86), .int (nI (i)), .ref (1)]) (M' := (I1, J, Rx R, N, G)) rfl ?_
    refine XP_iraw rfl rfl (show i < 4 by omega) rfl (by omega) ?_
    rw [show I1 86 i = Iz 86 i from by rw [h1 86 (by omega)]; rfl]
    refine XP_call rfl rfl (c_putW2 hW q4 (show i < cP s by omega) q15 _) ?_
    rintro v1 M1 ⟨⟨x1, rfl⟩, rfl⟩
    refine XP_n 2 (pc' := 36) (ls' := [.ref (84), .ref (1), .ref (80), .int (nI (i) + nI (1))]) (st' := []) (M' := ((rw2 (rw2 I1 2 i (Iz 86 i)) 1 15 (nI (c + i + 1))), J, Rx R, N, G)) rfl ?_
    rw [show nI (i) + nI (1) = nI (i + 1) from nI_addE (rfl) rfl]
    refine XP_n 1 (pc' := 18) (ls' := [.ref (84), .ref (1), .ref (80), .int (nI (i + 1))]) (st' := []) (M' := ((rw2 (rw2 I1 2 i (Iz 86 i)) 1 15 (nI (c + i + 1))), J, Rx R, N, G)) rfl ?_
    refine ih (i + 1) _ (by omega) (fun k hk => ?_) (fun j => ?_)
    · by_cases e : k = 1
      · subst e
        funext j
        rw [rw2_c, rw2_c, rw2_ro (show (1 : Nat) ≠ 2 by omega), h1 1 (by omega), rw2_c]
        by_cases g : j = 15
        · rw [if_pos g, if_pos g]
          rfl
        · rw [if_neg g, if_neg g, if_neg g]
      · rw [rw2_ro e, rw2_ro hk, h1 k hk, rw2_ro e, rw2_ro e]
    · rw [rw2_ro (show (2 : Nat) ≠ 1 by omega), rw2_c, h2 j]
      by_cases e : j = i
      · rw [if_pos e, if_pos (by omega), e]
      · rw [if_neg e]
        by_cases g : j < i
        · rw [if_pos g, if_pos (by omega)]
        · rw [if_neg g, if_neg (by omega)]
theorem c_gb (hW : Wf s) (hip : cIP s ≤ cP s) {c : Nat} (k15 : I 1 15 = nI c) (k84 : I 84 4 = nI (cIP s)) (k4 : I 1 4 = nI (cP s)) (t0 : I 85 0 = nI (wN (s 99 33))) (t1 : I 85 1 = nI (wN (s 99 34))) (t2 : I 85 2 = nI (wN (s 99 35))) (t3 : I 85 3 = nI (wN (s 99 36))) : TP X (d + 2) n_Image_giveBack [.ref 84, .ref 1, .ref 80] (I, J, Rx R, N, G) (fun v M' => v = none ∧ ∃ I', M' = (I', J, Rx R, N, G) ∧ (∀ k, k ≠ 2 → I' k = rw2 (rw2 (rw2 (rw2 (rw2 (rw2 (rw2 (rw2 (rw2 (rw2 I 1 0 (nI (wN (s 99 33)))) 1 15 (nI (c + 1))) 1 1 (nI (wN (s 99 34)))) 1 15 (nI (c + 1 + 1))) 1 2 (nI (wN (s 99 35)))) 1 15 (nI (c + 1 + 1 + 1))) 1 3 (nI (wN (s 99 36)))) 1 15 (nI (c + 1 + 1 + 1 + 1))) 1 15 (nI (c + 4 + cIP s))) 80 4 (I 84 5) k) ∧ ∀ j, I' 2 j = if j < cIP s then I 86 j else I 2 j) := by
  unfold TP
  show XP X _ k_Image_giveBack 0 [.ref (84), .ref (1), .ref (80), xj] [] _ _
  refine XP_n 6 (pc' := 6) (ls' := [.ref (84), .ref (1), .ref (80), .int (nI (0))]) (st' := [.int (nI (4)), .int (nI (0))]) (M' := (I, J, Rx R, N, G)) rfl ?_
  refine XP_icN (x := 0) (y := 4) rfl (by omega) (by omega) (fun (b6 : 4 ≤ 0) => absurd b6 (by omega)) (fun (b6 : 0 < 4) => ?_)
  refine XP_n 5 (pc' := 12) (ls' := [.ref (84), .ref (1), .ref (80), .int (nI (0))]) (st' := [.int (nI (0)), .ref (85), .int (nI (0)), .ref (1)]) (M' := (I, J, Rx R, N, G)) rfl ?_
  refine XP_iraw rfl rfl (show 0 < 4 by omega) rfl (by omega) ?_
  rw [show I 85 0 = nI (wN (s 99 33)) from t0]
  refine XP_call rfl rfl (c_put0 (c := c) k15 _) ?_
  rintro v0 M0 ⟨rfl, rfl⟩
  refine XP_n 1 (pc' := 15) (ls' := [.ref (84), .ref (1), .ref (80), .int (nI (0) + nI (1))]) (st' := []) (M' := ((rw2 (rw2 I 1 0 (nI (wN (s 99 33)))) 1 15 (nI (c + 1))), J, Rx R, N, G)) rfl ?_
  rw [show nI (0) + nI (1) = nI (1) from nI_addE (rfl) rfl]
  refine XP_n 5 (pc' := 6) (ls' := [.ref (84), .ref (1), .ref (80), .int (nI (1))]) (st' := [.int (nI (4)), .int (nI (1))]) (M' := ((rw2 (rw2 I 1 0 (nI (wN (s 99 33)))) 1 15 (nI (c + 1))), J, Rx R, N, G)) rfl ?_
  refine XP_icN (x := 1) (y := 4) rfl (by omega) (by omega) (fun (b6 : 4 ≤ 1) => absurd b6 (by omega)) (fun (b6 : 1 < 4) => ?_)
  refine XP_n 5 (pc' := 12) (ls' := [.ref (84), .ref (1), .ref (80), .int (nI (1))]) (st' := [.int (nI (1)), .ref (85), .int (nI (1)), .ref (1)]) (M' := ((rw2 (rw2 I 1 0 (nI (wN (s 99 33)))) 1 15 (nI (c + 1))), J, Rx R, N, G)) rfl ?_
  refine XP_iraw rfl rfl (show 1 < 4 by omega) rfl (by omega) ?_
  rw [show (rw2 (rw2 I 1 0 (nI (wN (s 99 33)))) 1 15 (nI (c + 1))) 85 1 = nI (wN (s 99 34)) from t1]
  refine XP_call rfl rfl (c_put1 (c := c + 1) (by exact rw2_on) _) ?_
  rintro v1 M1 ⟨rfl, rfl⟩
  refine XP_n 1 (pc' := 15) (ls' := [.ref (84), .ref (1), .ref (80), .int (nI (1) + nI (1))]) (st' := []) (M' := ((rw2 (rw2 (rw2 (rw2 I 1 0 (nI (wN (s 99 33)))) 1 15 (nI (c + 1))) 1 1 (nI (wN (s 99 34)))) 1 15 (nI (c + 1 + 1))), J, Rx R, N, G)) rfl ?_
  rw [show nI (1) + nI (1) = nI (2) from nI_addE (rfl) rfl]
  refine XP_n 5 (pc' := 6) (ls' := [.ref (84), .ref (1), .ref (80), .int (nI (2))]) (st' := [.int (nI (4)), .int (nI (2))]) (M' := ((rw2 (rw2 (rw2 (rw2 I 1 0 (nI (wN (s 99 33)))) 1 15 (nI (c + 1))) 1 1 (nI (wN (s 99 34)))) 1 15 (nI (c + 1 + 1))), J, Rx R, N, G)) rfl ?_
  refine XP_icN (x := 2) (y := 4) rfl (by omega) (by omega) (fun (b6 : 4 ≤ 2) => absurd b6 (by omega)) (fun (b6 : 2 < 4) => ?_)
  refine XP_n 5 (pc' := 12) (ls' := [.ref (84), .ref (1), .ref (80), .int (nI (2))]) (st' := [.int (nI (2)), .ref (85), .int (nI (2)), .ref (1)]) (M' := ((rw2 (rw2 (rw2 (rw2 I 1 0 (nI (wN (s 99 33)))) 1 15 (nI (c + 1))) 1 1 (nI (wN (s 99 34)))) 1 15 (nI (c + 1 + 1))), J, Rx R, N, G)) rfl ?_
  refine XP_iraw rfl rfl (show 2 < 4 by omega) rfl (by omega) ?_
  rw [show (rw2 (rw2 (rw2 (rw2 I 1 0 (nI (wN (s 99 33)))) 1 15 (nI (c + 1))) 1 1 (nI (wN (s 99 34)))) 1 15 (nI (c + 1 + 1))) 85 2 = nI (wN (s 99 35)) from t2]
  refine XP_call rfl rfl (c_put2 (c := c + 1 + 1) (by exact rw2_on) _) ?_
  rintro v2 M2 ⟨rfl, rfl⟩
  refine XP_n 1 (pc' := 15) (ls' := [.ref (84), .ref (1), .ref (80), .int (nI (2) + nI (1))]) (st' := []) (M' := ((rw2 (rw2 (rw2 (rw2 (rw2 (rw2 I 1 0 (nI (wN (s 99 33)))) 1 15 (nI (c + 1))) 1 1 (nI (wN (s 99 34)))) 1 15 (nI (c + 1 + 1))) 1 2 (nI (wN (s 99 35)))) 1 15 (nI (c + 1 + 1 + 1))), J, Rx R, N, G)) rfl ?_
  rw [show nI (2) + nI (1) = nI (3) from nI_addE (rfl) rfl]
  refine XP_n 5 (pc' := 6) (ls' := [.ref (84), .ref (1), .ref (80), .int (nI (3))]) (st' := [.int (nI (4)), .int (nI (3))]) (M' := ((rw2 (rw2 (rw2 (rw2 (rw2 (rw2 I 1 0 (nI (wN (s 99 33)))) 1 15 (nI (c + 1))) 1 1 (nI (wN (s 99 34)))) 1 15 (nI (c + 1 + 1))) 1 2 (nI (wN (s 99 35)))) 1 15 (nI (c + 1 + 1 + 1))), J, Rx R, N, G)) rfl ?_
  refine XP_icN (x := 3) (y := 4) rfl (by omega) (by omega) (fun (b6 : 4 ≤ 3) => absurd b6 (by omega)) (fun (b6 : 3 < 4) => ?_)
  refine XP_n 5 (pc' := 12) (ls' := [.ref (84), .ref (1), .ref (80), .int (nI (3))]) (st' := [.int (nI (3)), .ref (85), .int (nI (3)), .ref (1)]) (M' := ((rw2 (rw2 (rw2 (rw2 (rw2 (rw2 I 1 0 (nI (wN (s 99 33)))) 1 15 (nI (c + 1))) 1 1 (nI (wN (s 99 34)))) 1 15 (nI (c + 1 + 1))) 1 2 (nI (wN (s 99 35)))) 1 15 (nI (c + 1 + 1 + 1))), J, Rx R, N, G)) rfl ?_
  refine XP_iraw rfl rfl (show 3 < 4 by omega) rfl (by omega) ?_
  rw [show (rw2 (rw2 (rw2 (rw2 (rw2 (rw2 I 1 0 (nI (wN (s 99 33)))) 1 15 (nI (c + 1))) 1 1 (nI (wN (s 99 34)))) 1 15 (nI (c + 1 + 1))) 1 2 (nI (wN (s 99 35)))) 1 15 (nI (c + 1 + 1 + 1))) 85 3 = nI (wN (s 99 36)) from t3]
  refine XP_call rfl rfl (c_put3 (c := c + 1 + 1 + 1) (by exact rw2_on) _) ?_
  rintro v3 M3 ⟨rfl, rfl⟩
  refine XP_n 1 (pc' := 15) (ls' := [.ref (84), .ref (1), .ref (80), .int (nI (3) + nI (1))]) (st' := []) (M' := ((rw2 (rw2 (rw2 (rw2 (rw2 (rw2 (rw2 (rw2 I 1 0 (nI (wN (s 99 33)))) 1 15 (nI (c + 1))) 1 1 (nI (wN (s 99 34)))) 1 15 (nI (c + 1 + 1))) 1 2 (nI (wN (s 99 35)))) 1 15 (nI (c + 1 + 1 + 1))) 1 3 (nI (wN (s 99 36)))) 1 15 (nI (c + 1 + 1 + 1 + 1))), J, Rx R, N, G)) rfl ?_
  rw [show nI (3) + nI (1) = nI (4) from nI_addE (rfl) rfl]
  refine XP_n 5 (pc' := 6) (ls' := [.ref (84), .ref (1), .ref (80), .int (nI (4))]) (st' := [.int (nI (4)), .int (nI (4))]) (M' := ((rw2 (rw2 (rw2 (rw2 (rw2 (rw2 (rw2 (rw2 I 1 0 (nI (wN (s 99 33)))) 1 15 (nI (c + 1))) 1 1 (nI (wN (s 99 34)))) 1 15 (nI (c + 1 + 1))) 1 2 (nI (wN (s 99 35)))) 1 15 (nI (c + 1 + 1 + 1))) 1 3 (nI (wN (s 99 36)))) 1 15 (nI (c + 1 + 1 + 1 + 1))), J, Rx R, N, G)) rfl ?_
  refine XP_icN (x := 4) (y := 4) rfl (by omega) (by omega) (fun (b6 : 4 ≤ 4) => ?_) (fun (b6 : 4 < 4) => absurd b6 (by omega))
  refine XP_n 2 (pc' := 18) (ls' := [.ref (84), .ref (1), .ref (80), .int (nI (0))]) (st' := []) (M' := ((rw2 (rw2 (rw2 (rw2 (rw2 (rw2 (rw2 (rw2 I 1 0 (nI (wN (s 99 33)))) 1 15 (nI (c + 1))) 1 1 (nI (wN (s 99 34)))) 1 15 (nI (c + 1 + 1))) 1 2 (nI (wN (s 99 35)))) 1 15 (nI (c + 1 + 1 + 1))) 1 3 (nI (wN (s 99 36)))) 1 15 (nI (c + 1 + 1 + 1 + 1))), J, Rx R, N, G)) rfl ?_
  exact l_gb hW hip (Iz := (rw2 (rw2 (rw2 (rw2 (rw2 (rw2 (rw2 (rw2 I 1 0 (nI (wN (s 99 33)))) 1 15 (nI (c + 1))) 1 1 (nI (wN (s 99 34)))) 1 15 (nI (c + 1 + 1))) 1 2 (nI (wN (s 99 35)))) 1 15 (nI (c + 1 + 1 + 1))) 1 3 (nI (wN (s 99 36)))) 1 15 (nI (c + 1 + 1 + 1 + 1)))) (c := c + 4) k84 k4 (cIP s) 0 _ (by omega) (fun k hk => by rw [Nat.add_zero]; exact (congrFun (rw2_self _ 1 15).symm k)) (fun j => (if_neg (by omega)).symm)
theorem l_M_gb {Iz : Nat → Nat → Int32} (k37 : Iz 99 37 = nI (cIP s)) (hip : cIP s ≤ 4) (k4 : Iz 99 4 = nI (cP s)) {Q : Option Value → hM → Prop} (kk : ∀ I1 : Nat → Nat → Int32, (∀ k, k ≠ 100 → I1 k = Iz k) → (∀ j, I1 100 j = blk Iz 100 0 (cIP s) (fun p => Iz 119 p) 100 j) → Q (some (.int (nI (cP s)))) (I1, J, Rx R, N, G)) : ∀ (n i : Nat) (I1 : Nat → Nat → Int32), i + n = cIP s → (∀ k, k ≠ 100 → I1 k = Iz k) → (∀ j, I1 100 j = blk Iz 100 0 i (fun p => Iz 119 p) 100 j) → XP X d k_M_back 31 [.ref 99, .int (nI i)] [] (I1, J, Rx R, N, G) Q := by
  intro n
  induction n with
  | zero =>
    rintro i I1 hi h1 h2
    obtain rfl : i = cIP s := by omega
    have q4 : I1 99 4 = nI (cP s) := by rw [h1 99 (by omega)]; exact k4
    have q37 : I1 99 37 = nI (cIP s) := by rw [h1 99 (by omega)]; exact k37
    refine XP_n 3 (pc' := 34) (ls' := [.ref (99), .int (nI (cIP s))]) (st' := [.int (I1 99 37), .int (nI (cIP s))]) (M' := (I1, J, Rx R, N, G)) rfl ?_
    rw [q37]
    refine XP_icN (x := cIP s) (y := cIP s) rfl (by omega) (by omega) (fun (b34 : cIP s ≤ cIP s) => ?_) (fun (b34 : cIP s < cIP s) => absurd b34 (by omega))
    refine XP_n 2 (pc' := 47) (ls' := [.ref (99), .int (nI (cIP s))]) (st' := [.int (I1 99 4)]) (M' := (I1, J, Rx R, N, G)) rfl ?_
    rw [q4]
    exact XP_ret rfl (kk _ h1 h2)
  | succ n ih =>
    rintro i I1 hi h1 h2
    have q37 : I1 99 37 = nI (cIP s) := by rw [h1 99 (by omega)]; exact k37
    refine XP_n 3 (pc' := 34) (ls' := [.ref (99), .int (nI (i))]) (st' := [.int (I1 99 37), .int (nI (i))]) (M' := (I1, J, Rx R, N, G)) rfl ?_
    rw [q37]
    refine XP_icN (x := i) (y := cIP s) rfl (by omega) (by omega) (fun (b34 : cIP s ≤ i) => absurd b34 (by omega)) (fun (b34 : i < cIP s) => ?_)
    refine XP_n 6 (pc' := 41) (ls' := [.ref (99), .int (nI (i))]) (st' := [.int (nI (i)), .ref (119), .int (nI (i)), .ref (100)]) (M' := (I1, J, Rx R, N, G)) rfl ?_
    refine XP_iraw rfl rfl (show i < 4 by omega) rfl (by omega) ?_
    rw [show I1 119 i = Iz 119 i from by rw [h1 119 (by omega)]]
    refine XP_iast rfl rfl (show i < 4 by omega) rfl (by omega) ?_
    refine XP_n 1 (pc' := 44) (ls' := [.ref (99), .int (nI (i) + nI (1))]) (st' := []) (M' := ((rw2 I1 100 i (Iz 119 i)), J, Rx R, N, G)) rfl ?_
    rw [show nI (i) + nI (1) = nI (i + 1) from nI_addE (rfl) rfl]
    refine XP_n 1 (pc' := 31) (ls' := [.ref (99), .int (nI (i + 1))]) (st' := []) (M' := ((rw2 I1 100 i (Iz 119 i)), J, Rx R, N, G)) rfl ?_
    refine ih (i + 1) _ (by omega) (fun k hk => (rw2_ro hk).trans (h1 k hk)) (fun j => ?_)
    rw [rw2_c]
    by_cases e : j = i
    · subst e
      rw [if_pos rfl]
      unfold blk
      rw [if_pos (by omega)]
      rfl
    · rw [if_neg e, h2 j]
      unfold blk
      by_cases g : j < i
      · rw [if_pos (by omega), if_pos (by omega)]
      · rw [if_neg (by omega), if_neg (by omega)]
end
theorem Wf_back {s : Nat → Nat → Int32} (hW : Wf s) (h1 : s 99 32 = nI 1) : Wf (blk (rw2 (rw2 (rw2 (rw2 (rw2 (rw2 (rw2 (rw2 s 99 0 (nI (wN (s 99 33)))) 99 1 (nI (wN (s 99 34)))) 99 2 (nI (wN (s 99 35)))) 1 3 (nI (wN (s 99 36)))) 99 25 (s 99 38)) 99 31 (nI (cIL s))) 1 15 (nI (wN (s 1 15) + 4 + cIP s + 1))) 99 3 (nI (wN (s 99 36)))) 100 0 (cIP s) (fun p => s 119 p)) := by
  have hi := hW.2.2.2.2.2.2.2.2.2
  have q := hi.2.1 h1
  have hp4 := hW.p.2
  have h5 := q.2.2.2.1.nat (by omega)
  have hz : ∀ p, p < cIP s → (blk (rw2 (rw2 (rw2 (rw2 (rw2 (rw2 (rw2 (rw2 s 99 0 (nI (wN (s 99 33)))) 99 1 (nI (wN (s 99 34)))) 99 2 (nI (wN (s 99 35)))) 1 3 (nI (wN (s 99 36)))) 99 25 (s 99 38)) 99 31 (nI (cIL s))) 1 15 (nI (wN (s 1 15) + 4 + cIP s + 1))) 99 3 (nI (wN (s 99 36)))) 100 0 (cIP s) (fun p => s 119 p)) 100 p = s 119 p := fun p hp => by
    have h := blk_on (s := (rw2 (rw2 (rw2 (rw2 (rw2 (rw2 (rw2 (rw2 s 99 0 (nI (wN (s 99 33)))) 99 1 (nI (wN (s 99 34)))) 99 2 (nI (wN (s 99 35)))) 1 3 (nI (wN (s 99 36)))) 99 25 (s 99 38)) 99 31 (nI (cIL s))) 1 15 (nI (wN (s 1 15) + 4 + cIP s + 1))) 99 3 (nI (wN (s 99 36))))) (a := 100) (o := 0) (g := fun p => s 119 p) hp
    rw [Nat.zero_add] at h
    exact h
  refine ⟨⟨⟨?_, ?_, ?_, ?_⟩, hW.1.2.1, ⟨hW.1.2.2.1.1, q.2.2.1, hW.1.2.2.1.2.2⟩, ⟨_, h5.2.1, h5.2.2, rfl⟩, ?_⟩, fun p hp => ?_, hW.2.2.1, hW.2.2.2.1, hW.2.2.2.2.1, hW.2.2.2.2.2.1, hW.2.2.2.2.2.2.1, hW.2.2.2.2.2.2.2.1, hW.2.2.2.2.2.2.2.2.1, hi.1, hi.2.1, fun p h2 h3 => ?_⟩
  · exact ⟨_, (q.1.1.nat (by omega)).2.1, (q.1.1.nat (by omega)).2.2, rfl⟩
  · exact ⟨_, (q.1.2.1.nat (by omega)).2.1, (q.1.2.1.nat (by omega)).2.2, rfl⟩
  · exact ⟨_, (q.1.2.2.1.nat (by omega)).2.1, (q.1.2.2.1.nat (by omega)).2.2, rfl⟩
  · exact ⟨_, (q.1.2.2.2.nat (by omega)).2.1, (q.1.2.2.2.nat (by omega)).2.2, rfl⟩
  · show wN (nI (cIL s)) < cTx s
    have h6 : cIL s ≤ 5 := h5.2.2
    rw [wN_nI (by omega)]
    exact q.2.2.2.2.1
  · have hp : p < cP s := hp
    refine ⟨?_, (hW.2.1 p hp).2⟩
    by_cases g : p < cIP s
    · rw [hz p g]
      exact q.2.2.2.2.2.2 p g
    · rw [blk_off (by omega)]
      exact (hW.2.1 p hp).1
  · have h2 : cP s ≤ p := h2
    have t := hi.2.2 p h2 h3
    have h7 := q.2.2.2.2.2.1
    refine ⟨?_, t.2⟩
    rw [blk_off (by omega)]
    exact t.1
theorem s_back {s : Nat → Nat → Int32} (hW : Wf s) (hch : iN 0 1000000 (s 1 15)) : SetG 20 n_H_back n_M_back [] s := by
  obtain ⟨hc1, hc2⟩ := ch_n hch
  have hp4 := hW.p.2
  by_cases g0 : s 99 32 = 0
  · refine ⟨cI (-3), s, hW, ⟨_, hc1, Nat.le_refl _, by omega⟩, fun X d I J R N G hI hG => ?_, fun X d I J R N G hS hD => ?_⟩
    · unfold TP
      show XP X _ k_H_back 0 [.ref (0)] [] _ _
      refine XP_n 2 (pc' := 2) (ls' := [.ref (0)]) (st' := [.ref (84)]) (M' := (I, J, Rx R, N, G)) rfl ?_
      refine XP_geti hI.1 rfl rfl rfl ?_
      refine XP_ifD rfl (fun (b3 : ¬ s 99 32 = 0) => absurd b3 (by first | exact g0 | exact fun z => z g0 | exact Int32.not_le.mpr g0 | exact Int32.not_lt.mpr (Int32.not_lt.mp g0) | omega)) (fun (b3 : s 99 32 = 0) => ?_)
      refine XP_n 1 (pc' := 5) (ls' := [.ref (0)]) (st' := [.int (cI (-3))]) (M' := (I, J, Rx R, N, G)) rfl ?_
      exact XP_ret rfl ⟨rfl, _, _, _, _, _, rfl, hI.1.C, hI.2.2.1, hI.2.2.2.1, FrM.rf, hG⟩
    · unfold TP
      show XP X _ k_M_back 0 [.ref (99), xj] [] _ _
      refine XP_n 1 (pc' := 1) (ls' := [.ref (99), xj]) (st' := [.ref (99)]) (M' := (I, J, Rx R, N, G)) rfl ?_
      refine XP_getiM hS rfl rfl rfl ?_
      refine XP_ifD rfl (fun (b2 : ¬ s 99 32 = 0) => absurd b2 (by first | exact g0 | exact fun z => z g0 | exact Int32.not_le.mpr g0 | exact Int32.not_lt.mpr (Int32.not_lt.mp g0) | omega)) (fun (b2 : s 99 32 = 0) => ?_)
      refine XP_n 1 (pc' := 4) (ls' := [.ref (99), xj]) (st' := [.int (cI (-3))]) (M' := (I, J, Rx R, N, G)) rfl ?_
      exact XP_ret rfl ⟨rfl, _, rfl, hS, FrC.rf⟩
  have hi := hW.2.2.2.2.2.2.2.2.2
  have g1 : s 99 32 = nI 1 := by
    obtain ⟨n, -, h2, h3⟩ := hi.1
    have hn : n = 0 ∨ n = 1 := by omega
    rcases hn with rfl | rfl
    · exact absurd h3 g0
    · exact h3
  have q := hi.2.1 g1
  have hip := q.2.2.2.2.2.1
  have n0 := (q.1.1.nat (by omega)).1
  have n1 := (q.1.2.1.nat (by omega)).1
  have n2 := (q.1.2.2.1.nat (by omega)).1
  have n3 := (q.1.2.2.2.nat (by omega)).1
  have n4 : s 99 37 = nI (cIP s) := (q.2.1.nat (by omega)).1
  have n5 : s 99 39 = nI (cIL s) := (q.2.2.2.1.nat (by omega)).1
  have hil := q.2.2.2.2.1
  refine ⟨nI (cP s), (blk (rw2 (rw2 (rw2 (rw2 (rw2 (rw2 (rw2 (rw2 s 99 0 (nI (wN (s 99 33)))) 99 1 (nI (wN (s 99 34)))) 99 2 (nI (wN (s 99 35)))) 1 3 (nI (wN (s 99 36)))) 99 25 (s 99 38)) 99 31 (nI (cIL s))) 1 15 (nI (wN (s 1 15) + 4 + cIP s + 1))) 99 3 (nI (wN (s 99 36)))) 100 0 (cIP s) (fun p => s 119 p)), Wf_back hW g1, ⟨_, rfl, by omega, by omega⟩, fun X d I J R N G hI hG => ?_, fun X d I J R N G hS hD => ?_⟩
  · have k15 : I 1 15 = nI (wN (s 1 15)) := (hI.1 1 15 1 15 rfl).trans hc1
    have k84 : I 84 4 = nI (cIP s) := (hI.1 84 4 99 37 rfl).trans n4
    have k4 : I 1 4 = nI (cP s) := (hI.1 1 4 99 4 rfl).trans hW.p.1
    have t0 : I 85 0 = nI (wN (s 99 33)) := (hI.1 85 0 99 33 rfl).trans n0
    have t1 : I 85 1 = nI (wN (s 99 34)) := (hI.1 85 1 99 34 rfl).trans n1
    have t2 : I 85 2 = nI (wN (s 99 35)) := (hI.1 85 2 99 35 rfl).trans n2
    have t3 : I 85 3 = nI (wN (s 99 36)) := (hI.1 85 3 99 36 rfl).trans n3
    have k841 : I 84 1 = nI (cIL s) := (hI.1 84 1 99 39 rfl).trans n5
    unfold TP
    show XP X _ k_H_back 0 [.ref (0)] [] _ _
    refine XP_n 2 (pc' := 2) (ls' := [.ref (0)]) (st' := [.ref (84)]) (M' := (I, J, Rx R, N, G)) rfl ?_
    refine XP_geti hI.1 rfl rfl rfl ?_
    refine XP_ifD rfl (fun (b3 : ¬ s 99 32 = 0) => ?_) (fun (b3 : s 99 32 = 0) => absurd b3 (by first | exact g0 | exact fun z => z g0 | exact Int32.not_le.mpr g0 | exact Int32.not_lt.mpr (Int32.not_lt.mp g0) | omega))
    refine XP_n 6 (pc' := 12) (ls' := [.ref (0)]) (st' := [.ref (80), .ref (1), .ref (84)]) (M' := (I, J, Rx R, N, G)) rfl ?_
    refine XP_call rfl rfl (c_gb hW hip k15 k84 k4 t0 t1 t2 t3) ?_
    rintro v1 M1 ⟨rfl, I1, rfl, e1, e2⟩
    have j841 : I1 84 1 = nI (cIL s) := by
      rw [e1 84 (by omega)]
      exact k841
    have j15 : I1 1 15 = nI (wN (s 1 15) + 4 + cIP s) := by
      rw [e1 1 (by omega)]
      rfl
    have j4 : I1 1 4 = nI (cP s) := by
      rw [e1 1 (by omega)]
      exact k4
    refine XP_n 4 (pc' := 17) (ls' := [.ref (0)]) (st' := [.int (I1 84 1), .ref (0)]) (M' := (I1, J, Rx R, N, G)) rfl ?_
    rw [j841]
    refine XP_call rfl rfl (c_mkT hW hI.2.2.1 hil j15) ?_
    rintro v2 M2 ⟨rfl, rfl⟩
    refine XP_n 4 (pc' := 22) (ls' := [.ref (0)]) (st' := [.int (I1 1 4)]) (M' := ((rw2 (rw2 I1 1 14 (nI (cIL s))) 1 15 (nI (wN (s 1 15) + 4 + cIP s + 1))), J, Rx (rw2 R 1 13 (some (oT (cIL s)))), N, G)) rfl ?_
    rw [j4]
    have hx : ∀ k, k ≠ 2 → rw2 (rw2 I1 1 14 (nI (cIL s))) 1 15 (nI (wN (s 1 15) + 4 + cIP s + 1)) k = (rw2 (rw2 (rw2 (rw2 (rw2 (rw2 (rw2 I 1 0 (nI (wN (s 99 33)))) 1 1 (nI (wN (s 99 34)))) 1 2 (nI (wN (s 99 35)))) 1 3 (nI (wN (s 99 36)))) 80 4 (s 99 38)) 1 14 (nI (cIL s))) 1 15 (nI (wN (s 1 15) + 4 + cIP s + 1))) k := fun k hk => by
      by_cases e : k = 1
      · subst e
        funext j
        rw [rw2_c, rw2_c, rw2_c, rw2_c, e1 1 (by omega), rw2_ro (show (1 : Nat) ≠ 80 by omega), rw2_ro (show (1 : Nat) ≠ 80 by omega), rw2_c, rw2_c, rw2_c, rw2_c, rw2_c, rw2_c, rw2_c, rw2_c, rw2_c, rw2_c, rw2_c, rw2_c, rw2_c]
        by_cases g : j = 15
        · rw [if_pos g, if_pos g]
        · simp only [if_neg g]
      · rw [rw2_ro e, rw2_ro e, e1 k hk]
        by_cases e3 : k = 80
        · subst e3
          funext j
          simp only [rw2_ro e, rw2_c]
          rw [hI.1 84 5 99 38 rfl]
        · simp only [rw2_ro e, rw2_ro e3]
    have hy : ∀ j, rw2 (rw2 I1 1 14 (nI (cIL s))) 1 15 (nI (wN (s 1 15) + 4 + cIP s + 1)) 2 j = (blk (rw2 (rw2 (rw2 (rw2 (rw2 (rw2 (rw2 (rw2 s 99 0 (nI (wN (s 99 33)))) 99 1 (nI (wN (s 99 34)))) 99 2 (nI (wN (s 99 35)))) 1 3 (nI (wN (s 99 36)))) 99 25 (s 99 38)) 99 31 (nI (cIL s))) 1 15 (nI (wN (s 1 15) + 4 + cIP s + 1))) 99 3 (nI (wN (s 99 36)))) 100 0 (cIP s) (fun p => s 119 p)) 100 j := fun j => by
      rw [rw2_ro (show (2 : Nat) ≠ 1 by omega), rw2_ro (show (2 : Nat) ≠ 1 by omega), e2 j]
      unfold blk
      by_cases g : j < cIP s
      · rw [if_pos g, if_pos (by omega)]
        exact hI.1 86 j 119 j rfl
      · rw [if_neg g, if_neg (by omega)]
        exact hI.1 2 j 100 j rfl
    exact XP_ret rfl ⟨rfl, _, _, _, _, _, rfl, StC_row (StC_sM (StC_w (StC_w (StC_w (StC_w (StC_w (StC_w (StC_w hI.1.C rfl) rfl) rfl) rfl) rfl) rfl) rfl) st_99_3) (fun b => rfl) (fun j => rfl) hx (fun a ha => blk_ro ha) hy, Lk_law hI.2.2.1 (fun k hk => by rw [blk_ro (by omega), rw2_ro (by omega), rw2_ro (by omega), rw2_ro (by omega), rw2_ro (by omega), rw2_ro (by omega), rw2_ro (by omega), rw2_ro (by omega), rw2_ro (by omega)]) rfl rfl rfl rfl rfl rfl (by show wN (nI (cIL s)) = cIL s; exact wN_nI (by have := hW.tx.2.2; omega)), Cch.new (hI.2.2.2.1.of (fun k h1 h2 => by rw [hx k (by omega), rw2_ro (by omega), rw2_ro (by omega), rw2_ro (by omega), rw2_ro (by omega), rw2_ro (by omega), rw2_ro (by omega), rw2_ro (by omega)]) (fun _ _ _ => rfl) hp4) hp4 rfl (by omega) (by omega), fun k hk => by have := isC_f hk; rw [hx k (by omega), rw2_ro (by omega), rw2_ro (by omega), rw2_ro (by omega), rw2_ro (by omega), rw2_ro (by omega), rw2_ro (by omega), rw2_ro (by omega)], hG.of rfl rfl⟩
  · have m33 : I 99 33 = nI (wN (s 99 33)) := (hS 99 33 99 33 rfl).trans n0
    have m34 : I 99 34 = nI (wN (s 99 34)) := (hS 99 34 99 34 rfl).trans n1
    have m35 : I 99 35 = nI (wN (s 99 35)) := (hS 99 35 99 35 rfl).trans n2
    have m36 : I 99 36 = nI (wN (s 99 36)) := (hS 99 36 99 36 rfl).trans n3
    have m39 : I 99 39 = nI (cIL s) := (hS 99 39 99 39 rfl).trans n5
    have m38 : I 99 38 = s 99 38 := hS 99 38 99 38 rfl
    unfold TP
    show XP X _ k_M_back 0 [.ref (99), xj] [] _ _
    refine XP_n 1 (pc' := 1) (ls' := [.ref (99), xj]) (st' := [.ref (99)]) (M' := (I, J, Rx R, N, G)) rfl ?_
    refine XP_getiM hS rfl rfl rfl ?_
    refine XP_ifD rfl (fun (b2 : ¬ s 99 32 = 0) => ?_) (fun (b2 : s 99 32 = 0) => absurd b2 (by first | exact g0 | exact fun z => z g0 | exact Int32.not_le.mpr g0 | exact Int32.not_lt.mpr (Int32.not_lt.mp g0) | omega))
    refine XP_n 3 (pc' := 8) (ls' := [.ref (99), xj]) (st' := [.int (I 99 33), .ref (99)]) (M' := (I, J, Rx R, N, G)) rfl ?_
    rw [m33]
    refine XP_n 4 (pc' := 12) (ls' := [.ref (99), xj]) (st' := [.int (I 99 34), .ref (99)]) (M' := ((rw2 I 99 0 (nI (wN (s 99 33)))), J, Rx R, N, G)) rfl ?_
    rw [m34]
    refine XP_n 4 (pc' := 16) (ls' := [.ref (99), xj]) (st' := [.int (I 99 35), .ref (99)]) (M' := ((rw2 (rw2 I 99 0 (nI (wN (s 99 33)))) 99 1 (nI (wN (s 99 34)))), J, Rx R, N, G)) rfl ?_
    rw [m35]
    refine XP_n 4 (pc' := 20) (ls' := [.ref (99), xj]) (st' := [.int (I 99 36), .ref (99)]) (M' := ((rw2 (rw2 (rw2 I 99 0 (nI (wN (s 99 33)))) 99 1 (nI (wN (s 99 34)))) 99 2 (nI (wN (s 99 35)))), J, Rx R, N, G)) rfl ?_
    rw [m36]
    refine XP_n 4 (pc' := 24) (ls' := [.ref (99), xj]) (st' := [.int (I 99 38), .ref (99)]) (M' := ((rw2 (rw2 (rw2 (rw2 I 99 0 (nI (wN (s 99 33)))) 99 1 (nI (wN (s 99 34)))) 99 2 (nI (wN (s 99 35)))) 99 3 (nI (wN (s 99 36)))), J, Rx R, N, G)) rfl ?_
    rw [m38]
    refine XP_n 4 (pc' := 28) (ls' := [.ref (99), xj]) (st' := [.int (I 99 39), .ref (99)]) (M' := ((rw2 (rw2 (rw2 (rw2 (rw2 I 99 0 (nI (wN (s 99 33)))) 99 1 (nI (wN (s 99 34)))) 99 2 (nI (wN (s 99 35)))) 99 3 (nI (wN (s 99 36)))) 99 25 (s 99 38)), J, Rx R, N, G)) rfl ?_
    rw [m39]
    refine XP_n 3 (pc' := 31) (ls' := [.ref (99), .int (nI (0))]) (st' := []) (M' := ((rw2 (rw2 (rw2 (rw2 (rw2 (rw2 I 99 0 (nI (wN (s 99 33)))) 99 1 (nI (wN (s 99 34)))) 99 2 (nI (wN (s 99 35)))) 99 3 (nI (wN (s 99 36)))) 99 25 (s 99 38)) 99 31 (nI (cIL s))), J, Rx R, N, G)) rfl ?_
    have he : (rw2 (rw2 (rw2 (rw2 (rw2 (rw2 I 99 0 (nI (wN (s 99 33)))) 99 1 (nI (wN (s 99 34)))) 99 2 (nI (wN (s 99 35)))) 99 3 (nI (wN (s 99 36)))) 99 25 (s 99 38)) 99 31 (nI (cIL s))) = (rw2 (rw2 (rw2 (rw2 (rw2 (rw2 I 99 0 (nI (wN (s 99 33)))) 99 1 (nI (wN (s 99 34)))) 99 2 (nI (wN (s 99 35)))) 99 25 (s 99 38)) 99 31 (nI (cIL s))) 99 3 (nI (wN (s 99 36)))) := by
      rw [rw2_comm (k := 99) (j := 3) (k' := 99) (j' := 25) (by decide), rw2_comm (k := 99) (j := 3) (k' := 99) (j' := 31) (by decide)]
    have hM : StM (rw2 (rw2 (rw2 (rw2 (rw2 (rw2 (rw2 (rw2 s 99 0 (nI (wN (s 99 33)))) 99 1 (nI (wN (s 99 34)))) 99 2 (nI (wN (s 99 35)))) 1 3 (nI (wN (s 99 36)))) 99 25 (s 99 38)) 99 31 (nI (cIL s))) 1 15 (nI (wN (s 1 15) + 4 + cIP s + 1))) 99 3 (nI (wN (s 99 36)))) (rw2 (rw2 (rw2 (rw2 (rw2 (rw2 I 99 0 (nI (wN (s 99 33)))) 99 1 (nI (wN (s 99 34)))) 99 2 (nI (wN (s 99 35)))) 99 3 (nI (wN (s 99 36)))) 99 25 (s 99 38)) 99 31 (nI (cIL s))) := by
      rw [he]
      exact (StM_w (StM_sC (StM_w (StM_w (StM_sC (StM_w (StM_w (StM_w hS rfl) rfl) rfl) rfl) rfl) rfl) rfl) rfl)
    refine l_M_gb (s := s) (Iz := (rw2 (rw2 (rw2 (rw2 (rw2 (rw2 I 99 0 (nI (wN (s 99 33)))) 99 1 (nI (wN (s 99 34)))) 99 2 (nI (wN (s 99 35)))) 99 3 (nI (wN (s 99 36)))) 99 25 (s 99 38)) 99 31 (nI (cIL s)))) ((hS 99 37 99 37 rfl).trans n4) (by omega) ((hS 99 4 99 4 rfl).trans hW.p.1) (fun I1 h1 h2 => ⟨rfl, _, rfl, StM_row hM h1 (fun a ha => blk_ro ha) (fun b => ?_), fun k hk => ?_⟩) (cIP s) 0 _ (by omega) (fun _ _ => rfl) (fun j => (blk_off (by omega)).symm)
    · rw [h2 b]
      unfold blk
      by_cases g : b < cIP s
      · rw [if_pos (by omega), if_pos (by omega)]
        exact hS 119 _ 119 _ rfl
      · rw [if_neg (by omega), if_neg (by omega)]
        exact hS 100 b 100 b rfl
    · have := isC_t hk
      rw [h1 k (by omega), rw2_ro (by omega), rw2_ro (by omega), rw2_ro (by omega), rw2_ro (by omega), rw2_ro (by omega), rw2_ro (by omega)]
