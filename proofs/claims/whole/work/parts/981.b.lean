/-! setters: image -/
theorem StM_row {s s' I I' : Nat → Nat → Int32} {r : Nat} (h : StM s I) (h1 : ∀ k, k ≠ r → I' k = I k) (h2 : ∀ a, a ≠ r → s' a = s a) (h3 : ∀ b, I' r b = s' r b) : StM s' I' := fun k j a b hk => by
  obtain ⟨rfl, rfl⟩ := mpM_id hk
  by_cases e : a = r
  · subst e
    exact h3 b
  · rw [h1 a e, h2 a e]
    exact h _ _ _ _ hk
theorem StC_row {s s' I I' : Nat → Nat → Int32} {K r : Nat} (h : StC s I) (hr : ∀ b, ic r b = (K, b)) (hK : ∀ j, mpC K j = some (r, j)) (h1 : ∀ k, k ≠ K → I' k = I k) (h2 : ∀ a, a ≠ r → s' a = s a) (h3 : ∀ b, I' K b = s' r b) : StC s' I' := fun k j a b hk => by
  by_cases e : a = r
  · subst e
    have e2 := ic_ok hk
    rw [hr] at e2
    injection e2 with e3 e4
    subst e3 e4
    exact h3 b
  · have e2 : k ≠ K := fun z => by
      subst z
      rw [hK] at hk
      injection hk with hk
      injection hk with q1 q2
      exact e q1.symm
    rw [h1 k e2, h2 a e]
    exact h _ _ _ _ hk
section
variable {X : hX} {d : Nat} {s I : Nat → Nat → Int32} {J : Nat → Nat → Int64} {R : Nat → Nat → Option Nat} {N : Nat → Nat} {G : hG}
theorem l_wOf2 (hW : Wf s) (k4 : I 1 4 = nI (cP s)) (kw : ∀ p, p < cP s → I 2 p = nI (rWt s p)) (set : Int32) : ∀ (n i : Nat) (acc : Int32), i + n = cP s → acc = nI (sumN (wIf s set) (i)) → XP X (d) k_Coast_weightOf 4 [.ref (1), .int (set), .int (acc), .int (nI (i))] [] (I, J, Rx R, N, G) (Ret (.int (nI (sumN (wIf s set) (cP s)))) (I, J, Rx R, N, G)) := by
  have hp4 := hW.p.2
  intro n
  induction n with
  | zero =>
    rintro i _ hi rfl
    obtain rfl : i = cP s := by omega
    refine XP_n 3 (pc' := 7) (ls' := [.ref (1), .int (set), .int (nI (sumN (wIf s set) (cP s))), .int (nI (cP s))]) (st' := [.int (I 1 4), .int (nI (cP s))]) (M' := (I, J, Rx R, N, G)) rfl ?_
    rw [k4]
    refine XP_icN (x := cP s) (y := cP s) rfl (by omega) (by omega) (fun (b7 : cP s ≤ cP s) => ?_) (fun (b7 : cP s < cP s) => absurd b7 (by omega))
    refine XP_n 1 (pc' := 27) (ls' := [.ref (1), .int (set), .int (nI (sumN (wIf s set) (cP s))), .int (nI (cP s))]) (st' := [.int (nI (sumN (wIf s set) (cP s)))]) (M' := (I, J, Rx R, N, G)) rfl ?_
    exact XP_ret rfl ⟨rfl, rfl⟩
  | succ n ih =>
    rintro i _ hi rfl
    refine XP_n 3 (pc' := 7) (ls' := [.ref (1), .int (set), .int (nI (sumN (wIf s set) (i))), .int (nI (i))]) (st' := [.int (I 1 4), .int (nI (i))]) (M' := (I, J, Rx R, N, G)) rfl ?_
    rw [k4]
    refine XP_icN (x := i) (y := cP s) rfl (by omega) (by omega) (fun (b7 : cP s ≤ i) => absurd b7 (by omega)) (fun (b7 : i < cP s) => ?_)
    refine XP_n 2 (pc' := 10) (ls' := [.ref (1), .int (set), .int (nI (sumN (wIf s set) (i))), .int (nI (i))]) (st' := [.int (nI (4)), .int (nI (i))]) (M' := (I, J, Rx R, N, G)) rfl ?_
    refine XP_icN (x := i) (y := 4) rfl (by omega) (by omega) (fun (b10 : 4 ≤ i) => absurd b10 (by omega)) (fun (b10 : i < 4) => ?_)
    refine XP_n 5 (pc' := 16) (ls' := [.ref (1), .int (set), .int (nI (sumN (wIf s set) (i))), .int (nI (i))]) (st' := [.int (((set) >>> ((nI (i)) &&& 31)) &&& (nI (1)))]) (M' := (I, J, Rx R, N, G)) rfl ?_
    refine XP_ifD rfl (fun (b16 : ((set) >>> ((nI (i)) &&& 31)) &&& (nI (1)) = 0) => ?_) (fun (b16 : ¬ ((set) >>> ((nI (i)) &&& 31)) &&& (nI (1)) = 0) => ?_)
    · refine XP_n 1 (pc' := 25) (ls' := [.ref (1), .int (set), .int (nI (sumN (wIf s set) (i))), .int (nI (i) + nI (1))]) (st' := []) (M' := (I, J, Rx R, N, G)) rfl ?_
      rw [show nI (i) + nI (1) = nI (i + 1) from nI_addE (rfl) rfl]
      refine XP_n 1 (pc' := 4) (ls' := [.ref (1), .int (set), .int (nI (sumN (wIf s set) (i))), .int (nI (i + 1))]) (st' := []) (M' := (I, J, Rx R, N, G)) rfl ?_
      exact ih (i + 1) _ (by omega) (by simp [sumN, wIf, b16])
    · refine XP_n 4 (pc' := 21) (ls' := [.ref (1), .int (set), .int (nI (sumN (wIf s set) (i))), .int (nI (i))]) (st' := [.int (nI (i)), .ref (2), .int (nI (sumN (wIf s set) (i)))]) (M' := (I, J, Rx R, N, G)) rfl ?_
      refine XP_iraw rfl rfl (show i < 4 by omega) rfl (by omega) ?_
      rw [show I 2 i = nI (rWt s i) from kw i (by omega)]
      refine XP_n 2 (pc' := 24) (ls' := [.ref (1), .int (set), .int ((nI (sumN (wIf s set) (i))) + (nI (rWt s i))), .int (nI (i))]) (st' := []) (M' := (I, J, Rx R, N, G)) rfl ?_
      rw [show (nI (sumN (wIf s set) (i))) + (nI (rWt s i)) = nI (sumN (wIf s set) (i) + rWt s i) from nI_addE (rfl) (rfl)]
      refine XP_n 1 (pc' := 25) (ls' := [.ref (1), .int (set), .int (nI (sumN (wIf s set) (i) + rWt s i)), .int (nI (i) + nI (1))]) (st' := []) (M' := (I, J, Rx R, N, G)) rfl ?_
      rw [show nI (i) + nI (1) = nI (i + 1) from nI_addE (rfl) rfl]
      refine XP_n 1 (pc' := 4) (ls' := [.ref (1), .int (set), .int (nI (sumN (wIf s set) (i) + rWt s i)), .int (nI (i + 1))]) (st' := []) (M' := (I, J, Rx R, N, G)) rfl ?_
      exact ih (i + 1) _ (by omega) (by simp [sumN, wIf, b16])
theorem c_wOne2 (hW : Wf s) (k4 : I 1 4 = nI (cP s)) (kw : ∀ p, p < cP s → I 2 p = nI (rWt s p)) {p : Nat} (hp : p < cP s) : TP X d n_Coast_weightOf [.ref 1, .int (nI 1 <<< (nI p &&& 31))] (I, J, Rx R, N, G) (Ret (.int (nI (rWt s p))) (I, J, Rx R, N, G)) := by
  have h4 := hW.p.2
  have e : sumN (wIf s (nI 1 <<< (nI p &&& 31))) (cP s) = rWt s p := by
    rw [sumN_1 (p := p) (fun i hi hne => by unfold wIf; rw [if_pos ((b_one p (by omega) i (by omega)).mpr hne)]) hp]
    unfold wIf
    rw [if_neg (fun z => (b_one p (by omega) p (by omega)).mp z rfl)]
  rw [← e]
  unfold TP
  show XP X _ k_Coast_weightOf 0 [.ref (1), .int (nI 1 <<< (nI p &&& 31)), xj, xj] [] _ _
  refine XP_n 4 (pc' := 4) (ls' := [.ref (1), .int (nI 1 <<< (nI p &&& 31)), .int (nI (0)), .int (nI (0))]) (st' := []) (M' := (I, J, Rx R, N, G)) rfl ?_
  exact l_wOf2 hW k4 kw _ (cP s) 0 _ (by omega) rfl
theorem l_keep (hW : Wf s) {Iz : Nat → Nat → Int32} (k84 : Iz 84 4 = nI (cP s)) (k4 : Iz 1 4 = nI (cP s)) (kw : ∀ p, p < cP s → Iz 2 p = nI (rWt s p)) (k80 : Iz 80 4 = nI (cPu s)) : ∀ (n i : Nat) (I1 : Nat → Nat → Int32), i + n = cP s → (∀ k, k ≠ 86 → I1 k = Iz k) → (∀ j, I1 86 j = if j < i then nI (rWt s j) else I 86 j) → XP X (d + 1) k_Image_keep 37 [.ref 84, .ref 1, .ref 80, .int (nI i)] [] (I1, J, Rx R, N, G) (fun v M' => v = none ∧ ∃ I', M' = (I', J, Rx R, N, G) ∧ (∀ k, k ≠ 86 → I' k = rw2 Iz 84 5 (nI (cPu s)) k) ∧ ∀ j, I' 86 j = if j < cP s then nI (rWt s j) else I 86 j) := by
  have hp4 := hW.p.2
  intro n
  induction n with
  | zero =>
    rintro i I1 hi h1 h2
    obtain rfl : i = cP s := by omega
    have q84 : I1 84 4 = nI (cP s) := by rw [h1 84 (by omega)]; exact k84
    have q80 : I1 80 4 = nI (cPu s) := by rw [h1 80 (by omega)]; exact k80
    refine XP_n 3 (pc' := 40) (ls' := [.ref (84), .ref (1), .ref (80), .int (nI (cP s))]) (st' := [.int (I1 84 4), .int (nI (cP s))]) (M' := (I1, J, Rx R, N, G)) rfl ?_
    rw [q84]
    refine XP_icN (x := cP s) (y := cP s) rfl (by omega) (by omega) (fun (b40 : cP s ≤ cP s) => ?_) (fun (b40 : cP s < cP s) => absurd b40 (by omega))
    refine XP_n 3 (pc' := 60) (ls' := [.ref (84), .ref (1), .ref (80), .int (nI (cP s))]) (st' := [.int (I1 80 4), .ref (84)]) (M' := (I1, J, Rx R, N, G)) rfl ?_
    rw [q80]
    refine XP_n 1 (pc' := 61) (ls' := [.ref (84), .ref (1), .ref (80), .int (nI (cP s))]) (st' := []) (M' := ((rw2 I1 84 5 (nI (cPu s))), J, Rx R, N, G)) rfl ?_
    exact XP_ret rfl ⟨rfl, _, rfl, fun k hk => by
      by_cases e : k = 84
      · subst e
        funext j
        unfold rw2
        rw [h1 84 hk]
      · rw [rw2_ro e, rw2_ro e, h1 k hk], h2⟩
  | succ n ih =>
    rintro i I1 hi h1 h2
    have q84 : I1 84 4 = nI (cP s) := by rw [h1 84 (by omega)]; exact k84
    have q80 : I1 80 4 = nI (cPu s) := by rw [h1 80 (by omega)]; exact k80
    refine XP_n 3 (pc' := 40) (ls' := [.ref (84), .ref (1), .ref (80), .int (nI (i))]) (st' := [.int (I1 84 4), .int (nI (i))]) (M' := (I1, J, Rx R, N, G)) rfl ?_
    rw [q84]
    refine XP_icN (x := i) (y := cP s) rfl (by omega) (by omega) (fun (b40 : cP s ≤ i) => absurd b40 (by omega)) (fun (b40 : i < cP s) => ?_)
    refine XP_n 4 (pc' := 45) (ls' := [.ref (84), .ref (1), .ref (80), .int (nI (i))]) (st' := [.int (nI (4)), .int (nI (i))]) (M' := (I1, J, Rx R, N, G)) rfl ?_
    refine XP_icN (x := i) (y := 4) rfl (by omega) (by omega) (fun (b45 : 4 ≤ i) => absurd b45 (by omega)) (fun (b45 : i < 4) => ?_)
    refine XP_n 7 (pc' := 53) (ls' := [.ref (84), .ref (1), .ref (80), .int (nI (i))]) (st' := [.int ((nI (1)) <<< ((nI (i)) &&& 31)), .ref (1), .int (nI (i)), .ref (86)]) (M' := (I1, J, Rx R, N, G)) rfl ?_
    refine XP_pure rfl rfl (c_wOne2 hW (by rw [h1 1 (by omega)]; exact k4) (fun p hp => by rw [h1 2 (by omega)]; exact kw p hp) (show i < cP s by omega)) ?_
    refine XP_iast rfl rfl (show i < 4 by omega) rfl (by omega) ?_
    refine XP_n 1 (pc' := 56) (ls' := [.ref (84), .ref (1), .ref (80), .int (nI (i) + nI (1))]) (st' := []) (M' := ((rw2 I1 86 i (nI (rWt s i))), J, Rx R, N, G)) rfl ?_
    rw [show nI (i) + nI (1) = nI (i + 1) from nI_addE (rfl) rfl]
    refine XP_n 1 (pc' := 37) (ls' := [.ref (84), .ref (1), .ref (80), .int (nI (i + 1))]) (st' := []) (M' := ((rw2 I1 86 i (nI (rWt s i))), J, Rx R, N, G)) rfl ?_
    refine ih (i + 1) _ (by omega) (fun k hk => (rw2_ro hk).trans (h1 k hk)) (fun j => ?_)
    by_cases e : j = i
    · subst e
      rw [rw2_on, if_pos (by omega)]
    · rw [rw2_off (fun z => e z.2), h2 j]
      by_cases g : j < i
      · rw [if_pos g, if_pos (by omega)]
      · rw [if_neg g, if_neg (by omega)]
theorem c_keep (hS : St s I) (hW : Wf s) (hL : Lk s R N) : TP X (d + 1) n_Image_keep [.ref 84, .ref 1, .ref 80] (I, J, Rx R, N, G) (fun v M' => v = none ∧ ∃ I', M' = (I', J, Rx R, N, G) ∧ (∀ k, k ≠ 86 → I' k = rw2 (rw2 (rw2 (rw2 (rw2 (rw2 (rw2 (rw2 I 84 0 (nI 1)) 84 1 (nI (cLw s))) 85 0 (nI (cY s))) 85 1 (nI (cW s))) 85 2 (nI (cB s))) 85 3 (nI (cBr s))) 84 4 (nI (cP s))) 84 5 (nI (cPu s)) k) ∧ ∀ j, I' 86 j = if j < cP s then nI (rWt s j) else I 86 j) := by
  have hp4 := hW.p.2
  have k1_14 : I 1 14 = nI (cLw s) := (hS 1 14 99 31 rfl).trans hW.lw.1
  have k1_0 : I 1 0 = nI (cY s) := (hS 1 0 99 0 rfl).trans hW.y.1
  have k1_1 : I 1 1 = nI (cW s) := (hS 1 1 99 1 rfl).trans hW.w.1
  have k1_2 : I 1 2 = nI (cB s) := (hS 1 2 99 2 rfl).trans hW.b.1
  have k1_3 : I 1 3 = nI (cBr s) := ((hS 1 3 1 3 rfl).trans hL.2.2.2.2.2.2).trans hW.br.1
  have k1_4 : I 1 4 = nI (cP s) := (hS 1 4 99 4 rfl).trans hW.p.1
  have k80_4 : I 80 4 = nI (cPu s) := (hS 80 4 99 25 rfl).trans hW.pu.1
  unfold TP
  show XP X _ k_Image_keep 0 [.ref (84), .ref (1), .ref (80), xj] [] _ _
  refine XP_n 6 (pc' := 6) (ls' := [.ref (84), .ref (1), .ref (80), xj]) (st' := [.int (I 1 14), .ref (84)]) (M' := ((rw2 I 84 0 (nI (1))), J, Rx R, N, G)) rfl ?_
  rw [k1_14]
  refine XP_n 6 (pc' := 12) (ls' := [.ref (84), .ref (1), .ref (80), xj]) (st' := [.int (I 1 0), .int (nI (0)), .ref (85)]) (M' := ((rw2 (rw2 I 84 0 (nI (1))) 84 1 (nI (cLw s))), J, Rx R, N, G)) rfl ?_
  rw [k1_0]
  refine XP_iast rfl rfl (show 0 < 4 by omega) rfl (by omega) ?_
  refine XP_n 5 (pc' := 18) (ls' := [.ref (84), .ref (1), .ref (80), xj]) (st' := [.int (I 1 1), .int (nI (1)), .ref (85)]) (M' := ((rw2 (rw2 (rw2 I 84 0 (nI (1))) 84 1 (nI (cLw s))) 85 0 (nI (cY s))), J, Rx R, N, G)) rfl ?_
  rw [k1_1]
  refine XP_iast rfl rfl (show 1 < 4 by omega) rfl (by omega) ?_
  refine XP_n 5 (pc' := 24) (ls' := [.ref (84), .ref (1), .ref (80), xj]) (st' := [.int (I 1 2), .int (nI (2)), .ref (85)]) (M' := ((rw2 (rw2 (rw2 (rw2 I 84 0 (nI (1))) 84 1 (nI (cLw s))) 85 0 (nI (cY s))) 85 1 (nI (cW s))), J, Rx R, N, G)) rfl ?_
  rw [k1_2]
  refine XP_iast rfl rfl (show 2 < 4 by omega) rfl (by omega) ?_
  refine XP_n 5 (pc' := 30) (ls' := [.ref (84), .ref (1), .ref (80), xj]) (st' := [.int (I 1 3), .int (nI (3)), .ref (85)]) (M' := ((rw2 (rw2 (rw2 (rw2 (rw2 I 84 0 (nI (1))) 84 1 (nI (cLw s))) 85 0 (nI (cY s))) 85 1 (nI (cW s))) 85 2 (nI (cB s))), J, Rx R, N, G)) rfl ?_
  rw [k1_3]
  refine XP_iast rfl rfl (show 3 < 4 by omega) rfl (by omega) ?_
  refine XP_n 3 (pc' := 34) (ls' := [.ref (84), .ref (1), .ref (80), xj]) (st' := [.int (I 1 4), .ref (84)]) (M' := ((rw2 (rw2 (rw2 (rw2 (rw2 (rw2 I 84 0 (nI (1))) 84 1 (nI (cLw s))) 85 0 (nI (cY s))) 85 1 (nI (cW s))) 85 2 (nI (cB s))) 85 3 (nI (cBr s))), J, Rx R, N, G)) rfl ?_
  rw [k1_4]
  refine XP_n 3 (pc' := 37) (ls' := [.ref (84), .ref (1), .ref (80), .int (nI (0))]) (st' := []) (M' := ((rw2 (rw2 (rw2 (rw2 (rw2 (rw2 (rw2 I 84 0 (nI (1))) 84 1 (nI (cLw s))) 85 0 (nI (cY s))) 85 1 (nI (cW s))) 85 2 (nI (cB s))) 85 3 (nI (cBr s))) 84 4 (nI (cP s))), J, Rx R, N, G)) rfl ?_
  exact l_keep hW (Iz := (rw2 (rw2 (rw2 (rw2 (rw2 (rw2 (rw2 I 84 0 (nI 1)) 84 1 (nI (cLw s))) 85 0 (nI (cY s))) 85 1 (nI (cW s))) 85 2 (nI (cB s))) 85 3 (nI (cBr s))) 84 4 (nI (cP s)))) rfl k1_4 (fun p hp => (hS 2 p 100 p rfl).trans (hW.pw hp).1) k80_4 (cP s) 0 _ (by omega) (fun _ _ => rfl) (fun j => (if_neg (by omega)).symm)
theorem l_M_img {Iz : Nat → Nat → Int32} (kw : ∀ p, Iz 100 p = s 100 p) (k4 : Iz 99 4 = nI (cP s)) {Q : Option Value → hM → Prop} (kk : ∀ I1 : Nat → Nat → Int32, (∀ k, k ≠ 119 → I1 k = Iz k) → (∀ j, I1 119 j = blk Iz 119 0 4 (fun p => s 100 p) 119 j) → Q (some (.int (nI (cP s)))) (I1, J, Rx R, N, G)) : ∀ (n i : Nat) (I1 : Nat → Nat → Int32), i + n = 4 → (∀ k, k ≠ 119 → I1 k = Iz k) → (∀ j, I1 119 j = blk Iz 119 0 i (fun p => s 100 p) 119 j) → XP X d k_M_image 33 [.ref 99, .int (nI i)] [] (I1, J, Rx R, N, G) Q := by
  intro n
  induction n with
  | zero =>
    rintro i I1 hi h1 h2
    obtain rfl : i = 4 := by omega
    have q4 : I1 99 4 = nI (cP s) := by rw [h1 99 (by omega)]; exact k4
    refine XP_n 2 (pc' := 35) (ls' := [.ref (99), .int (nI (4))]) (st' := [.int (nI (4)), .int (nI (4))]) (M' := (I1, J, Rx R, N, G)) rfl ?_
    refine XP_icN (x := 4) (y := 4) rfl (by omega) (by omega) (fun (b35 : 4 ≤ 4) => ?_) (fun (b35 : 4 < 4) => absurd b35 (by omega))
    refine XP_n 2 (pc' := 48) (ls' := [.ref (99), .int (nI (4))]) (st' := [.int (I1 99 4)]) (M' := (I1, J, Rx R, N, G)) rfl ?_
    rw [q4]
    exact XP_ret rfl (kk _ h1 h2)
  | succ n ih =>
    rintro i I1 hi h1 h2
    refine XP_n 2 (pc' := 35) (ls' := [.ref (99), .int (nI (i))]) (st' := [.int (nI (4)), .int (nI (i))]) (M' := (I1, J, Rx R, N, G)) rfl ?_
    refine XP_icN (x := i) (y := 4) rfl (by omega) (by omega) (fun (b35 : 4 ≤ i) => absurd b35 (by omega)) (fun (b35 : i < 4) => ?_)
    refine XP_n 6 (pc' := 42) (ls' := [.ref (99), .int (nI (i))]) (st' := [.int (nI (i)), .ref (100), .int (nI (i)), .ref (119)]) (M' := (I1, J, Rx R, N, G)) rfl ?_
    refine XP_iraw rfl rfl (show i < 4 by omega) rfl (by omega) ?_
    rw [show I1 100 i = s 100 i from by rw [h1 100 (by omega)]; exact kw i]
    refine XP_iast rfl rfl (show i < 4 by omega) rfl (by omega) ?_
    refine XP_n 1 (pc' := 45) (ls' := [.ref (99), .int (nI (i) + nI (1))]) (st' := []) (M' := ((rw2 I1 119 i (s 100 i)), J, Rx R, N, G)) rfl ?_
    rw [show nI (i) + nI (1) = nI (i + 1) from nI_addE (rfl) rfl]
    refine XP_n 1 (pc' := 33) (ls' := [.ref (99), .int (nI (i + 1))]) (st' := []) (M' := ((rw2 I1 119 i (s 100 i)), J, Rx R, N, G)) rfl ?_
    refine ih (i + 1) _ (by omega) (fun k hk => (rw2_ro hk).trans (h1 k hk)) (fun j => ?_)
    by_cases e : j = i
    · subst e
      rw [rw2_on]
      unfold blk
      rw [if_pos (by omega)]
      rfl
    · rw [rw2_off (fun z => e z.2), h2 j]
      unfold blk
      by_cases g : j < i
      · rw [if_pos (by omega), if_pos (by omega)]
      · rw [if_neg (by omega), if_neg (by omega)]
end
theorem img_eq (s : Nat → Nat → Int32) : (rw2 (rw2 (rw2 (rw2 (rw2 (rw2 (rw2 (rw2 s 99 32 (nI 1)) 99 39 (nI (cLw s))) 99 33 (nI (cY s))) 99 34 (nI (cW s))) 99 35 (nI (cB s))) 99 36 (nI (cBr s))) 99 37 (nI (cP s))) 99 38 (nI (cPu s))) = (rw2 (rw2 (rw2 (rw2 (rw2 (rw2 (rw2 (rw2 s 99 32 (nI 1)) 99 33 (nI (cY s))) 99 34 (nI (cW s))) 99 35 (nI (cB s))) 99 36 (nI (cBr s))) 99 37 (nI (cP s))) 99 38 (nI (cPu s))) 99 39 (nI (cLw s))) := by
  rw [rw2_comm (k := 99) (j := 39) (k' := 99) (j' := 33) (by decide), rw2_comm (k := 99) (j := 39) (k' := 99) (j' := 34) (by decide), rw2_comm (k := 99) (j := 39) (k' := 99) (j' := 35) (by decide), rw2_comm (k := 99) (j := 39) (k' := 99) (j' := 36) (by decide), rw2_comm (k := 99) (j := 39) (k' := 99) (j' := 37) (by decide), rw2_comm (k := 99) (j := 39) (k' := 99) (j' := 38) (by decide)]
theorem Wf_img {s : Nat → Nat → Int32} (hW : Wf s) : Wf (blk (rw2 (rw2 (rw2 (rw2 (rw2 (rw2 (rw2 (rw2 s 99 32 (nI 1)) 99 33 (nI (cY s))) 99 34 (nI (cW s))) 99 35 (nI (cB s))) 99 36 (nI (cBr s))) 99 37 (nI (cP s))) 99 38 (nI (cPu s))) 99 39 (nI (cLw s))) 119 0 4 (fun p => s 100 p)) := by
  have hi := hW.2.2.2.2.2.2.2.2.2
  have hp4 := hW.p.2
  have hz : ∀ p, p < 4 → (blk (rw2 (rw2 (rw2 (rw2 (rw2 (rw2 (rw2 (rw2 s 99 32 (nI 1)) 99 33 (nI (cY s))) 99 34 (nI (cW s))) 99 35 (nI (cB s))) 99 36 (nI (cBr s))) 99 37 (nI (cP s))) 99 38 (nI (cPu s))) 99 39 (nI (cLw s))) 119 0 4 (fun p => s 100 p)) 119 p = s 100 p := fun p hp => by
    have h := blk_on (s := (rw2 (rw2 (rw2 (rw2 (rw2 (rw2 (rw2 (rw2 s 99 32 (nI 1)) 99 33 (nI (cY s))) 99 34 (nI (cW s))) 99 35 (nI (cB s))) 99 36 (nI (cBr s))) 99 37 (nI (cP s))) 99 38 (nI (cPu s))) 99 39 (nI (cLw s)))) (a := 119) (o := 0) (g := fun p => s 100 p) hp
    rw [Nat.zero_add] at h
    exact h
  refine ⟨hW.1, hW.2.1, hW.2.2.1, hW.2.2.2.1, hW.2.2.2.2.1, hW.2.2.2.2.2.1, hW.2.2.2.2.2.2.1, hW.2.2.2.2.2.2.2.1, hW.2.2.2.2.2.2.2.2.1, ⟨1, by omega, by omega, rfl⟩, fun _ => ⟨⟨⟨_, hW.y.2.1, hW.y.2.2, rfl⟩, ⟨_, Nat.zero_le _, hW.w.2, rfl⟩, ⟨_, Nat.zero_le _, hW.b.2, rfl⟩, ⟨_, Nat.zero_le _, hW.br.2, rfl⟩⟩, ⟨_, Nat.zero_le _, hp4, rfl⟩, ⟨_, Nat.zero_le _, hW.pu.2, rfl⟩, ⟨_, Nat.zero_le _, ?_, rfl⟩, ?_, ?_, fun p hp => ?_⟩, fun p h1 h2 => ?_⟩
  · have := hW.lw.2
    have := hW.tx.2.2
    omega
  · show wN (nI (cLw s)) < cTx s
    have := hW.lw.2
    have := hW.tx.2.2
    rw [wN_nI (by omega)]
    omega
  · show wN (nI (cP s)) ≤ cP s
    rw [wN_nI (by omega)]
    exact Nat.le_refl _
  · have hp2 : p < wN (nI (cP s)) := hp
    rw [wN_nI (by omega)] at hp2
    rw [hz p (by omega)]
    exact (hW.2.1 p hp2).1
  · have h1 : cP s ≤ p := h1
    have q := hi.2.2 p h1 h2
    refine ⟨q.1, ?_⟩
    rw [hz p h2]
    exact q.1
theorem s_image {s : Nat → Nat → Int32} (hW : Wf s) (hch : iN 0 1000000 (s 1 15)) : SetOk 20 n_H_image n_M_image [] s := by
  have hp4 := hW.p.2
  have hrow : ∀ k, k ≠ 99 → k ≠ 119 → (blk (rw2 (rw2 (rw2 (rw2 (rw2 (rw2 (rw2 (rw2 s 99 32 (nI 1)) 99 33 (nI (cY s))) 99 34 (nI (cW s))) 99 35 (nI (cB s))) 99 36 (nI (cBr s))) 99 37 (nI (cP s))) 99 38 (nI (cPu s))) 99 39 (nI (cLw s))) 119 0 4 (fun p => s 100 p)) k = s k := fun k h1 h2 => by rw [blk_ro h2, rw2_ro (by omega), rw2_ro (by omega), rw2_ro (by omega), rw2_ro (by omega), rw2_ro (by omega), rw2_ro (by omega), rw2_ro (by omega), rw2_ro (by omega)]
  have hag : Agr s (blk (rw2 (rw2 (rw2 (rw2 (rw2 (rw2 (rw2 (rw2 s 99 32 (nI 1)) 99 33 (nI (cY s))) 99 34 (nI (cW s))) 99 35 (nI (cB s))) 99 36 (nI (cBr s))) 99 37 (nI (cP s))) 99 38 (nI (cPu s))) 99 39 (nI (cLw s))) 119 0 4 (fun p => s 100 p)) := ⟨fun k h1 h2 => hrow k (by omega) (by omega), hrow _ (by omega) (by omega), hrow _ (by omega) (by omega), fun j hj => by rw [blk_ro (by omega), rw2_off (by omega), rw2_off (by omega), rw2_off (by omega), rw2_off (by omega), rw2_off (by omega), rw2_off (by omega), rw2_off (by omega), rw2_off (by omega)], rfl, hrow 1 (by omega) (by omega)⟩
  have hagl : AgrL s (blk (rw2 (rw2 (rw2 (rw2 (rw2 (rw2 (rw2 (rw2 s 99 32 (nI 1)) 99 33 (nI (cY s))) 99 34 (nI (cW s))) 99 35 (nI (cB s))) 99 36 (nI (cBr s))) 99 37 (nI (cP s))) 99 38 (nI (cPu s))) 99 39 (nI (cLw s))) 119 0 4 (fun p => s 100 p)) := ⟨fun k hk => hrow k (by omega) (by omega), hrow _ (by omega) (by omega), hrow _ (by omega) (by omega), hrow _ (by omega) (by omega), fun e => e, rfl, rfl, rfl⟩
  refine ⟨nI (cP s), (blk (rw2 (rw2 (rw2 (rw2 (rw2 (rw2 (rw2 (rw2 s 99 32 (nI 1)) 99 33 (nI (cY s))) 99 34 (nI (cW s))) 99 35 (nI (cB s))) 99 36 (nI (cBr s))) 99 37 (nI (cP s))) 99 38 (nI (cPu s))) 99 39 (nI (cLw s))) 119 0 4 (fun p => s 100 p)), Wf_img hW, Up.rf hch, fun X d I J R N G hI => ?_, fun X d I J R N G hS => ?_⟩
  · have hL := hI.2.2.1
    unfold TP
    show XP X _ k_H_image 0 [.ref (0)] [] _ _
    refine XP_n 6 (pc' := 6) (ls' := [.ref (0)]) (st' := [.ref (80), .ref (1), .ref (84)]) (M' := (I, J, Rx R, N, G)) rfl ?_
    refine XP_call rfl rfl (c_keep hI.1 hW hL) ?_
    rintro v1 M1 ⟨rfl, I1, rfl, e1, e2⟩
    have k4 : I1 1 4 = nI (cP s) := by
      rw [e1 1 (by omega)]
      exact (hI.1 1 4 99 4 rfl).trans hW.p.1
    refine XP_n 3 (pc' := 10) (ls' := [.ref (0)]) (st' := [.int (I1 1 4)]) (M' := (I1, J, Rx R, N, G)) rfl ?_
    rw [k4]
    exact XP_ret rfl ⟨rfl, _, rfl, StC_row (img_eq s ▸ (StC_w (StC_w (StC_w (StC_w (StC_w (StC_w (StC_w (StC_w hI.1.C rfl) rfl) rfl) rfl) rfl) rfl) rfl) rfl)) (fun b => rfl) (fun j => rfl) e1 (fun a ha => blk_ro ha) (fun b => by
        rw [e2 b]
        unfold blk
        by_cases g : b < cP s
        · rw [if_pos g, if_pos (by omega)]
          show nI (rWt s b) = s 100 (b - 0)
          rw [Nat.sub_zero, (hW.pw g).1]
        · rw [if_neg g]
          have e3 : I 86 b = s 119 b := hI.1 86 b 119 b rfl
          rw [e3]
          by_cases g2 : b < 4
          · have q := hW.2.2.2.2.2.2.2.2.2.2.2 b (by omega) g2
            rw [if_pos (by omega), q.2]
            exact q.1.symm
          · rw [if_neg (by omega)]
            rfl), agrl_Lk hagl hI.2.2.1, agr_Cch hag (hI.2.2.2.1.of (fun k h1 h2 => by rw [e1 k (by omega), rw2_ro (by omega), rw2_ro (by omega), rw2_ro (by omega), rw2_ro (by omega), rw2_ro (by omega), rw2_ro (by omega), rw2_ro (by omega), rw2_ro (by omega)]) (fun _ _ _ => rfl) hW.p.2), fun k hk => by have := isC_f hk; rw [e1 k (by omega), rw2_ro (by omega), rw2_ro (by omega), rw2_ro (by omega), rw2_ro (by omega), rw2_ro (by omega), rw2_ro (by omega), rw2_ro (by omega), rw2_ro (by omega)]⟩
  · have k99_0 : I 99 0 = nI (cY s) := (hS 99 0 99 0 rfl).trans hW.y.1
    have k99_1 : I 99 1 = nI (cW s) := (hS 99 1 99 1 rfl).trans hW.w.1
    have k99_2 : I 99 2 = nI (cB s) := (hS 99 2 99 2 rfl).trans hW.b.1
    have k99_3 : I 99 3 = nI (cBr s) := (hS 99 3 99 3 rfl).trans hW.br.1
    have k99_4 : I 99 4 = nI (cP s) := (hS 99 4 99 4 rfl).trans hW.p.1
    have k99_25 : I 99 25 = nI (cPu s) := (hS 99 25 99 25 rfl).trans hW.pu.1
    have k99_31 : I 99 31 = nI (cLw s) := (hS 99 31 99 31 rfl).trans hW.lw.1
    unfold TP
    show XP X _ k_M_image 0 [.ref (99), xj] [] _ _
    refine XP_n 6 (pc' := 6) (ls' := [.ref (99), xj]) (st' := [.int (I 99 0), .ref (99)]) (M' := ((rw2 I 99 32 (nI (1))), J, Rx R, N, G)) rfl ?_
    rw [k99_0]
    refine XP_n 4 (pc' := 10) (ls' := [.ref (99), xj]) (st' := [.int (I 99 1), .ref (99)]) (M' := ((rw2 (rw2 I 99 32 (nI (1))) 99 33 (nI (cY s))), J, Rx R, N, G)) rfl ?_
    rw [k99_1]
    refine XP_n 4 (pc' := 14) (ls' := [.ref (99), xj]) (st' := [.int (I 99 2), .ref (99)]) (M' := ((rw2 (rw2 (rw2 I 99 32 (nI (1))) 99 33 (nI (cY s))) 99 34 (nI (cW s))), J, Rx R, N, G)) rfl ?_
    rw [k99_2]
    refine XP_n 4 (pc' := 18) (ls' := [.ref (99), xj]) (st' := [.int (I 99 3), .ref (99)]) (M' := ((rw2 (rw2 (rw2 (rw2 I 99 32 (nI (1))) 99 33 (nI (cY s))) 99 34 (nI (cW s))) 99 35 (nI (cB s))), J, Rx R, N, G)) rfl ?_
    rw [k99_3]
    refine XP_n 4 (pc' := 22) (ls' := [.ref (99), xj]) (st' := [.int (I 99 4), .ref (99)]) (M' := ((rw2 (rw2 (rw2 (rw2 (rw2 I 99 32 (nI (1))) 99 33 (nI (cY s))) 99 34 (nI (cW s))) 99 35 (nI (cB s))) 99 36 (nI (cBr s))), J, Rx R, N, G)) rfl ?_
    rw [k99_4]
    refine XP_n 4 (pc' := 26) (ls' := [.ref (99), xj]) (st' := [.int (I 99 25), .ref (99)]) (M' := ((rw2 (rw2 (rw2 (rw2 (rw2 (rw2 I 99 32 (nI (1))) 99 33 (nI (cY s))) 99 34 (nI (cW s))) 99 35 (nI (cB s))) 99 36 (nI (cBr s))) 99 37 (nI (cP s))), J, Rx R, N, G)) rfl ?_
    rw [k99_25]
    refine XP_n 4 (pc' := 30) (ls' := [.ref (99), xj]) (st' := [.int (I 99 31), .ref (99)]) (M' := ((rw2 (rw2 (rw2 (rw2 (rw2 (rw2 (rw2 I 99 32 (nI (1))) 99 33 (nI (cY s))) 99 34 (nI (cW s))) 99 35 (nI (cB s))) 99 36 (nI (cBr s))) 99 37 (nI (cP s))) 99 38 (nI (cPu s))), J, Rx R, N, G)) rfl ?_
    rw [k99_31]
    refine XP_n 3 (pc' := 33) (ls' := [.ref (99), .int (nI (0))]) (st' := []) (M' := ((rw2 (rw2 (rw2 (rw2 (rw2 (rw2 (rw2 (rw2 I 99 32 (nI (1))) 99 33 (nI (cY s))) 99 34 (nI (cW s))) 99 35 (nI (cB s))) 99 36 (nI (cBr s))) 99 37 (nI (cP s))) 99 38 (nI (cPu s))) 99 39 (nI (cLw s))), J, Rx R, N, G)) rfl ?_
    refine l_M_img (s := s) (Iz := (rw2 (rw2 (rw2 (rw2 (rw2 (rw2 (rw2 (rw2 I 99 32 (nI 1)) 99 33 (nI (cY s))) 99 34 (nI (cW s))) 99 35 (nI (cB s))) 99 36 (nI (cBr s))) 99 37 (nI (cP s))) 99 38 (nI (cPu s))) 99 39 (nI (cLw s)))) (fun p => hS 100 p 100 p rfl) k99_4 (fun I1 h1 h2 => ⟨rfl, _, rfl, StM_row (StM_w (StM_w (StM_w (StM_w (StM_w (StM_w (StM_w (StM_w hS rfl) rfl) rfl) rfl) rfl) rfl) rfl) rfl) h1 (fun a ha => blk_ro ha) (fun b => ?_), fun k hk => ?_⟩) 4 0 _ (by omega) (fun _ _ => rfl) (fun j => (blk_off (by omega)).symm)
    · rw [h2 b]
      unfold blk
      by_cases g : b < 4
      · rw [if_pos (by omega), if_pos (by omega)]
      · rw [if_neg (by omega), if_neg (by omega)]
        exact hS 119 b 119 b rfl
    · have := isC_t hk
      rw [h1 k (by omega), rw2_ro (by omega), rw2_ro (by omega), rw2_ro (by omega), rw2_ro (by omega), rw2_ro (by omega), rw2_ro (by omega), rw2_ro (by omega), rw2_ro (by omega)]
