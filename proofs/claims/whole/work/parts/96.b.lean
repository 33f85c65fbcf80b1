/-! setters: rows of the host -/
theorem blk_ic {b : Nat} : ic 122 b = (88 + 2 * (b / 40), b % 40) := rfl
theorem mpC_sh {sn : Nat} (h : sn < 4) {j : Nat} (hj : j < 40) : mpC (88 + 2 * sn) j = some (122, 40 * sn + j) := by
  unfold mpC
  have : isC (88 + 2 * sn) = true := by
    unfold isC
    rw [blt_t (by omega), Bool.true_or]
  rw [this, cond_true]
  exact sh_c h hj
/-- the class's half under a change of one row of the host -/
theorem StC_blk {s s' I I' : Nat → Nat → Int32} {sn : Nat} (h : StC s I) (hsn : sn < 4) (h1 : ∀ k, k ≠ 88 + 2 * sn → I' k = I k) (h2 : ∀ a b, ¬ (a = 122 ∧ 40 * sn ≤ b ∧ b < 40 * sn + 40) → s' a b = s a b) (h3 : ∀ j, j < 40 → I' (88 + 2 * sn) j = s' 122 (40 * sn + j)) : StC s' I' := fun k j a b hk => by
  have e := ic_ok hk
  by_cases hb : a = 122 ∧ 40 * sn ≤ b ∧ b < 40 * sn + 40
  · obtain ⟨rfl, hb1, hb2⟩ := hb
    rw [blk_ic] at e
    injection e with e1 e2
    have e3 : b / 40 = sn := by omega
    rw [e3] at e1
    subst e1 e2
    rw [h3 _ (by omega), show 40 * sn + b % 40 = b by omega]
  · rw [h2 a b hb]
    have hne : k ≠ 88 + 2 * sn ∨ ¬ j < 40 := by
      by_cases q : k = 88 + 2 * sn ∧ j < 40
      · exfalso
        obtain ⟨rfl, hj⟩ := q
        rw [mpC_sh hsn hj] at hk
        injection hk with hk
        injection hk with q1 q2
        exact hb ⟨q1.symm, by omega, by omega⟩
      · by_cases q1 : k = 88 + 2 * sn
        · exact Or.inr (fun z => q ⟨q1, z⟩)
        · exact Or.inl q1
    rcases hne with hne | hne
    · rw [h1 k hne]
      exact h _ _ _ _ hk
    · by_cases q1 : k = 88 + 2 * sn
      · exfalso
        subst q1
        have hk2 := hk
        unfold mpC at hk2
        have hc : isC (88 + 2 * sn) = true := by
          unfold isC
          rw [blt_t (by omega), Bool.true_or]
        rw [hc, cond_true] at hk2
        have : mp (88 + 2 * sn) j = none := four_cases (P := fun i => mp (88 + 2 * i) j = none) (by show (bif Nat.blt j 40 then _ else _) = _; rw [blt_f (by omega)]; rfl) (by show (bif Nat.blt j 40 then _ else _) = _; rw [blt_f (by omega)]; rfl) (by show (bif Nat.blt j 40 then _ else _) = _; rw [blt_f (by omega)]; rfl) (by show (bif Nat.blt j 40 then _ else _) = _; rw [blt_f (by omega)]; rfl) sn hsn
        rw [this] at hk2
        cases hk2
      · rw [h1 k q1]
        exact h _ _ _ _ hk
/-- the model's half under a change of row 122 -/
theorem StM_blk {s s' I I' : Nat → Nat → Int32} (h : StM s I) (h1 : ∀ k, k ≠ 122 → I' k = I k) (h2 : ∀ a, a ≠ 122 → s' a = s a) (h3 : ∀ b, I' 122 b = s' 122 b) : StM s' I' := fun k j a b hk => by
  obtain ⟨rfl, rfl⟩ := mpM_id hk
  by_cases e : a = 122
  · subst e
    exact h3 b
  · rw [h1 a e, h2 a e]
    exact h _ _ _ _ hk
/-- a block of a row, written anew -/
def blk (s : Nat → Nat → Int32) (a o n : Nat) (g : Nat → Int32) : Nat → Nat → Int32 := fun x y => if x = a ∧ o ≤ y ∧ y < o + n then g (y - o) else s x y
theorem blk_on {s : Nat → Nat → Int32} {a o n j : Nat} {g : Nat → Int32} (h : j < n) : blk s a o n g a (o + j) = g j := by
  unfold blk
  rw [if_pos ⟨rfl, by omega, by omega⟩, Nat.add_sub_cancel_left]
theorem blk_off {s : Nat → Nat → Int32} {a o n x y : Nat} {g : Nat → Int32} (h : ¬ (x = a ∧ o ≤ y ∧ y < o + n)) : blk s a o n g x y = s x y := by
  unfold blk
  rw [if_neg h]
theorem blk_ro {s : Nat → Nat → Int32} {a o n x : Nat} {g : Nat → Int32} (h : x ≠ a) : blk s a o n g x = s x := by
  funext y
  exact blk_off (fun z => h z.1)
theorem nI_m1x {n : Nat} (h : n < 2147483648) : ¬ nI n = cI (-1) := fun e => by
  have := congrArg Int32.toInt e
  rw [nI_toInt (by omega)] at this
  have e1 : (cI (-1)).toInt = -1 := by decide
  omega
section
variable {X : hX} {d : Nat} {s I : Nat → Nat → Int32} {J : Nat → Nat → Int64} {R : Nat → Nat → Option Nat} {N : Nat → Nat} {G : hG}
theorem l_fillI {k m : Nat} {x : Int32} (hk : isA k 0 = true) (hm : alen N k = m) (h31 : m < 2147483648) : ∀ (n i : Nat) (I1 : Nat → Nat → Int32), i + n = m → (∀ a, a ≠ k → I1 a = I a) → (∀ j, j < i → I1 k j = x) → XP X d k_Arrays_fill_53178 5 [.ref (k), .int (x), .int (nI (i)), .int (nI (m))] [] (I1, J, Rx R, N, G) (fun v M' => v = none ∧ ∃ I', M' = (I', J, Rx R, N, G) ∧ (∀ a, a ≠ k → I' a = I a) ∧ ∀ j, j < m → I' k j = x) := by
  intro n
  induction n with
  | zero =>
    rintro i I1 hi hO hx
    obtain rfl : i = m := by omega
    refine XP_n 2 (pc' := 7) (ls' := [.ref (k), .int (x), .int (nI (i)), .int (nI (i))]) (st' := [.int (nI (i)), .int (nI (i))]) (M' := (I1, J, Rx R, N, G)) rfl ?_
    refine XP_icN (x := i) (y := i) rfl (by omega) (by omega) (fun (b7 : i ≤ i) => ?_) (fun (b7 : i < i) => absurd b7 (by omega))
    exact XP_ret rfl ⟨rfl, _, rfl, hO, hx⟩
  | succ n ih =>
    rintro i I1 hi hO hx
    refine XP_n 2 (pc' := 7) (ls' := [.ref (k), .int (x), .int (nI (i)), .int (nI (m))]) (st' := [.int (nI (m)), .int (nI (i))]) (M' := (I1, J, Rx R, N, G)) rfl ?_
    refine XP_icN (x := i) (y := m) rfl (by omega) (by omega) (fun (b7 : m ≤ i) => absurd b7 (by omega)) (fun (b7 : i < m) => ?_)
    refine XP_n 3 (pc' := 11) (ls' := [.ref (k), .int (x), .int (nI (i)), .int (nI (m))]) (st' := [.int (x), .int (nI (i)), .ref (k)]) (M' := (I1, J, Rx R, N, G)) rfl ?_
    refine XP_iast rfl hk (show i < m by omega) hm (by omega) ?_
    refine XP_n 1 (pc' := 13) (ls' := [.ref (k), .int (x), .int (nI (i) + nI (1)), .int (nI (m))]) (st' := []) (M' := ((rw2 I1 k i (x)), J, Rx R, N, G)) rfl ?_
    rw [show nI (i) + nI (1) = nI (i + 1) from nI_addE (rfl) rfl]
    refine XP_n 1 (pc' := 5) (ls' := [.ref (k), .int (x), .int (nI (i + 1)), .int (nI (m))]) (st' := []) (M' := ((rw2 I1 k i (x)), J, Rx R, N, G)) rfl ?_
    refine ih (i + 1) _ (by omega) (fun a ha => (rw2_ro ha).trans (hO a ha)) (fun j hj => ?_)
    by_cases e : j = i
    · subst e
      rw [rw2_on]
    · rw [rw2_off (fun z => e z.2)]
      exact hx j (by omega)
theorem c_fillI {k m : Nat} {x : Int32} (hk : isA k 0 = true) (hm : alen N k = m) (h31 : m < 2147483648) : TP X d n_Arrays_fill_53178 [.ref k, .int x] (I, J, Rx R, N, G) (fun v M' => v = none ∧ ∃ I', M' = (I', J, Rx R, N, G) ∧ (∀ a, a ≠ k → I' a = I a) ∧ ∀ j, j < m → I' k j = x) := by
  unfold TP
  show XP X _ k_Arrays_fill_53178 0 [.ref (k), .int (x), xj, xj] [] _ _
  refine XP_n 3 (pc' := 3) (ls' := [.ref (k), .int (x), .int (nI (0)), xj]) (st' := [.ref (k)]) (M' := (I, J, Rx R, N, G)) rfl ?_
  refine XP_len rfl hk hm ?_
  refine XP_n 1 (pc' := 5) (ls' := [.ref (k), .int (x), .int (nI (0)), .int (nI (m))]) (st' := []) (M' := (I, J, Rx R, N, G)) rfl ?_
  exact l_fillI hk hm h31 m 0 I (by omega) (fun _ _ => rfl) (fun j h => absurd h (by omega))
theorem c_become {sn m : Nat} (hsn : sn < 4) (hm : m ≤ 40) (x : Int32) : TP X (d + 1) n_Sheet_become [.ref (87 + 2 * sn), .int x, .int (nI m)] (I, J, Rx R, N, G) (fun v M' => v = none ∧ ∃ I', M' = (I', J, Rx R, N, G) ∧ (∀ a, a ≠ 88 + 2 * sn → I' a = rw2 (rw2 I (87 + 2 * sn) 0 x) (87 + 2 * sn) 1 (nI m) a) ∧ ∀ j, j < 40 → I' (88 + 2 * sn) j = nI 0) := by
  have ho := sh_o hsn
  unfold TP
  show XP X _ k_Sheet_become 0 [.ref (87 + 2 * sn), .int (x), .int (nI (m))] [] _ _
  refine XP_n 2 (pc' := 2) (ls' := [.ref (87 + 2 * sn), .int (x), .int (nI (m))]) (st' := [.int (x), .ref (87 + 2 * sn)]) (M' := (I, J, Rx R, N, G)) rfl ?_
  refine XP_putw rfl (by rw [sh_o hsn]; rfl) ?_
  show XP X _ k_Sheet_become 3 [.ref (87 + 2 * sn), .int (x), .int (nI (m))] [] ((rw2 I (87 + 2 * sn) 0 (x)), J, Rx R, N, G) _
  refine XP_n 4 (pc' := 7) (ls' := [.ref (87 + 2 * sn), .int (x), .int (nI (m))]) (st' := [.ref (87 + 2 * sn), .int (nI (m)), .int (nI (0)), .ref (87 + 2 * sn)]) (M' := ((rw2 I (87 + 2 * sn) 0 (x)), J, Rx R, N, G)) rfl ?_
  refine XP_getr rfl (by rw [sh_o (show sn < 4 by omega)]; rfl) (sh_r R (show sn < 4 by omega))  ?_
  refine XP_len rfl (sh_a (show sn < 4 by omega)) (sh_l N (show sn < 4 by omega)) ?_
  refine XP_n 1 (pc' := 10) (ls' := [.ref (87 + 2 * sn), .int (x), .int (nI (m))]) (st' := [.int ((if nI (40) < nI (m) then nI (40) else nI (m))), .int (nI (0)), .ref (87 + 2 * sn)]) (M' := ((rw2 I (87 + 2 * sn) 0 (x)), J, Rx R, N, G)) rfl ?_
  rw [show (if nI (40) < nI (m) then nI (40) else nI (m)) = nI (m) from (nI_min (by omega) (by omega)).trans (by rw [Nat.min_eq_left (by omega)])]
  refine XP_n 1 (pc' := 11) (ls' := [.ref (87 + 2 * sn), .int (x), .int (nI (m))]) (st' := [.int ((if nI (0) < nI (m) then nI (m) else nI (0))), .ref (87 + 2 * sn)]) (M' := ((rw2 I (87 + 2 * sn) 0 (x)), J, Rx R, N, G)) rfl ?_
  rw [show (if nI (0) < nI (m) then nI (m) else nI (0)) = nI (m) from (nI_max (by omega) (by omega)).trans (by rw [Nat.max_eq_right (by omega)])]
  refine XP_putw rfl (by rw [sh_o hsn]; rfl) ?_
  show XP X _ k_Sheet_become 12 [.ref (87 + 2 * sn), .int (x), .int (nI (m))] [] ((rw2 (rw2 I (87 + 2 * sn) 0 (x)) (87 + 2 * sn) 1 (nI (m))), J, Rx R, N, G) _
  refine XP_n 1 (pc' := 13) (ls' := [.ref (87 + 2 * sn), .int (x), .int (nI (m))]) (st' := [.ref (87 + 2 * sn)]) (M' := ((rw2 (rw2 I (87 + 2 * sn) 0 (x)) (87 + 2 * sn) 1 (nI (m))), J, Rx R, N, G)) rfl ?_
  refine XP_getr rfl (by rw [sh_o (show sn < 4 by omega)]; rfl) (sh_r R (show sn < 4 by omega))  ?_
  refine XP_n 1 (pc' := 15) (ls' := [.ref (87 + 2 * sn), .int (x), .int (nI (m))]) (st' := [.int (nI (0)), .ref (88 + 2 * sn)]) (M' := ((rw2 (rw2 I (87 + 2 * sn) 0 (x)) (87 + 2 * sn) 1 (nI (m))), J, Rx R, N, G)) rfl ?_
  refine XP_call rfl rfl (c_fillI (sh_a hsn) (sh_l N hsn) (by omega)) ?_
  rintro v1 M1 ⟨rfl, I1, rfl, e1, e2⟩
  exact XP_ret rfl ⟨rfl, _, rfl, e1, e2⟩
end
