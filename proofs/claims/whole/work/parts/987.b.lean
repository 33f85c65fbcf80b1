/-! setters: rule, the two halves -/
theorem blk_rw2 {s : Nat → Nat → Int32} {a b r o n : Nat} {x : Int32} {f : Nat → Int32} (h : a ≠ r) : blk (rw2 s a b x) r o n f = rw2 (blk s r o n f) a b x := by
  funext p q
  by_cases e : p = a
  · subst e
    rw [blk_off (fun z => h z.1), rw2_c, rw2_c, blk_off (fun z => h z.1)]
  · rw [rw2_off (fun z => e z.1)]
    unfold blk
    by_cases g : p = r ∧ o ≤ q ∧ q < o + n
    · rw [if_pos g, if_pos g]
    · rw [if_neg g, if_neg g, rw2_off (fun z => e z.1)]
section
variable {X : hX} {d : Nat} {s I : Nat → Nat → Int32} {J : Nat → Nat → Int64} {R : Nat → Nat → Option Nat} {N : Nat → Nat} {G : hG}
theorem c_rInit2 {r nt sl : Nat} (hr : r < 8) (k mo : Int32) {re : Nat} (hre : re < 2147483648) : TP X d n_Rule_init [.ref (1000 + 2 * r), .int k, .int mo, .int (nI re)] (I, J, Rx R, N, (1, 133, 2 * r + 1, nt, sl)) (fun v M' => v = none ∧ ∃ I', M' = (I', rwR J (1001 + 2 * r) (fun _ => 0), Rx (rw2 (rwR R (1001 + 2 * r) (fun _ => none)) (1000 + 2 * r) 4 (some (1001 + 2 * r))), N, (1, 133, 2 * r + 2, nt, sl + 16)) ∧ (∀ q, q ≠ 1000 + 2 * r → q ≠ 1001 + 2 * r → I' q = I q) ∧ (I' (1000 + 2 * r) 0 = k ∧ I' (1000 + 2 * r) 1 = mo ∧ I' (1000 + 2 * r) 2 = nI (re / 100) ∧ I' (1000 + 2 * r) 3 = nI (re % 100)) ∧ ∀ j, I' (1001 + 2 * r) j = nI 0) := by
  refine TP_mono (c_rInit hr k mo hre) ?_
  rintro v M' ⟨rfl, rfl⟩
  refine ⟨rfl, _, rfl, fun q h1 h2 => by rw [rw2_ro h1, rw2_ro h1, rw2_ro h1, rw2_ro h1, rwR_n2 h2], ⟨?_, ?_, ?_, ?_⟩, fun j => ?_⟩
  · rw [rw2_c, rw2_c, rw2_c, rw2_c]
    rfl
  · rw [rw2_c, rw2_c, rw2_c]
    rfl
  · rw [rw2_c, rw2_c]
    rfl
  · rw [rw2_c]
    rfl
  · rw [rw2_ro (by omega), rw2_ro (by omega), rw2_ro (by omega), rw2_ro (by omega), rwR_a2]
    rfl
theorem c_refNull (k mo : Int32) : TP X (d + 3) n_H_refusedRow [.null, .int k, .int mo] (I, J, Rx R, N, G) (Ret (.int (cI (-2))) (I, J, Rx R, N, G)) := by
  unfold TP
  show XP X _ k_H_refusedRow 0 [.null, .int (k), .int (mo)] [] _ _
  refine XP_n 3 (pc' := 3) (ls' := [.null, .int (k), .int (mo)]) (st' := [.int (cI (-2))]) (M' := (I, J, Rx R, N, G)) rfl ?_
  exact XP_ret rfl ⟨rfl, rfl⟩
theorem l_M_rgT (hS : StM s I) {sn re : Nat} {mo sh : Int32} (hsn : sn < 4) (hg : ∀ j, j < 16 → iv 0 20 (s 122 (40 * sn + j))) {Q : Option Value → hM → Prop} (kk : XP X (d + 1) k_M_rule 99 [.ref 99, .int (nI 4), .int mo, .int (nI re), .int sh, .int (nI 1), .int (nI sn), .int (nI 16)] [] (I, J, Rx R, N, G) Q) : ∀ (n y : Nat), y + n = 16 → XP X (d + 1) k_M_rule 73 [.ref 99, .int (nI 4), .int mo, .int (nI re), .int sh, .int (nI 1), .int (nI sn), .int (nI y)] [] (I, J, Rx R, N, G) Q := by
  intro n
  induction n with
  | zero =>
    intro y hy
    obtain rfl : y = 16 := by omega
    refine XP_n 2 (pc' := 75) (ls' := [.ref (99), .int (nI (4)), .int (mo), .int (nI (re)), .int (sh), .int (nI (1)), .int (nI (sn)), .int (nI (16))]) (st' := [.int (nI (16)), .int (nI (16))]) (M' := (I, J, Rx R, N, G)) rfl ?_
    refine XP_icN (x := 16) (y := 16) rfl (by omega) (by omega) (fun (b75 : 16 ≤ 16) => ?_) (fun (b75 : 16 < 16) => absurd b75 (by omega))
    refine XP_n 1 (pc' := 96) (ls' := [.ref (99), .int (nI (4)), .int (mo), .int (nI (re)), .int (sh), .int (nI (1)), .int (nI (sn)), .int (nI (16))]) (st' := [.int (nI (1))]) (M' := (I, J, Rx R, N, G)) rfl ?_
    refine XP_ifN (x := 1)  rfl (by omega) (fun (b96 : ¬ 1 = 0) => ?_) (fun (b96 : 1 = 0) => absurd b96 (by omega))
    exact kk
  | succ n ih =>
    intro y hy
    refine XP_n 2 (pc' := 75) (ls' := [.ref (99), .int (nI (4)), .int (mo), .int (nI (re)), .int (sh), .int (nI (1)), .int (nI (sn)), .int (nI (y))]) (st' := [.int (nI (16)), .int (nI (y))]) (M' := (I, J, Rx R, N, G)) rfl ?_
    refine XP_icN (x := y) (y := 16) rfl (by omega) (by omega) (fun (b75 : 16 ≤ y) => absurd b75 (by omega)) (fun (b75 : y < 16) => ?_)
    refine XP_n 1 (pc' := 77) (ls' := [.ref (99), .int (nI (4)), .int (mo), .int (nI (re)), .int (sh), .int (nI (1)), .int (nI (sn)), .int (nI (y))]) (st' := [.int (nI (1))]) (M' := (I, J, Rx R, N, G)) rfl ?_
    refine XP_ifN (x := 1)  rfl (by omega) (fun (b77 : 1 = 0) => absurd b77 (by omega)) (fun (b77 : ¬ 1 = 0) => ?_)
    refine XP_n 2 (pc' := 80) (ls' := [.ref (99), .int (nI (4)), .int (mo), .int (nI (re)), .int (sh), .int (nI (1)), .int (nI (sn)), .int (nI (y))]) (st' := [.int (nI (4)), .int (nI (4))]) (M' := (I, J, Rx R, N, G)) rfl ?_
    refine XP_icN (x := 4) (y := 4) rfl (by omega) (by omega) (fun (b80 : ¬ 4 = 4) => absurd b80 (by omega)) (fun (b80 : 4 = 4) => ?_)
    refine XP_n 7 (pc' := 88) (ls' := [.ref (99), .int (nI (4)), .int (mo), .int (nI (re)), .int (sh), .int (nI (1)), .int (nI (sn)), .int (nI (y))]) (st' := [.int (((nI (40)) * (nI (sn))) + (nI (y))), .ref (122)]) (M' := (I, J, Rx R, N, G)) rfl ?_
    rw [show ((nI (40)) * (nI (sn))) + (nI (y)) = nI ((40) * (sn) + y) from nI_addE (nI_mulE (rfl) (rfl)) (rfl)]
    refine XP_ialdM hS rfl rfl (show (40) * (sn) + y < 160 by omega) rfl (by omega) rfl ?_
    refine XP_n 2 (pc' := 91) (ls' := [.ref (99), .int (nI (4)), .int (mo), .int (nI (re)), .int (sh), .int (nI (1)), .int (nI (sn)), .int (nI (y))]) (st' := [.int (nI (20)), .int (nI (0)), .int (s 122 ((40) * (sn) + y))]) (M' := (I, J, Rx R, N, G)) rfl ?_
    refine XP_pure rfl rfl (w_M X _ _ 0 20 _) ?_
    rw [show b2i (iv 0 20 (s 122 ((40) * (sn) + y))) = nI (1) from b2i_t (hg y (by omega))]
    refine XP_n 2 (pc' := 94) (ls' := [.ref (99), .int (nI (4)), .int (mo), .int (nI (re)), .int (sh), .int (nI (1)), .int (nI (sn)), .int (nI (y) + nI (1))]) (st' := []) (M' := (I, J, Rx R, N, G)) rfl ?_
    rw [show nI (y) + nI (1) = nI (y + 1) from nI_addE (rfl) rfl]
    refine XP_n 1 (pc' := 73) (ls' := [.ref (99), .int (nI (4)), .int (mo), .int (nI (re)), .int (sh), .int (nI (1)), .int (nI (sn)), .int (nI (y + 1))]) (st' := []) (M' := (I, J, Rx R, N, G)) rfl ?_
    exact ih (y + 1) (by omega)
theorem l_M_rgF (hS : StM s I) {sn re : Nat} {mo sh : Int32} (hsn : sn < 4) {Q : Option Value → hM → Prop} (kk : Q (some (.int (cI (-2)))) (I, J, Rx R, N, G)) : ∀ (n y : Nat), y + n = 16 → (∃ j, y ≤ j ∧ j < 16 ∧ ¬ iv 0 20 (s 122 (40 * sn + j))) → XP X (d + 1) k_M_rule 73 [.ref 99, .int (nI 4), .int mo, .int (nI re), .int sh, .int (nI 1), .int (nI sn), .int (nI y)] [] (I, J, Rx R, N, G) Q := by
  intro n
  induction n with
  | zero =>
    rintro y hy ⟨j, h1, h2, -⟩
    omega
  | succ n ih =>
    rintro y hy ⟨j, h1, h2, h3⟩
    by_cases e : iv 0 20 (s 122 (40 * sn + y))
    · refine XP_n 2 (pc' := 75) (ls' := [.ref (99), .int (nI (4)), .int (mo), .int (nI (re)), .int (sh), .int (nI (1)), .int (nI (sn)), .int (nI (y))]) (st' := [.int (nI (16)), .int (nI (y))]) (M' := (I, J, Rx R, N, G)) rfl ?_
      refine XP_icN (x := y) (y := 16) rfl (by omega) (by omega) (fun (b75 : 16 ≤ y) => absurd b75 (by omega)) (fun (b75 : y < 16) => ?_)
      refine XP_n 1 (pc' := 77) (ls' := [.ref (99), .int (nI (4)), .int (mo), .int (nI (re)), .int (sh), .int (nI (1)), .int (nI (sn)), .int (nI (y))]) (st' := [.int (nI (1))]) (M' := (I, J, Rx R, N, G)) rfl ?_
      refine XP_ifN (x := 1)  rfl (by omega) (fun (b77 : 1 = 0) => absurd b77 (by omega)) (fun (b77 : ¬ 1 = 0) => ?_)
      refine XP_n 2 (pc' := 80) (ls' := [.ref (99), .int (nI (4)), .int (mo), .int (nI (re)), .int (sh), .int (nI (1)), .int (nI (sn)), .int (nI (y))]) (st' := [.int (nI (4)), .int (nI (4))]) (M' := (I, J, Rx R, N, G)) rfl ?_
      refine XP_icN (x := 4) (y := 4) rfl (by omega) (by omega) (fun (b80 : ¬ 4 = 4) => absurd b80 (by omega)) (fun (b80 : 4 = 4) => ?_)
      refine XP_n 7 (pc' := 88) (ls' := [.ref (99), .int (nI (4)), .int (mo), .int (nI (re)), .int (sh), .int (nI (1)), .int (nI (sn)), .int (nI (y))]) (st' := [.int (((nI (40)) * (nI (sn))) + (nI (y))), .ref (122)]) (M' := (I, J, Rx R, N, G)) rfl ?_
      rw [show ((nI (40)) * (nI (sn))) + (nI (y)) = nI ((40) * (sn) + y) from nI_addE (nI_mulE (rfl) (rfl)) (rfl)]
      refine XP_ialdM hS rfl rfl (show (40) * (sn) + y < 160 by omega) rfl (by omega) rfl ?_
      refine XP_n 2 (pc' := 91) (ls' := [.ref (99), .int (nI (4)), .int (mo), .int (nI (re)), .int (sh), .int (nI (1)), .int (nI (sn)), .int (nI (y))]) (st' := [.int (nI (20)), .int (nI (0)), .int (s 122 ((40) * (sn) + y))]) (M' := (I, J, Rx R, N, G)) rfl ?_
      refine XP_pure rfl rfl (w_M X _ _ 0 20 _) ?_
      rw [show b2i (iv 0 20 (s 122 ((40) * (sn) + y))) = nI (1) from b2i_t (e)]
      refine XP_n 2 (pc' := 94) (ls' := [.ref (99), .int (nI (4)), .int (mo), .int (nI (re)), .int (sh), .int (nI (1)), .int (nI (sn)), .int (nI (y) + nI (1))]) (st' := []) (M' := (I, J, Rx R, N, G)) rfl ?_
      rw [show nI (y) + nI (1) = nI (y + 1) from nI_addE (rfl) rfl]
      refine XP_n 1 (pc' := 73) (ls' := [.ref (99), .int (nI (4)), .int (mo), .int (nI (re)), .int (sh), .int (nI (1)), .int (nI (sn)), .int (nI (y + 1))]) (st' := []) (M' := (I, J, Rx R, N, G)) rfl ?_
      exact ih (y + 1) (by omega) ⟨j, Nat.lt_of_le_of_ne h1 (fun z => h3 (z ▸ e)), h2, h3⟩
    · refine XP_n 2 (pc' := 75) (ls' := [.ref (99), .int (nI (4)), .int (mo), .int (nI (re)), .int (sh), .int (nI (1)), .int (nI (sn)), .int (nI (y))]) (st' := [.int (nI (16)), .int (nI (y))]) (M' := (I, J, Rx R, N, G)) rfl ?_
      refine XP_icN (x := y) (y := 16) rfl (by omega) (by omega) (fun (b75 : 16 ≤ y) => absurd b75 (by omega)) (fun (b75 : y < 16) => ?_)
      refine XP_n 1 (pc' := 77) (ls' := [.ref (99), .int (nI (4)), .int (mo), .int (nI (re)), .int (sh), .int (nI (1)), .int (nI (sn)), .int (nI (y))]) (st' := [.int (nI (1))]) (M' := (I, J, Rx R, N, G)) rfl ?_
      refine XP_ifN (x := 1)  rfl (by omega) (fun (b77 : 1 = 0) => absurd b77 (by omega)) (fun (b77 : ¬ 1 = 0) => ?_)
      refine XP_n 2 (pc' := 80) (ls' := [.ref (99), .int (nI (4)), .int (mo), .int (nI (re)), .int (sh), .int (nI (1)), .int (nI (sn)), .int (nI (y))]) (st' := [.int (nI (4)), .int (nI (4))]) (M' := (I, J, Rx R, N, G)) rfl ?_
      refine XP_icN (x := 4) (y := 4) rfl (by omega) (by omega) (fun (b80 : ¬ 4 = 4) => absurd b80 (by omega)) (fun (b80 : 4 = 4) => ?_)
      refine XP_n 7 (pc' := 88) (ls' := [.ref (99), .int (nI (4)), .int (mo), .int (nI (re)), .int (sh), .int (nI (1)), .int (nI (sn)), .int (nI (y))]) (st' := [.int (((nI (40)) * (nI (sn))) + (nI (y))), .ref (122)]) (M' := (I, J, Rx R, N, G)) rfl ?_
      rw [show ((nI (40)) * (nI (sn))) + (nI (y)) = nI ((40) * (sn) + y) from nI_addE (nI_mulE (rfl) (rfl)) (rfl)]
      refine XP_ialdM hS rfl rfl (show (40) * (sn) + y < 160 by omega) rfl (by omega) rfl ?_
      refine XP_n 2 (pc' := 91) (ls' := [.ref (99), .int (nI (4)), .int (mo), .int (nI (re)), .int (sh), .int (nI (1)), .int (nI (sn)), .int (nI (y))]) (st' := [.int (nI (20)), .int (nI (0)), .int (s 122 ((40) * (sn) + y))]) (M' := (I, J, Rx R, N, G)) rfl ?_
      refine XP_pure rfl rfl (w_M X _ _ 0 20 _) ?_
      rw [show b2i (iv 0 20 (s 122 ((40) * (sn) + y))) = nI (0) from b2i_f (e)]
      refine XP_n 2 (pc' := 94) (ls' := [.ref (99), .int (nI (4)), .int (mo), .int (nI (re)), .int (sh), .int (nI (0)), .int (nI (sn)), .int (nI (y) + nI (1))]) (st' := []) (M' := (I, J, Rx R, N, G)) rfl ?_
      rw [show nI (y) + nI (1) = nI (y + 1) from nI_addE (rfl) rfl]
      refine XP_n 1 (pc' := 73) (ls' := [.ref (99), .int (nI (4)), .int (mo), .int (nI (re)), .int (sh), .int (nI (0)), .int (nI (sn)), .int (nI (y + 1))]) (st' := []) (M' := (I, J, Rx R, N, G)) rfl ?_
      refine XP_n 2 (pc' := 75) (ls' := [.ref (99), .int (nI (4)), .int (mo), .int (nI (re)), .int (sh), .int (nI (0)), .int (nI (sn)), .int (nI (y + 1))]) (st' := [.int (nI (16)), .int (nI (y + 1))]) (M' := (I, J, Rx R, N, G)) rfl ?_
      refine XP_icN (x := y + 1) (y := 16) rfl (by omega) (by omega) (fun (b75 : 16 ≤ y + 1) => ?_) (fun (b75 : y + 1 < 16) => ?_)
      · refine XP_n 1 (pc' := 96) (ls' := [.ref (99), .int (nI (4)), .int (mo), .int (nI (re)), .int (sh), .int (nI (0)), .int (nI (sn)), .int (nI (y + 1))]) (st' := [.int (nI (0))]) (M' := (I, J, Rx R, N, G)) rfl ?_
        refine XP_ifN (x := 0)  rfl (by omega) (fun (b96 : ¬ 0 = 0) => absurd b96 (by omega)) (fun (b96 : 0 = 0) => ?_)
        refine XP_n 1 (pc' := 98) (ls' := [.ref (99), .int (nI (4)), .int (mo), .int (nI (re)), .int (sh), .int (nI (0)), .int (nI (sn)), .int (nI (y + 1))]) (st' := [.int (cI (-2))]) (M' := (I, J, Rx R, N, G)) rfl ?_
        exact XP_ret rfl kk
      · refine XP_n 1 (pc' := 77) (ls' := [.ref (99), .int (nI (4)), .int (mo), .int (nI (re)), .int (sh), .int (nI (0)), .int (nI (sn)), .int (nI (y + 1))]) (st' := [.int (nI (0))]) (M' := (I, J, Rx R, N, G)) rfl ?_
        refine XP_ifN (x := 0)  rfl (by omega) (fun (b77 : 0 = 0) => ?_) (fun (b77 : ¬ 0 = 0) => absurd b77 (by omega))
        refine XP_n 1 (pc' := 96) (ls' := [.ref (99), .int (nI (4)), .int (mo), .int (nI (re)), .int (sh), .int (nI (0)), .int (nI (sn)), .int (nI (y + 1))]) (st' := [.int (nI (0))]) (M' := (I, J, Rx R, N, G)) rfl ?_
        refine XP_ifN (x := 0)  rfl (by omega) (fun (b96 : ¬ 0 = 0) => absurd b96 (by omega)) (fun (b96 : 0 = 0) => ?_)
        refine XP_n 1 (pc' := 98) (ls' := [.ref (99), .int (nI (4)), .int (mo), .int (nI (re)), .int (sh), .int (nI (0)), .int (nI (sn)), .int (nI (y + 1))]) (st' := [.int (cI (-2))]) (M' := (I, J, Rx R, N, G)) rfl ?_
        exact XP_ret rfl kk
theorem l_M_rw4 {sn kn re : Nat} {mo sh x6 : Int32} (hsn : sn < 4) {Iz : Nat → Nat → Int32} (h8 : cR s < 8) (k13 : Iz 99 13 = nI (cR s)) (hz : ∀ j, Iz 122 j = s 122 j) {Q : Option Value → hM → Prop} (kk : ∀ I1 : Nat → Nat → Int32, (∀ a, a ≠ 111 → I1 a = Iz a) → (∀ j, I1 111 j = blk Iz 111 (16 * cR s) 16 (fun y => s 122 (40 * sn + y)) 111 j) → Q (some (.int (nI (cR s)))) (rw2 I1 99 13 (nI (cR s + 1)), J, Rx R, N, G)) : ∀ (n y : Nat) (I1 : Nat → Nat → Int32), y + n = 16 → (∀ a, a ≠ 111 → I1 a = Iz a) → (∀ j, I1 111 j = blk Iz 111 (16 * cR s) y (fun y => s 122 (40 * sn + y)) 111 j) → XP X (d + 1) k_M_rule 135 [.ref 99, .int (nI 4), .int mo, .int (nI re), .int sh, .int (nI 1), .int (nI sn), .int (nI y)] [] (I1, J, Rx R, N, G) Q := by
  intro n
  induction n with
  | zero =>
    rintro y I1 hy h1 h2
    obtain rfl : y = 16 := by omega
    have q13 : I1 99 13 = nI (cR s) := by rw [h1 99 (by omega)]; exact k13
    refine XP_n 2 (pc' := 137) (ls' := [.ref (99), .int (nI (4)), .int (mo), .int (nI (re)), .int (sh), .int (nI (1)), .int (nI (sn)), .int (nI (16))]) (st' := [.int (nI (16)), .int (nI (16))]) (M' := (I1, J, Rx R, N, G)) rfl ?_
    refine XP_icN (x := 16) (y := 16) rfl (by omega) (by omega) (fun (b137 : 16 ≤ 16) => ?_) (fun (b137 : 16 < 16) => absurd b137 (by omega))
    refine XP_n 3 (pc' := 165) (ls' := [.ref (99), .int (nI (4)), .int (mo), .int (nI (re)), .int (sh), .int (nI (1)), .int (nI (sn)), .int (nI (16))]) (st' := [.int (I1 99 13), .ref (99)]) (M' := (I1, J, Rx R, N, G)) rfl ?_
    rw [q13]
    refine XP_n 2 (pc' := 167) (ls' := [.ref (99), .int (nI (4)), .int (mo), .int (nI (re)), .int (sh), .int (nI (1)), .int (nI (sn)), .int (nI (16))]) (st' := [.int ((nI (cR s)) + (nI (1))), .ref (99)]) (M' := (I1, J, Rx R, N, G)) rfl ?_
    rw [show (nI (cR s)) + (nI (1)) = nI (cR s + 1) from nI_addE (rfl) (rfl)]
    refine XP_n 5 (pc' := 172) (ls' := [.ref (99), .int (nI (4)), .int (mo), .int (nI (re)), .int (sh), .int (nI (1)), .int (nI (sn)), .int (nI (16))]) (st' := [.int ((nI (cR s + 1)) - (nI (1)))]) (M' := ((rw2 I1 99 13 (nI (cR s + 1))), J, Rx R, N, G)) rfl ?_
    rw [show (nI (cR s + 1)) - (nI (1)) = nI (cR s + 1 - 1) from nI_subE (rfl) (rfl) (by omega)]
    exact XP_ret rfl (kk _ h1 h2)
  | succ n ih =>
    rintro y I1 hy h1 h2
    have q13 : I1 99 13 = nI (cR s) := by rw [h1 99 (by omega)]; exact k13
    refine XP_n 2 (pc' := 137) (ls' := [.ref (99), .int (nI (4)), .int (mo), .int (nI (re)), .int (sh), .int (nI (1)), .int (nI (sn)), .int (nI (y))]) (st' := [.int (nI (16)), .int (nI (y))]) (M' := (I1, J, Rx R, N, G)) rfl ?_
    refine XP_icN (x := y) (y := 16) rfl (by omega) (by omega) (fun (b137 : 16 ≤ y) => absurd b137 (by omega)) (fun (b137 : y < 16) => ?_)
    refine XP_n 5 (pc' := 143) (ls' := [.ref (99), .int (nI (4)), .int (mo), .int (nI (re)), .int (sh), .int (nI (1)), .int (nI (sn)), .int (nI (y))]) (st' := [.int (I1 99 13), .int (nI (16)), .ref (111)]) (M' := (I1, J, Rx R, N, G)) rfl ?_
    rw [q13]
    refine XP_n 5 (pc' := 148) (ls' := [.ref (99), .int (nI (4)), .int (mo), .int (nI (re)), .int (sh), .int (nI (1)), .int (nI (sn)), .int (nI (y))]) (st' := [.int (nI (4)), .int (nI (4)), .int (((nI (16)) * (nI (cR s))) + (nI (y))), .ref (111)]) (M' := (I1, J, Rx R, N, G)) rfl ?_
    rw [show ((nI (16)) * (nI (cR s))) + (nI (y)) = nI ((16) * (cR s) + y) from nI_addE (nI_mulE (rfl) (rfl)) (rfl)]
    refine XP_icN (x := 4) (y := 4) rfl (by omega) (by omega) (fun (b148 : ¬ 4 = 4) => absurd b148 (by omega)) (fun (b148 : 4 = 4) => ?_)
    refine XP_n 7 (pc' := 156) (ls' := [.ref (99), .int (nI (4)), .int (mo), .int (nI (re)), .int (sh), .int (nI (1)), .int (nI (sn)), .int (nI (y))]) (st' := [.int (((nI (40)) * (nI (sn))) + (nI (y))), .ref (122), .int (nI ((16) * (cR s) + y)), .ref (111)]) (M' := (I1, J, Rx R, N, G)) rfl ?_
    rw [show ((nI (40)) * (nI (sn))) + (nI (y)) = nI ((40) * (sn) + y) from nI_addE (nI_mulE (rfl) (rfl)) (rfl)]
    refine XP_iraw rfl rfl (show (40) * (sn) + y < 160 by omega) rfl (by omega) ?_
    rw [show I1 122 ((40) * (sn) + y) = s 122 (40 * sn + y) from by rw [h1 122 (by omega)]; exact hz _]
    refine XP_n 1 (pc' := 159) (ls' := [.ref (99), .int (nI (4)), .int (mo), .int (nI (re)), .int (sh), .int (nI (1)), .int (nI (sn)), .int (nI (y))]) (st' := [.int (s 122 (40 * sn + y)), .int (nI ((16) * (cR s) + y)), .ref (111)]) (M' := (I1, J, Rx R, N, G)) rfl ?_
    refine XP_iast rfl rfl (show (16) * (cR s) + y < 128 by omega) rfl (by omega) ?_
    refine XP_n 1 (pc' := 161) (ls' := [.ref (99), .int (nI (4)), .int (mo), .int (nI (re)), .int (sh), .int (nI (1)), .int (nI (sn)), .int (nI (y) + nI (1))]) (st' := []) (M' := ((rw2 I1 111 ((16) * (cR s) + y) (s 122 (40 * sn + y))), J, Rx R, N, G)) rfl ?_
    rw [show nI (y) + nI (1) = nI (y + 1) from nI_addE (rfl) rfl]
    refine XP_n 1 (pc' := 135) (ls' := [.ref (99), .int (nI (4)), .int (mo), .int (nI (re)), .int (sh), .int (nI (1)), .int (nI (sn)), .int (nI (y + 1))]) (st' := []) (M' := ((rw2 I1 111 ((16) * (cR s) + y) (s 122 (40 * sn + y))), J, Rx R, N, G)) rfl ?_
    refine ih (y + 1) _ (by omega) (fun a ha => (rw2_ro ha).trans (h1 a ha)) (fun j => ?_)
    rw [rw2_c]
    by_cases e : j = (16) * (cR s) + y
    · rw [if_pos e, e]
      unfold blk
      rw [if_pos (by omega)]
      show s 122 (40 * sn + y) = s 122 (40 * sn + ((16) * (cR s) + y - 16 * cR s))
      rw [Nat.add_sub_cancel_left]
    · rw [if_neg e, h2 j]
      unfold blk
      by_cases g : 16 * cR s ≤ j ∧ j < 16 * cR s + y
      · rw [if_pos ⟨rfl, g⟩, if_pos (by omega)]
      · rw [if_neg (fun z => g z.2), if_neg (by omega)]
theorem l_M_rw0 {sn kn re : Nat} {mo sh x6 : Int32} (hk : kn ≤ 5) (hk4 : ¬ kn = 4) {Iz : Nat → Nat → Int32} (h8 : cR s < 8) (k13 : Iz 99 13 = nI (cR s)) {Q : Option Value → hM → Prop} (kk : ∀ I1 : Nat → Nat → Int32, (∀ a, a ≠ 111 → I1 a = Iz a) → (∀ j, I1 111 j = blk Iz 111 (16 * cR s) 16 (fun _ => nI 0) 111 j) → Q (some (.int (nI (cR s)))) (rw2 I1 99 13 (nI (cR s + 1)), J, Rx R, N, G)) : ∀ (n y : Nat) (I1 : Nat → Nat → Int32), y + n = 16 → (∀ a, a ≠ 111 → I1 a = Iz a) → (∀ j, I1 111 j = blk Iz 111 (16 * cR s) y (fun _ => nI 0) 111 j) → XP X (d + 1) k_M_rule 135 [.ref 99, .int (nI kn), .int mo, .int (nI re), .int sh, .int (nI 1), .int x6, .int (nI y)] [] (I1, J, Rx R, N, G) Q := by
  intro n
  induction n with
  | zero =>
    rintro y I1 hy h1 h2
    obtain rfl : y = 16 := by omega
    have q13 : I1 99 13 = nI (cR s) := by rw [h1 99 (by omega)]; exact k13
    refine XP_n 2 (pc' := 137) (ls' := [.ref (99), .int (nI (kn)), .int (mo), .int (nI (re)), .int (sh), .int (nI (1)), .int (x6), .int (nI (16))]) (st' := [.int (nI (16)), .int (nI (16))]) (M' := (I1, J, Rx R, N, G)) rfl ?_
    refine XP_icN (x := 16) (y := 16) rfl (by omega) (by omega) (fun (b137 : 16 ≤ 16) => ?_) (fun (b137 : 16 < 16) => absurd b137 (by omega))
    refine XP_n 3 (pc' := 165) (ls' := [.ref (99), .int (nI (kn)), .int (mo), .int (nI (re)), .int (sh), .int (nI (1)), .int (x6), .int (nI (16))]) (st' := [.int (I1 99 13), .ref (99)]) (M' := (I1, J, Rx R, N, G)) rfl ?_
    rw [q13]
    refine XP_n 2 (pc' := 167) (ls' := [.ref (99), .int (nI (kn)), .int (mo), .int (nI (re)), .int (sh), .int (nI (1)), .int (x6), .int (nI (16))]) (st' := [.int ((nI (cR s)) + (nI (1))), .ref (99)]) (M' := (I1, J, Rx R, N, G)) rfl ?_
    rw [show (nI (cR s)) + (nI (1)) = nI (cR s + 1) from nI_addE (rfl) (rfl)]
    refine XP_n 5 (pc' := 172) (ls' := [.ref (99), .int (nI (kn)), .int (mo), .int (nI (re)), .int (sh), .int (nI (1)), .int (x6), .int (nI (16))]) (st' := [.int ((nI (cR s + 1)) - (nI (1)))]) (M' := ((rw2 I1 99 13 (nI (cR s + 1))), J, Rx R, N, G)) rfl ?_
    rw [show (nI (cR s + 1)) - (nI (1)) = nI (cR s + 1 - 1) from nI_subE (rfl) (rfl) (by omega)]
    exact XP_ret rfl (kk _ h1 h2)
  | succ n ih =>
    rintro y I1 hy h1 h2
    have q13 : I1 99 13 = nI (cR s) := by rw [h1 99 (by omega)]; exact k13
    refine XP_n 2 (pc' := 137) (ls' := [.ref (99), .int (nI (kn)), .int (mo), .int (nI (re)), .int (sh), .int (nI (1)), .int (x6), .int (nI (y))]) (st' := [.int (nI (16)), .int (nI (y))]) (M' := (I1, J, Rx R, N, G)) rfl ?_
    refine XP_icN (x := y) (y := 16) rfl (by omega) (by omega) (fun (b137 : 16 ≤ y) => absurd b137 (by omega)) (fun (b137 : y < 16) => ?_)
    refine XP_n 5 (pc' := 143) (ls' := [.ref (99), .int (nI (kn)), .int (mo), .int (nI (re)), .int (sh), .int (nI (1)), .int (x6), .int (nI (y))]) (st' := [.int (I1 99 13), .int (nI (16)), .ref (111)]) (M' := (I1, J, Rx R, N, G)) rfl ?_
    rw [q13]
    refine XP_n 5 (pc' := 148) (ls' := [.ref (99), .int (nI (kn)), .int (mo), .int (nI (re)), .int (sh), .int (nI (1)), .int (x6), .int (nI (y))]) (st' := [.int (nI (4)), .int (nI (kn)), .int (((nI (16)) * (nI (cR s))) + (nI (y))), .ref (111)]) (M' := (I1, J, Rx R, N, G)) rfl ?_
    rw [show ((nI (16)) * (nI (cR s))) + (nI (y)) = nI ((16) * (cR s) + y) from nI_addE (nI_mulE (rfl) (rfl)) (rfl)]
    refine XP_icN (x := kn) (y := 4) rfl (by omega) (by omega) (fun (b148 : ¬ kn = 4) => ?_) (fun (b148 : kn = 4) => absurd b148 (by omega))
    refine XP_n 1 (pc' := 159) (ls' := [.ref (99), .int (nI (kn)), .int (mo), .int (nI (re)), .int (sh), .int (nI (1)), .int (x6), .int (nI (y))]) (st' := [.int (nI (0)), .int (nI ((16) * (cR s) + y)), .ref (111)]) (M' := (I1, J, Rx R, N, G)) rfl ?_
    refine XP_iast rfl rfl (show (16) * (cR s) + y < 128 by omega) rfl (by omega) ?_
    refine XP_n 1 (pc' := 161) (ls' := [.ref (99), .int (nI (kn)), .int (mo), .int (nI (re)), .int (sh), .int (nI (1)), .int (x6), .int (nI (y) + nI (1))]) (st' := []) (M' := ((rw2 I1 111 ((16) * (cR s) + y) (nI (0))), J, Rx R, N, G)) rfl ?_
    rw [show nI (y) + nI (1) = nI (y + 1) from nI_addE (rfl) rfl]
    refine XP_n 1 (pc' := 135) (ls' := [.ref (99), .int (nI (kn)), .int (mo), .int (nI (re)), .int (sh), .int (nI (1)), .int (x6), .int (nI (y + 1))]) (st' := []) (M' := ((rw2 I1 111 ((16) * (cR s) + y) (nI (0))), J, Rx R, N, G)) rfl ?_
    refine ih (y + 1) _ (by omega) (fun a ha => (rw2_ro ha).trans (h1 a ha)) (fun j => ?_)
    rw [rw2_c]
    by_cases e : j = (16) * (cR s) + y
    · rw [if_pos e, e]
      unfold blk
      rw [if_pos (by omega)]
    · rw [if_neg e, h2 j]
      unfold blk
      by_cases g : 16 * cR s ≤ j ∧ j < 16 * cR s + y
      · rw [if_pos ⟨rfl, g⟩, if_pos (by omega)]
      · rw [if_neg (fun z => g z.2), if_neg (by omega)]
end
