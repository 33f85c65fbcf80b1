/-! the model's reading of an expression: its pieces -/
/-- the model's held signs and what it has put out, t the text that is made -/
def MS (I0 : Nat → Nat → Int32) (t : Nat) (I : Nat → Nat → Int32) (h u : List Nat) : Prop := I 99 50 = nI h.length ∧ I 99 51 = nI (cnt h) ∧ I 99 52 = nI u.length ∧ (∀ i, i < h.length → I 124 i = nI (h.getD (h.length - 1 - i) 0)) ∧ (∀ j, I 117 j = if 200 * t ≤ j ∧ j < 200 * t + u.length then nI (u.getD (j - 200 * t) 0) else I0 117 j) ∧ ∀ x ∈ h, x < 20
def Fr0 (I0 I : Nat → Nat → Int32) : Prop := (∀ k, k ≠ 99 → k ≠ 117 → k ≠ 124 → I k = I0 k) ∧ ∀ j, j < 44 ∨ 52 < j → I 99 j = I0 99 j
theorem unw_len (r : Nat) : ∀ (h u : List Nat), (unw r h u).1.length + (unw r h u).2.length = h.length + u.length
  | [], u => rfl
  | s :: h, u => by
    by_cases g : r ≤ rk s
    · rw [unw_pop g, unw_len r h (u ++ [s]), List.length_append, List.length_cons]
      show h.length + (u.length + 1) = h.length + 1 + u.length
      omega
    · have e : unw r (s :: h) u = (s :: h, u) := if_neg g
      rw [e]
theorem gd_rev {h : List Nat} {s i : Nat} (hi : i < h.length) : (s :: h).getD ((s :: h).length - 1 - i) 0 = h.getD (h.length - 1 - i) 0 := by
  rw [List.length_cons, show h.length + 1 - 1 - i = (h.length - 1 - i) + 1 by omega]
  rfl
section
variable {X : hX} {d : Nat} {s I : Nat → Nat → Int32} {J : Nat → Nat → Int64} {R : Nat → Nat → Option Nat} {N : Nat → Nat} {G : hG} {I0 : Nat → Nat → Int32} {t : Nat}
theorem c_rank {s : Nat} (hs : s < 20) : TP X d n_M_rank [.int (nI s)] (I, J, Rx R, N, G) (Ret (.int (nI (rk s))) (I, J, Rx R, N, G)) := by
  unfold TP
  show XP X _ k_M_rank 0 [.int (nI (s))] [] _ _
  refine XP_n 1 (pc' := 1) (ls' := [.int (nI (s))]) (st' := [.int (nI (s))]) (M' := (I, J, Rx R, N, G)) rfl ?_
  refine XP_ifN (x := s)  rfl (by omega) (fun (b1 : ¬ s = 0) => ?_) (fun (b1 : s = 0) => ?_)
  · refine XP_n 2 (pc' := 6) (ls' := [.int (nI (s))]) (st' := [.int (nI (11)), .int (nI (s))]) (M' := (I, J, Rx R, N, G)) rfl ?_
    refine XP_icN (x := s) (y := 11) rfl (by omega) (by omega) (fun (b6 : ¬ s = 11) => ?_) (fun (b6 : s = 11) => ?_)
    · refine XP_n 2 (pc' := 11) (ls' := [.int (nI (s))]) (st' := [.int (nI (12)), .int (nI (s))]) (M' := (I, J, Rx R, N, G)) rfl ?_
      refine XP_icN (x := s) (y := 12) rfl (by omega) (by omega) (fun (b11 : ¬ s = 12) => ?_) (fun (b11 : s = 12) => ?_)
      · refine XP_n 2 (pc' := 16) (ls' := [.int (nI (s))]) (st' := [.int (nI (13)), .int (nI (s))]) (M' := (I, J, Rx R, N, G)) rfl ?_
        refine XP_icN (x := s) (y := 13) rfl (by omega) (by omega) (fun (b16 : ¬ s = 13) => ?_) (fun (b16 : s = 13) => ?_)
        · refine XP_n 2 (pc' := 21) (ls' := [.int (nI (s))]) (st' := [.int (nI (15)), .int (nI (s))]) (M' := (I, J, Rx R, N, G)) rfl ?_
          refine XP_icN (x := s) (y := 15) rfl (by omega) (by omega) (fun (b21 : 15 < s) => ?_) (fun (b21 : s ≤ 15) => ?_)
          · refine XP_n 2 (pc' := 26) (ls' := [.int (nI (s))]) (st' := [.int (nI (17)), .int (nI (s))]) (M' := (I, J, Rx R, N, G)) rfl ?_
            refine XP_icN (x := s) (y := 17) rfl (by omega) (by omega) (fun (b26 : 17 < s) => ?_) (fun (b26 : s ≤ 17) => ?_)
            · refine XP_n 2 (pc' := 31) (ls' := [.int (nI (s))]) (st' := [.int (nI (18)), .int (nI (s))]) (M' := (I, J, Rx R, N, G)) rfl ?_
              refine XP_icN (x := s) (y := 18) rfl (by omega) (by omega) (fun (b31 : ¬ s = 18) => ?_) (fun (b31 : s = 18) => ?_)
              · refine XP_n 1 (pc' := 35) (ls' := [.int (nI (s))]) (st' := [.int (nI (7))]) (M' := (I, J, Rx R, N, G)) rfl ?_
                exact XP_ret rfl ⟨by rw [show rk s = 7 by unfold rk; repeat (first | rw [if_pos (by omega)] | rw [if_neg (by omega)])], rfl⟩
              · refine XP_n 2 (pc' := 35) (ls' := [.int (nI (s))]) (st' := [.int (nI (6))]) (M' := (I, J, Rx R, N, G)) rfl ?_
                exact XP_ret rfl ⟨by rw [show rk s = 6 by unfold rk; repeat (first | rw [if_pos (by omega)] | rw [if_neg (by omega)])], rfl⟩
            · refine XP_n 2 (pc' := 35) (ls' := [.int (nI (s))]) (st' := [.int (nI (5))]) (M' := (I, J, Rx R, N, G)) rfl ?_
              exact XP_ret rfl ⟨by rw [show rk s = 5 by unfold rk; repeat (first | rw [if_pos (by omega)] | rw [if_neg (by omega)])], rfl⟩
          · refine XP_n 2 (pc' := 35) (ls' := [.int (nI (s))]) (st' := [.int (nI (4))]) (M' := (I, J, Rx R, N, G)) rfl ?_
            exact XP_ret rfl ⟨by rw [show rk s = 4 by unfold rk; repeat (first | rw [if_pos (by omega)] | rw [if_neg (by omega)])], rfl⟩
        · refine XP_n 2 (pc' := 35) (ls' := [.int (nI (s))]) (st' := [.int (nI (3))]) (M' := (I, J, Rx R, N, G)) rfl ?_
          exact XP_ret rfl ⟨by rw [show rk s = 3 by unfold rk; repeat (first | rw [if_pos (by omega)] | rw [if_neg (by omega)])], rfl⟩
      · refine XP_n 2 (pc' := 35) (ls' := [.int (nI (s))]) (st' := [.int (nI (2))]) (M' := (I, J, Rx R, N, G)) rfl ?_
        exact XP_ret rfl ⟨by rw [show rk s = 2 by unfold rk; repeat (first | rw [if_pos (by omega)] | rw [if_neg (by omega)])], rfl⟩
    · refine XP_n 2 (pc' := 35) (ls' := [.int (nI (s))]) (st' := [.int (nI (1))]) (M' := (I, J, Rx R, N, G)) rfl ?_
      exact XP_ret rfl ⟨by rw [show rk s = 1 by unfold rk; repeat (first | rw [if_pos (by omega)] | rw [if_neg (by omega)])], rfl⟩
  · refine XP_n 2 (pc' := 35) (ls' := [.int (nI (s))]) (st' := [.int (nI (0))]) (M' := (I, J, Rx R, N, G)) rfl ?_
    exact XP_ret rfl ⟨by rw [show rk s = 0 by unfold rk; repeat (first | rw [if_pos (by omega)] | rw [if_neg (by omega)])], rfl⟩
theorem c_mputs {u : List Nat} (ht : t < 6) (hu : u.length < 200) (k30 : I 99 30 = nI t) (k52 : I 99 52 = nI u.length) (x : Int32) : TP X d n_M_puts [.ref 99, .int x] (I, J, Rx R, N, G) (fun v M' => v = none ∧ M' = (rw2 (rw2 I 117 (200 * t + u.length) x) 99 52 (nI (u.length + 1)), J, Rx R, N, G)) := by
  unfold TP
  show XP X _ k_M_puts 0 [.ref (99), .int (x)] [] _ _
  refine XP_n 5 (pc' := 5) (ls' := [.ref (99), .int (x)]) (st' := [.int (I 99 30), .int (nI (200)), .ref (117)]) (M' := (I, J, Rx R, N, G)) rfl ?_
  rw [k30]
  refine XP_n 3 (pc' := 8) (ls' := [.ref (99), .int (x)]) (st' := [.int (I 99 52), .int ((nI (200)) * (nI (t))), .ref (117)]) (M' := (I, J, Rx R, N, G)) rfl ?_
  rw [show (nI (200)) * (nI (t)) = nI ((200) * (t)) from nI_mulE (rfl) (rfl)]
  rw [k52]
  refine XP_n 2 (pc' := 10) (ls' := [.ref (99), .int (x)]) (st' := [.int (x), .int ((nI ((200) * (t))) + (nI (u.length))), .ref (117)]) (M' := (I, J, Rx R, N, G)) rfl ?_
  rw [show (nI ((200) * (t))) + (nI (u.length)) = nI ((200) * (t) + (u.length)) from nI_addE (rfl) (rfl)]
  refine XP_iast rfl rfl (show (200) * (t) + (u.length) < 1200 by omega) rfl (by omega) ?_
  refine XP_n 3 (pc' := 14) (ls' := [.ref (99), .int (x)]) (st' := [.int (I 99 52), .ref (99)]) (M' := ((rw2 I 117 ((200) * (t) + (u.length)) (x)), J, Rx R, N, G)) rfl ?_
  rw [k52]
  refine XP_n 2 (pc' := 16) (ls' := [.ref (99), .int (x)]) (st' := [.int ((nI (u.length)) + (nI (1))), .ref (99)]) (M' := ((rw2 I 117 ((200) * (t) + (u.length)) (x)), J, Rx R, N, G)) rfl ?_
  rw [show (nI (u.length)) + (nI (1)) = nI (u.length + 1) from nI_addE (rfl) (rfl)]
  refine XP_n 1 (pc' := 17) (ls' := [.ref (99), .int (x)]) (st' := []) (M' := ((rw2 (rw2 I 117 ((200) * (t) + (u.length)) (x)) 99 52 (nI (u.length + 1))), J, Rx R, N, G)) rfl ?_
  exact XP_ret rfl ⟨rfl, rfl⟩
theorem MS.put {h u : List Nat} {c : Nat} {x : Int32} (hM : MS I0 t I h u) (hx : x = nI c) : MS I0 t (rw2 (rw2 I 117 (200 * t + u.length) x) 99 52 (nI (u.length + 1))) h (u ++ [c]) := by
  obtain ⟨a, b, c2, d2, e, f⟩ := hM
  refine ⟨a, b, by rw [List.length_append]; rfl, d2, fun j => ?_, f⟩
  rw [rw2_ro (show (117 : Nat) ≠ 99 by omega), rw2_c, List.length_append]
  show _ = if 200 * t ≤ j ∧ j < 200 * t + (u.length + 1) then _ else _
  by_cases g : j = 200 * t + u.length
  · rw [if_pos g, if_pos (by omega), gd_app, if_neg (by omega), if_pos (by omega)]
    exact hx
  · rw [if_neg g, e j]
    by_cases g2 : 200 * t ≤ j ∧ j < 200 * t + u.length
    · rw [if_pos g2, if_pos (by omega), gd_app, if_pos (by omega)]
    · rw [if_neg g2, if_neg (by omega)]
theorem Fr0.put {k j : Nat} {x y : Int32} {j2 : Nat} (hF : Fr0 I0 I) (hk : k = 117 ∨ k = 124) (h2 : 44 ≤ j2 ∧ j2 ≤ 52) : Fr0 I0 (rw2 (rw2 I k j x) 99 j2 y) := by
  refine ⟨fun a h1 h3 h4 => ?_, fun a ha => ?_⟩
  · rw [rw2_ro h1, rw2_ro (by omega)]
    exact hF.1 a h1 h3 h4
  · rw [rw2_c, if_neg (by omega), rw2_ro (by omega)]
    exact hF.2 a ha
theorem Fr0.w {j2 : Nat} {y : Int32} (hF : Fr0 I0 I) (h2 : 44 ≤ j2 ∧ j2 ≤ 52) : Fr0 I0 (rw2 I 99 j2 y) := by
  refine ⟨fun a h1 h3 h4 => (rw2_ro h1).trans (hF.1 a h1 h3 h4), fun a ha => ?_⟩
  rw [rw2_c, if_neg (by omega)]
  exact hF.2 a ha
theorem rk_le (s : Nat) : rk s ≤ 7 := by
  unfold rk
  repeat' split
  all_goals omega
theorem cnt_le : ∀ h : List Nat, cnt h ≤ h.length
  | [] => Nat.le_refl _
  | s :: h => by
    have := cnt_le h
    show (if s = 0 ∨ s = 13 ∨ s = 19 then 1 else 0) + cnt h ≤ h.length + 1
    split <;> omega
theorem sub_0 (x : Int32) : x - nI 0 = x := by
  show x - 0 = x
  exact Int32.sub_zero x
theorem l_unw {r : Nat} (hr : 1 ≤ r) (hr7 : r ≤ 7) (ht : t < 6) {It : Nat → Nat → Int32} (k30 : It 99 30 = nI t) : ∀ (h u : List Nat) (I1 : Nat → Nat → Int32) (x2 : Value), h.length + u.length ≤ 160 → MS I0 t I1 h u → Fr0 It I1 → XP X (d + 1) k_M_unwinds 0 [.ref 99, .int (nI r), x2] [] (I1, J, Rx R, N, G) (fun v M' => v = none ∧ ∃ I', M' = (I', J, Rx R, N, G) ∧ MS I0 t I' (unw r h u).1 (unw r h u).2 ∧ Fr0 It I' ∧ (∀ j, 44 ≤ j → j ≤ 47 → I' 99 j = I1 99 j)) := by
  intro h
  induction h with
  | nil =>
    intro u I1 x2 hl hM hF
    have q50 : I1 99 50 = nI 0 := hM.1
    refine XP_n 2 (pc' := 2) (ls' := [.ref (99), .int (nI (r)), x2]) (st' := [.int (I1 99 50)]) (M' := (I1, J, Rx R, N, G)) rfl ?_
    rw [q50]
    refine XP_ifN (x := 0)  rfl (by omega) (fun (b2 : 0 ≤ 0) => ?_) (fun (b2 : 0 < 0) => absurd b2 (by omega))
    exact XP_ret rfl ⟨rfl, _, rfl, hM, hF, fun _ _ _ => rfl⟩
  | cons s h ih =>
    intro u I1 x2 hl hM hF
    rw [List.length_cons] at hl
    have hs := hM.2.2.2.2.2 s (List.mem_cons_self ..)
    have hrk := rk_le s
    have q50 : I1 99 50 = nI (h.length + 1) := hM.1
    have q51 : I1 99 51 = nI (cnt (s :: h)) := hM.2.1
    have q124 : I1 124 (h.length + 1 - 1) = nI s := by
      have := hM.2.2.2.1 (h.length + 1 - 1) (by rw [List.length_cons]; omega)
      rw [List.length_cons, Nat.sub_self] at this
      exact this
    have hcn : cnt (s :: h) ≤ h.length + 1 := cnt_le (s :: h)
    by_cases g : r ≤ rk s
    rotate_left
    · have e : unw r (s :: h) u = (s :: h, u) := if_neg g
      rw [e]
      refine XP_n 2 (pc' := 2) (ls' := [.ref (99), .int (nI (r)), x2]) (st' := [.int (I1 99 50)]) (M' := (I1, J, Rx R, N, G)) rfl ?_
      rw [q50]
      refine XP_ifN (x := h.length + 1)  rfl (by omega) (fun (b2 : h.length + 1 ≤ 0) => absurd b2 (by omega)) (fun (b2 : 0 < h.length + 1) => ?_)
      refine XP_n 4 (pc' := 7) (ls' := [.ref (99), .int (nI (r)), x2]) (st' := [.int (I1 99 50), .ref (124)]) (M' := (I1, J, Rx R, N, G)) rfl ?_
      rw [q50]
      refine XP_n 2 (pc' := 9) (ls' := [.ref (99), .int (nI (r)), x2]) (st' := [.int ((nI (h.length + 1)) - (nI (1))), .ref (124)]) (M' := (I1, J, Rx R, N, G)) rfl ?_
      rw [show (nI (h.length + 1)) - (nI (1)) = nI (h.length + 1 - 1) from nI_subE (rfl) (rfl) (by omega)]
      refine XP_iraw rfl rfl (show h.length + 1 - 1 < 200 by omega) rfl (by omega) ?_
      rw [show I1 124 (h.length + 1 - 1) = nI (s) from q124]
      refine XP_pure rfl rfl (c_rank hs) ?_
      refine XP_n 1 (pc' := 12) (ls' := [.ref (99), .int (nI (r)), x2]) (st' := [.int (nI (r)), .int (nI (rk s))]) (M' := (I1, J, Rx R, N, G)) rfl ?_
      refine XP_icN (x := rk s) (y := r) rfl (by omega) (by omega) (fun (b12 : rk s < r) => ?_) (fun (b12 : r ≤ rk s) => absurd b12 (by omega))
      exact XP_ret rfl ⟨rfl, _, rfl, hM, hF, fun _ _ _ => rfl⟩
    rw [unw_pop g]
    have hs0 : s ≠ 0 := fun z => by
      rw [z] at g
      have : rk 0 = 0 := rfl
      omega
    have hpop : ∀ (y : Int32), y = nI (cnt h) → MS I0 t (rw2 (rw2 I1 99 50 (nI (h.length + 1 - 1))) 99 51 y) h u := fun y hy => by
      obtain ⟨m1, m2, m3, m4, m5, m6⟩ := hM
      refine ⟨rfl, hy, m3, fun i hi => ?_, m5, fun z hz => m6 z (List.mem_cons_of_mem _ hz)⟩
      rw [← gd_rev (s := s) hi]
      exact m4 i (by rw [List.length_cons]; omega)
    have hF2 : ∀ y, Fr0 It (rw2 (rw2 I1 99 50 (nI (h.length + 1 - 1))) 99 51 y) := fun y => (hF.w (by omega)).w (by omega)
    by_cases g13 : s = 13 ∨ s = 19
    · have hcc : cnt (s :: h) = cnt h + 1 := by
        show (if s = 0 ∨ s = 13 ∨ s = 19 then 1 else 0) + cnt h = _
        rw [if_pos (Or.inr g13)]
        omega
      have hc1 : (nI (cnt (s :: h))) - (nI (1)) = nI (cnt h) := by rw [hcc, nI_sub (by omega)]; rfl
      by_cases g14 : s = 13
      · skip
        refine XP_n 2 (pc' := 2) (ls' := [.ref (99), .int (nI (r)), x2]) (st' := [.int (I1 99 50)]) (M' := (I1, J, Rx R, N, G)) rfl ?_
        rw [q50]
        refine XP_ifN (x := h.length + 1)  rfl (by omega) (fun (b2 : h.length + 1 ≤ 0) => absurd b2 (by omega)) (fun (b2 : 0 < h.length + 1) => ?_)
        refine XP_n 4 (pc' := 7) (ls' := [.ref (99), .int (nI (r)), x2]) (st' := [.int (I1 99 50), .ref (124)]) (M' := (I1, J, Rx R, N, G)) rfl ?_
        rw [q50]
        refine XP_n 2 (pc' := 9) (ls' := [.ref (99), .int (nI (r)), x2]) (st' := [.int ((nI (h.length + 1)) - (nI (1))), .ref (124)]) (M' := (I1, J, Rx R, N, G)) rfl ?_
        rw [show (nI (h.length + 1)) - (nI (1)) = nI (h.length + 1 - 1) from nI_subE (rfl) (rfl) (by omega)]
        refine XP_iraw rfl rfl (show h.length + 1 - 1 < 200 by omega) rfl (by omega) ?_
        rw [show I1 124 (h.length + 1 - 1) = nI (s) from q124]
        refine XP_pure rfl rfl (c_rank hs) ?_
        refine XP_n 1 (pc' := 12) (ls' := [.ref (99), .int (nI (r)), x2]) (st' := [.int (nI (r)), .int (nI (rk s))]) (M' := (I1, J, Rx R, N, G)) rfl ?_
        refine XP_icN (x := rk s) (y := r) rfl (by omega) (by omega) (fun (b12 : rk s < r) => absurd b12 (by omega)) (fun (b12 : r ≤ rk s) => ?_)
        refine XP_n 3 (pc' := 16) (ls' := [.ref (99), .int (nI (r)), x2]) (st' := [.int (I1 99 50), .ref (99)]) (M' := (I1, J, Rx R, N, G)) rfl ?_
        rw [q50]
        refine XP_n 2 (pc' := 18) (ls' := [.ref (99), .int (nI (r)), x2]) (st' := [.int ((nI (h.length + 1)) - (nI (1))), .ref (99)]) (M' := (I1, J, Rx R, N, G)) rfl ?_
        rw [show (nI (h.length + 1)) - (nI (1)) = nI (h.length + 1 - 1) from nI_subE (rfl) (rfl) (by omega)]
        refine XP_n 5 (pc' := 23) (ls' := [.ref (99), .int (nI (r)), x2]) (st' := [.int (nI (h.length + 1 - 1)), .ref (124)]) (M' := ((rw2 I1 99 50 (nI (h.length + 1 - 1))), J, Rx R, N, G)) rfl ?_
        refine XP_iraw rfl rfl (show h.length + 1 - 1 < 200 by omega) rfl (by omega) ?_
        rw [show (rw2 I1 99 50 (nI (h.length + 1 - 1))) 124 (h.length + 1 - 1) = nI (s) from q124]
        refine XP_n 4 (pc' := 28) (ls' := [.ref (99), .int (nI (r)), .int (nI (s))]) (st' := [.int (I1 99 51), .ref (99)]) (M' := ((rw2 I1 99 50 (nI (h.length + 1 - 1))), J, Rx R, N, G)) rfl ?_
        rw [q51]
        refine XP_n 2 (pc' := 30) (ls' := [.ref (99), .int (nI (r)), .int (nI (s))]) (st' := [.int (nI (13)), .int (nI (s)), .int (nI (cnt (s :: h))), .ref (99)]) (M' := ((rw2 I1 99 50 (nI (h.length + 1 - 1))), J, Rx R, N, G)) rfl ?_
        refine XP_icN (x := s) (y := 13) rfl (by omega) (by omega) (fun (b30 : s = 13) => ?_) (fun (b30 : ¬ s = 13) => absurd b30 (by omega))
        refine XP_n 3 (pc' := 38) (ls' := [.ref (99), .int (nI (r)), .int (nI (s))]) (st' := [.int ((nI (cnt (s :: h))) - (nI (1))), .ref (99)]) (M' := ((rw2 I1 99 50 (nI (h.length + 1 - 1))), J, Rx R, N, G)) rfl ?_
        rw [hc1]
        refine XP_n 3 (pc' := 41) (ls' := [.ref (99), .int (nI (r)), .int (nI (s))]) (st' := [.int (nI (s)), .ref (99)]) (M' := ((rw2 (rw2 I1 99 50 (nI (h.length + 1 - 1))) 99 51 (nI (cnt h))), J, Rx R, N, G)) rfl ?_
        refine XP_call rfl rfl (c_mputs (I := (rw2 (rw2 I1 99 50 (nI (h.length + 1 - 1))) 99 51 (nI (cnt h)))) (u := u) ht (by omega) (by exact (hF.2 30 (by omega)).trans k30) hM.2.2.1 _) ?_
        rintro v1 M1 ⟨rfl, rfl⟩
        refine XP_n 1 (pc' := 0) (ls' := [.ref (99), .int (nI (r)), .int (nI (s))]) (st' := []) (M' := ((rw2 (rw2 (rw2 (rw2 I1 99 50 (nI (h.length + 1 - 1))) 99 51 (nI (cnt h))) 117 (200 * t + u.length) (nI (s))) 99 52 (nI (u.length + 1))), J, Rx R, N, G)) rfl ?_
        refine XP_mono (ih (u ++ [s]) _ _ (by rw [List.length_append]; show h.length + (u.length + 1) ≤ 160; omega) (MS.put (hpop _ rfl) rfl) ((hF2 _).put (Or.inl rfl) (by omega))) ?_
        rintro v M' ⟨a1, I', a2, a3, a4, a5⟩
        refine ⟨a1, I', a2, a3, a4, fun j h1 h2 => (a5 j h1 h2).trans ?_⟩
        rw [rw2_c, if_neg (by omega), rw2_ro (by omega), rw2_c, if_neg (by omega), rw2_c, if_neg (by omega)]
      · skip
        refine XP_n 2 (pc' := 2) (ls' := [.ref (99), .int (nI (r)), x2]) (st' := [.int (I1 99 50)]) (M' := (I1, J, Rx R, N, G)) rfl ?_
        rw [q50]
        refine XP_ifN (x := h.length + 1)  rfl (by omega) (fun (b2 : h.length + 1 ≤ 0) => absurd b2 (by omega)) (fun (b2 : 0 < h.length + 1) => ?_)
        refine XP_n 4 (pc' := 7) (ls' := [.ref (99), .int (nI (r)), x2]) (st' := [.int (I1 99 50), .ref (124)]) (M' := (I1, J, Rx R, N, G)) rfl ?_
        rw [q50]
        refine XP_n 2 (pc' := 9) (ls' := [.ref (99), .int (nI (r)), x2]) (st' := [.int ((nI (h.length + 1)) - (nI (1))), .ref (124)]) (M' := (I1, J, Rx R, N, G)) rfl ?_
        rw [show (nI (h.length + 1)) - (nI (1)) = nI (h.length + 1 - 1) from nI_subE (rfl) (rfl) (by omega)]
        refine XP_iraw rfl rfl (show h.length + 1 - 1 < 200 by omega) rfl (by omega) ?_
        rw [show I1 124 (h.length + 1 - 1) = nI (s) from q124]
        refine XP_pure rfl rfl (c_rank hs) ?_
        refine XP_n 1 (pc' := 12) (ls' := [.ref (99), .int (nI (r)), x2]) (st' := [.int (nI (r)), .int (nI (rk s))]) (M' := (I1, J, Rx R, N, G)) rfl ?_
        refine XP_icN (x := rk s) (y := r) rfl (by omega) (by omega) (fun (b12 : rk s < r) => absurd b12 (by omega)) (fun (b12 : r ≤ rk s) => ?_)
        refine XP_n 3 (pc' := 16) (ls' := [.ref (99), .int (nI (r)), x2]) (st' := [.int (I1 99 50), .ref (99)]) (M' := (I1, J, Rx R, N, G)) rfl ?_
        rw [q50]
        refine XP_n 2 (pc' := 18) (ls' := [.ref (99), .int (nI (r)), x2]) (st' := [.int ((nI (h.length + 1)) - (nI (1))), .ref (99)]) (M' := (I1, J, Rx R, N, G)) rfl ?_
        rw [show (nI (h.length + 1)) - (nI (1)) = nI (h.length + 1 - 1) from nI_subE (rfl) (rfl) (by omega)]
        refine XP_n 5 (pc' := 23) (ls' := [.ref (99), .int (nI (r)), x2]) (st' := [.int (nI (h.length + 1 - 1)), .ref (124)]) (M' := ((rw2 I1 99 50 (nI (h.length + 1 - 1))), J, Rx R, N, G)) rfl ?_
        refine XP_iraw rfl rfl (show h.length + 1 - 1 < 200 by omega) rfl (by omega) ?_
        rw [show (rw2 I1 99 50 (nI (h.length + 1 - 1))) 124 (h.length + 1 - 1) = nI (s) from q124]
        refine XP_n 4 (pc' := 28) (ls' := [.ref (99), .int (nI (r)), .int (nI (s))]) (st' := [.int (I1 99 51), .ref (99)]) (M' := ((rw2 I1 99 50 (nI (h.length + 1 - 1))), J, Rx R, N, G)) rfl ?_
        rw [q51]
        refine XP_n 2 (pc' := 30) (ls' := [.ref (99), .int (nI (r)), .int (nI (s))]) (st' := [.int (nI (13)), .int (nI (s)), .int (nI (cnt (s :: h))), .ref (99)]) (M' := ((rw2 I1 99 50 (nI (h.length + 1 - 1))), J, Rx R, N, G)) rfl ?_
        refine XP_icN (x := s) (y := 13) rfl (by omega) (by omega) (fun (b30 : s = 13) => absurd b30 (by omega)) (fun (b30 : ¬ s = 13) => ?_)
        refine XP_n 2 (pc' := 33) (ls' := [.ref (99), .int (nI (r)), .int (nI (s))]) (st' := [.int (nI (19)), .int (nI (s)), .int (nI (cnt (s :: h))), .ref (99)]) (M' := ((rw2 I1 99 50 (nI (h.length + 1 - 1))), J, Rx R, N, G)) rfl ?_
        refine XP_icN (x := s) (y := 19) rfl (by omega) (by omega) (fun (b33 : ¬ s = 19) => absurd b33 (by omega)) (fun (b33 : s = 19) => ?_)
        refine XP_n 3 (pc' := 38) (ls' := [.ref (99), .int (nI (r)), .int (nI (s))]) (st' := [.int ((nI (cnt (s :: h))) - (nI (1))), .ref (99)]) (M' := ((rw2 I1 99 50 (nI (h.length + 1 - 1))), J, Rx R, N, G)) rfl ?_
        rw [hc1]
        refine XP_n 3 (pc' := 41) (ls' := [.ref (99), .int (nI (r)), .int (nI (s))]) (st' := [.int (nI (s)), .ref (99)]) (M' := ((rw2 (rw2 I1 99 50 (nI (h.length + 1 - 1))) 99 51 (nI (cnt h))), J, Rx R, N, G)) rfl ?_
        refine XP_call rfl rfl (c_mputs (I := (rw2 (rw2 I1 99 50 (nI (h.length + 1 - 1))) 99 51 (nI (cnt h)))) (u := u) ht (by omega) (by exact (hF.2 30 (by omega)).trans k30) hM.2.2.1 _) ?_
        rintro v1 M1 ⟨rfl, rfl⟩
        refine XP_n 1 (pc' := 0) (ls' := [.ref (99), .int (nI (r)), .int (nI (s))]) (st' := []) (M' := ((rw2 (rw2 (rw2 (rw2 I1 99 50 (nI (h.length + 1 - 1))) 99 51 (nI (cnt h))) 117 (200 * t + u.length) (nI (s))) 99 52 (nI (u.length + 1))), J, Rx R, N, G)) rfl ?_
        refine XP_mono (ih (u ++ [s]) _ _ (by rw [List.length_append]; show h.length + (u.length + 1) ≤ 160; omega) (MS.put (hpop _ rfl) rfl) ((hF2 _).put (Or.inl rfl) (by omega))) ?_
        rintro v M' ⟨a1, I', a2, a3, a4, a5⟩
        refine ⟨a1, I', a2, a3, a4, fun j h1 h2 => (a5 j h1 h2).trans ?_⟩
        rw [rw2_c, if_neg (by omega), rw2_ro (by omega), rw2_c, if_neg (by omega), rw2_c, if_neg (by omega)]
    · have hcc : cnt (s :: h) = cnt h := by
        show (if s = 0 ∨ s = 13 ∨ s = 19 then 1 else 0) + cnt h = _
        rw [if_neg (fun z => by rcases z with z | z; · exact hs0 z
                                · exact g13 z)]
        omega
      have hc0 : (nI (cnt (s :: h))) - (nI (0)) = nI (cnt h) := by rw [hcc, sub_0]
      refine XP_n 2 (pc' := 2) (ls' := [.ref (99), .int (nI (r)), x2]) (st' := [.int (I1 99 50)]) (M' := (I1, J, Rx R, N, G)) rfl ?_
      rw [q50]
      refine XP_ifN (x := h.length + 1)  rfl (by omega) (fun (b2 : h.length + 1 ≤ 0) => absurd b2 (by omega)) (fun (b2 : 0 < h.length + 1) => ?_)
      refine XP_n 4 (pc' := 7) (ls' := [.ref (99), .int (nI (r)), x2]) (st' := [.int (I1 99 50), .ref (124)]) (M' := (I1, J, Rx R, N, G)) rfl ?_
      rw [q50]
      refine XP_n 2 (pc' := 9) (ls' := [.ref (99), .int (nI (r)), x2]) (st' := [.int ((nI (h.length + 1)) - (nI (1))), .ref (124)]) (M' := (I1, J, Rx R, N, G)) rfl ?_
      rw [show (nI (h.length + 1)) - (nI (1)) = nI (h.length + 1 - 1) from nI_subE (rfl) (rfl) (by omega)]
      refine XP_iraw rfl rfl (show h.length + 1 - 1 < 200 by omega) rfl (by omega) ?_
      rw [show I1 124 (h.length + 1 - 1) = nI (s) from q124]
      refine XP_pure rfl rfl (c_rank hs) ?_
      refine XP_n 1 (pc' := 12) (ls' := [.ref (99), .int (nI (r)), x2]) (st' := [.int (nI (r)), .int (nI (rk s))]) (M' := (I1, J, Rx R, N, G)) rfl ?_
      refine XP_icN (x := rk s) (y := r) rfl (by omega) (by omega) (fun (b12 : rk s < r) => absurd b12 (by omega)) (fun (b12 : r ≤ rk s) => ?_)
      refine XP_n 3 (pc' := 16) (ls' := [.ref (99), .int (nI (r)), x2]) (st' := [.int (I1 99 50), .ref (99)]) (M' := (I1, J, Rx R, N, G)) rfl ?_
      rw [q50]
      refine XP_n 2 (pc' := 18) (ls' := [.ref (99), .int (nI (r)), x2]) (st' := [.int ((nI (h.length + 1)) - (nI (1))), .ref (99)]) (M' := (I1, J, Rx R, N, G)) rfl ?_
      rw [show (nI (h.length + 1)) - (nI (1)) = nI (h.length + 1 - 1) from nI_subE (rfl) (rfl) (by omega)]
      refine XP_n 5 (pc' := 23) (ls' := [.ref (99), .int (nI (r)), x2]) (st' := [.int (nI (h.length + 1 - 1)), .ref (124)]) (M' := ((rw2 I1 99 50 (nI (h.length + 1 - 1))), J, Rx R, N, G)) rfl ?_
      refine XP_iraw rfl rfl (show h.length + 1 - 1 < 200 by omega) rfl (by omega) ?_
      rw [show (rw2 I1 99 50 (nI (h.length + 1 - 1))) 124 (h.length + 1 - 1) = nI (s) from q124]
      refine XP_n 4 (pc' := 28) (ls' := [.ref (99), .int (nI (r)), .int (nI (s))]) (st' := [.int (I1 99 51), .ref (99)]) (M' := ((rw2 I1 99 50 (nI (h.length + 1 - 1))), J, Rx R, N, G)) rfl ?_
      rw [q51]
      refine XP_n 2 (pc' := 30) (ls' := [.ref (99), .int (nI (r)), .int (nI (s))]) (st' := [.int (nI (13)), .int (nI (s)), .int (nI (cnt (s :: h))), .ref (99)]) (M' := ((rw2 I1 99 50 (nI (h.length + 1 - 1))), J, Rx R, N, G)) rfl ?_
      refine XP_icN (x := s) (y := 13) rfl (by omega) (by omega) (fun (b30 : s = 13) => absurd b30 (by omega)) (fun (b30 : ¬ s = 13) => ?_)
      refine XP_n 2 (pc' := 33) (ls' := [.ref (99), .int (nI (r)), .int (nI (s))]) (st' := [.int (nI (19)), .int (nI (s)), .int (nI (cnt (s :: h))), .ref (99)]) (M' := ((rw2 I1 99 50 (nI (h.length + 1 - 1))), J, Rx R, N, G)) rfl ?_
      refine XP_icN (x := s) (y := 19) rfl (by omega) (by omega) (fun (b33 : ¬ s = 19) => ?_) (fun (b33 : s = 19) => absurd b33 (by omega))
      refine XP_n 2 (pc' := 38) (ls' := [.ref (99), .int (nI (r)), .int (nI (s))]) (st' := [.int ((nI (cnt (s :: h))) - (nI (0))), .ref (99)]) (M' := ((rw2 I1 99 50 (nI (h.length + 1 - 1))), J, Rx R, N, G)) rfl ?_
      rw [hc0]
      refine XP_n 3 (pc' := 41) (ls' := [.ref (99), .int (nI (r)), .int (nI (s))]) (st' := [.int (nI (s)), .ref (99)]) (M' := ((rw2 (rw2 I1 99 50 (nI (h.length + 1 - 1))) 99 51 (nI (cnt h))), J, Rx R, N, G)) rfl ?_
      refine XP_call rfl rfl (c_mputs (I := (rw2 (rw2 I1 99 50 (nI (h.length + 1 - 1))) 99 51 (nI (cnt h)))) (u := u) ht (by omega) (by exact (hF.2 30 (by omega)).trans k30) hM.2.2.1 _) ?_
      rintro v1 M1 ⟨rfl, rfl⟩
      refine XP_n 1 (pc' := 0) (ls' := [.ref (99), .int (nI (r)), .int (nI (s))]) (st' := []) (M' := ((rw2 (rw2 (rw2 (rw2 I1 99 50 (nI (h.length + 1 - 1))) 99 51 (nI (cnt h))) 117 (200 * t + u.length) (nI (s))) 99 52 (nI (u.length + 1))), J, Rx R, N, G)) rfl ?_
      refine XP_mono (ih (u ++ [s]) _ _ (by rw [List.length_append]; show h.length + (u.length + 1) ≤ 160; omega) (MS.put (hpop _ rfl) rfl) ((hF2 _).put (Or.inl rfl) (by omega))) ?_
      rintro v M' ⟨a1, I', a2, a3, a4, a5⟩
      refine ⟨a1, I', a2, a3, a4, fun j h1 h2 => (a5 j h1 h2).trans ?_⟩
      rw [rw2_c, if_neg (by omega), rw2_ro (by omega), rw2_c, if_neg (by omega), rw2_c, if_neg (by omega)]
theorem c_unw {r : Nat} (hr : 1 ≤ r) (hr7 : r ≤ 7) (ht : t < 6) {It : Nat → Nat → Int32} (k30 : It 99 30 = nI t) {h u : List Nat} (hl : h.length + u.length ≤ 160) (hM : MS I0 t I h u) (hF : Fr0 It I) : TP X (d + 1) n_M_unwinds [.ref 99, .int (nI r)] (I, J, Rx R, N, G) (fun v M' => v = none ∧ ∃ I', M' = (I', J, Rx R, N, G) ∧ MS I0 t I' (unw r h u).1 (unw r h u).2 ∧ Fr0 It I' ∧ (∀ j, 44 ≤ j → j ≤ 47 → I' 99 j = I 99 j)) := by
  unfold TP
  show XP X _ k_M_unwinds 0 [.ref 99, .int (nI r), xj] [] _ _
  exact l_unw hr hr7 ht k30 h u I xj hl hM hF
end
