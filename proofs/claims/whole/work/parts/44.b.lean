/-! a rule on a path, year by year -/
abbrev gT : Type := Nat × Int32 × Bool × Int64 × Int64
def gUp (nR : Nat → Nat → Nat → Nat) (l w y : Nat) : Nat := if nR l w y ≤ 99 - w then nR l w y else 99 - w
/-- one year -/
def gN (s : Nat → Nat → Int32) (k5 : Bool) (nR : Nat → Nat → Nat → Nat) (p y : Nat) (q : gT) : gT :=
  if q.2.2.1 = true then q
  else if k5 = true ∧ q.1 ≤ nLv s p y then (q.1, nI 0, true, q.2.2.2.1 + q.2.1.toInt64, q.2.2.2.2)
  else (q.1 + gUp nR (nLv s p y) q.1 y, gGrow s q.2.1 (nI y), false, q.2.2.2.1 + (gCost s (s 99 3) (nI (gUp nR (nLv s p y) q.1 y)) (nI q.1) (nI y) q.2.1).toInt64, q.2.2.2.2 + gHarm s (nI (nLv s p y)) (nI (q.1 + gUp nR (nLv s p y) q.1 y)) (nI y) q.2.1)
def gS (s : Nat → Nat → Int32) (k5 : Bool) (nR : Nat → Nat → Nat → Nat) (p : Nat) : Nat → gT
  | 0 => (cW s, s 99 2, false, lN 0, lN 0)
  | y + 1 => gN s k5 nR p y (gS s k5 nR p y)
/-- by how much it was raised -/
def gU (s : Nat → Nat → Int32) (k5 : Bool) (nR : Nat → Nat → Nat → Nat) (p y : Nat) : Nat :=
  if (gS s k5 nR p (y + 1)).2.2.1 = true then 0 else gUp nR (nLv s p y) (gS s k5 nR p y).1 y
theorem gUp_le (nR : Nat → Nat → Nat → Nat) (l w y : Nat) : gUp nR l w y ≤ 99 - w := by
  unfold gUp
  split <;> omega
theorem gS_w {s : Nat → Nat → Int32} (hW : Wf s) (k5 : Bool) (nR : Nat → Nat → Nat → Nat) (p : Nat) : ∀ y, (gS s k5 nR p y).1 ≤ 99
  | 0 => by have := hW.w.2; show cW s ≤ 99; omega
  | y + 1 => by
    have ih := gS_w hW k5 nR p y
    unfold gS gN
    split
    · exact ih
    · split
      · exact ih
      · have := gUp_le nR (nLv s p y) (gS s k5 nR p y).1 y
        show _ + _ ≤ 99
        omega
/-- what the rows of a run hold -/
def gRows (s : Nat → Nat → Int32) (k5 : Bool) (nR : Nat → Nat → Nat → Nat) (p n wr ur rr lr : Nat) (I : Nat → Nat → Int32) : Prop := ∀ y, y < n → I wr y = nI (gS s k5 nR p (y + 1)).1 ∧ I ur y = nI (gU s k5 nR p y) ∧ I rr y = (gS s k5 nR p y).2.1 ∧ I lr y = nI (gS s k5 nR p (y + 1)).2.2.1.toNat
theorem gRows_up {s : Nat → Nat → Int32} {k5 : Bool} {nR : Nat → Nat → Nat → Nat} {p n wr ur rr lr : Nat} {I I' : Nat → Nat → Int32} (h : gRows s k5 nR p n wr ur rr lr I) (ho : ∀ k, k = wr ∨ k = ur ∨ k = rr ∨ k = lr → ∀ j, ¬ j = n → I' k j = I k j) (h1 : I' wr n = nI (gS s k5 nR p (n + 1)).1) (h2 : I' ur n = nI (gU s k5 nR p n)) (h3 : I' rr n = (gS s k5 nR p n).2.1) (h4 : I' lr n = nI (gS s k5 nR p (n + 1)).2.2.1.toNat) : gRows s k5 nR p (n + 1) wr ur rr lr I' := by
  intro y hy
  by_cases e : y = n
  · subst e
    exact ⟨h1, h2, h3, h4⟩
  · obtain ⟨a, b, c, d⟩ := h y (by omega)
    refine ⟨(ho _ (by simp) y e).trans a, (ho _ (by simp) y e).trans b, (ho _ (by simp) y e).trans c, (ho _ (by simp) y e).trans d⟩
theorem gS_1 {s : Nat → Nat → Int32} {k5 : Bool} {nR : Nat → Nat → Nat → Nat} {p y : Nat} {q : gT} (h : gS s k5 nR p y = q) : gS s k5 nR p (y + 1) = gN s k5 nR p y q := by rw [gS, h]
theorem nI_gUp {nR : Nat → Nat → Nat → Nat} {l w y u : Nat} (h1 : nR l w y = u) (h2 : u ≤ 1000) : (if nI (99 - w) < nI u then nI (99 - w) else nI u) = nI (gUp nR l w y) := by
  unfold gUp
  rw [h1]
  by_cases h : 99 - w < u
  · rw [if_pos ((nI_ltI (by omega) (by omega)).mpr h), if_neg (by omega)]
  · rw [if_neg (fun z => h ((nI_ltI (by omega) (by omega)).mp z)), if_pos (by omega)]
theorem l_M_goes (X : hX) (d : Nat) {s I0 : Nat → Nat → Int32} {J0 : Nat → Nat → Int64} {R : Nat → Nat → Option Nat} {N : Nat → Nat} {G : hG} (hS0 : St s I0) (hW : Wf s) {kd p : Nat} (mu by_ cl r : Int32) {nR : Nat → Nat → Nat → Nat} (k6 : kd < 6) (hp : p < cP s) (hR : ∀ l w y, nR l w y ≤ 1000)
    (hRa : ∀ (I : Nat → Nat → Int32) (J : Nat → Nat → Int64), St s I → ∀ l w y, y < 16 → l ≤ 150 → w ≤ 99 → TP X (d + 2) n_M_raises [.ref 99, .int (nI kd), .int mu, .int by_, .int cl, .int (nI y), .int (nI l), .int (nI w), .int r] (I, J, Rx R, N, G) (Ret (.int (nI (nR l w y))) (I, J, Rx R, N, G))) :
    ∀ (n i w : Nat) (rich : Int32) (lf : Bool) (pd hd : Int64) (I : Nat → Nat → Int32) (J : Nat → Nat → Int64) (w11 w12 : Value), i + n = cY s → Only [125, 126, 127, 128, 129, 130] I0 I → OnlyJ [99] J0 J → gRows s (decide (kd = 5)) nR p i 127 128 129 130 I → gS s (decide (kd = 5)) nR p i = (w, rich, lf, pd, hd) → J 99 59 = pd → J 99 60 = hd →
      XP X (d + 3) k_M_goes 16 [.ref 99, .int (nI kd), .int mu, .int by_, .int cl, .int r, .int (nI p), .int (nI w), .int rich, .int (nI lf.toNat), .int (nI i), w11, w12] [] (I, J, Rx R, N, G) (fun v M' => v = none ∧ ∃ I' J', M' = (I', J', Rx R, N, G) ∧ Only [125, 126, 127, 128, 129, 130] I0 I' ∧ OnlyJ [99] J0 J' ∧ gRows s (decide (kd = 5)) nR p (cY s) 127 128 129 130 I' ∧ J' 99 59 = (gS s (decide (kd = 5)) nR p (cY s)).2.2.2.1 ∧ J' 99 60 = (gS s (decide (kd = 5)) nR p (cY s)).2.2.2.2) := by
  have hy16 := hW.y.2.2
  intro n
  induction n with
  | zero =>
    rintro i w rich lf pd hd I J w11 w12 hi hO hOJ hRw hq hJ1 hJ2
    have hS : St s I := St_only hS0 hO (by decide +kernel)
    obtain rfl : i = cY s := by omega
    refine XP_n 2 (pc' := 18) (ls' := [.ref (99), .int (nI (kd)), .int (mu), .int (by_), .int (cl), .int (r), .int (nI (p)), .int (nI (w)), .int (rich), .int (nI (lf.toNat)), .int (nI (cY s)), w11, w12]) (st' := [.ref (99), .int (nI (cY s))]) (M' := (I, J, Rx R, N, G)) rfl ?_
    refine XP_geti hS rfl rfl rfl ?_
    rw [hW.y.1]
    refine XP_icN (x := cY s) (y := cY s) rfl (by omega) (by omega) (fun (b19 : cY s ≤ cY s) => ?_) (fun (b19 : cY s < cY s) => absurd b19 (by omega))
    exact XP_ret rfl ⟨rfl, I, J, rfl, hO, hOJ, hRw, by rw [hq, hJ1], by rw [hq, hJ2]⟩
  | succ n ih =>
    rintro i w rich lf pd hd I J w11 w12 hi hO hOJ hRw hq hJ1 hJ2
    have hS : St s I := St_only hS0 hO (by decide +kernel)
    have hq1 := gS_1 hq
    have hw99 : w ≤ 99 := by have := gS_w hW (decide (kd = 5)) nR p i; rw [hq] at this; exact this
    have hl150 := (nLv_ok hW hp (show i ≤ 15 by omega)).2
    unfold gN at hq1
    obtain ⟨l0, hl0⟩ : ∃ z, z = nLv s p i := ⟨_, rfl⟩
    rw [← hl0] at hl150
    simp only [← hl0] at hq1
    cases lf with
    | true =>
      simp only [if_true] at hq1
      refine XP_n 2 (pc' := 18) (ls' := [.ref (99), .int (nI (kd)), .int (mu), .int (by_), .int (cl), .int (r), .int (nI (p)), .int (nI (w)), .int (rich), .int (nI (1)), .int (nI (i)), w11, w12]) (st' := [.ref (99), .int (nI (i))]) (M' := (I, J, Rx R, N, G)) rfl ?_
      refine XP_geti hS rfl rfl rfl ?_
      rw [hW.y.1]
      refine XP_icN (x := i) (y := cY s) rfl (by omega) (by omega) (fun (b19 : cY s ≤ i) => absurd b19 (by omega)) (fun (b19 : i < cY s) => ?_)
      refine XP_n 3 (pc' := 23) (ls' := [.ref (99), .int (nI (kd)), .int (mu), .int (by_), .int (cl), .int (r), .int (nI (p)), .int (nI (w)), .int (rich), .int (nI (1)), .int (nI (i)), w11, w12]) (st' := [.int (nI (i)), .int (nI (p)), .ref (99)]) (M' := (I, J, Rx R, N, G)) rfl ?_
      refine XP_pure rfl rfl (m_lv hS hW hp (by omega)) ?_
      rw [← hl0]
      refine XP_n 5 (pc' := 29) (ls' := [.ref (99), .int (nI (kd)), .int (mu), .int (by_), .int (cl), .int (r), .int (nI (p)), .int (nI (w)), .int (rich), .int (nI (1)), .int (nI (i)), .int (nI (l0)), w12]) (st' := [.int (rich), .int (nI (i)), .ref (129)]) (M' := (I, J, Rx R, N, G)) rfl ?_
      refine XP_iast rfl rfl (show i < 17 by omega) rfl (by omega) ?_
      refine XP_n 4 (pc' := 34) (ls' := [.ref (99), .int (nI (kd)), .int (mu), .int (by_), .int (cl), .int (r), .int (nI (p)), .int (nI (w)), .int (rich), .int (nI (1)), .int (nI (i)), .int (nI (l0)), w12]) (st' := [.int (nI (0)), .int (nI (i)), .ref (128)]) (M' := ((rw2 I 129 i (rich)), J, Rx R, N, G)) rfl ?_
      refine XP_iast rfl rfl (show i < 17 by omega) rfl (by omega) ?_
      refine XP_n 1 (pc' := 36) (ls' := [.ref (99), .int (nI (kd)), .int (mu), .int (by_), .int (cl), .int (r), .int (nI (p)), .int (nI (w)), .int (rich), .int (nI (1)), .int (nI (i)), .int (nI (l0)), w12]) (st' := [.int (nI (1))]) (M' := ((rw2 (rw2 I 129 i (rich)) 128 i (nI (0))), J, Rx R, N, G)) rfl ?_
      refine XP_ifN (x := 1)  rfl (by omega) (fun (b36 : ¬ 1 = 0) => ?_) (fun (b36 : 1 = 0) => absurd b36 (by omega))
      refine XP_n 1 (pc' := 55) (ls' := [.ref (99), .int (nI (kd)), .int (mu), .int (by_), .int (cl), .int (r), .int (nI (p)), .int (nI (w)), .int (rich), .int (nI (1)), .int (nI (i)), .int (nI (l0)), w12]) (st' := [.int (nI (1))]) (M' := ((rw2 (rw2 I 129 i (rich)) 128 i (nI (0))), J, Rx R, N, G)) rfl ?_
      refine XP_ifN (x := 1)  rfl (by omega) (fun (b55 : ¬ 1 = 0) => ?_) (fun (b55 : 1 = 0) => absurd b55 (by omega))
      refine XP_n 4 (pc' := 119) (ls' := [.ref (99), .int (nI (kd)), .int (mu), .int (by_), .int (cl), .int (r), .int (nI (p)), .int (nI (w)), .int (rich), .int (nI (1)), .int (nI (i)), .int (nI (l0)), w12]) (st' := [.int (nI (w)), .int (nI (i)), .ref (127)]) (M' := ((rw2 (rw2 I 129 i (rich)) 128 i (nI (0))), J, Rx R, N, G)) rfl ?_
      refine XP_iast rfl rfl (show i < 17 by omega) rfl (by omega) ?_
      refine XP_n 4 (pc' := 124) (ls' := [.ref (99), .int (nI (kd)), .int (mu), .int (by_), .int (cl), .int (r), .int (nI (p)), .int (nI (w)), .int (rich), .int (nI (1)), .int (nI (i)), .int (nI (l0)), w12]) (st' := [.int (nI (1)), .int (nI (i)), .ref (130)]) (M' := ((rw2 (rw2 (rw2 I 129 i (rich)) 128 i (nI (0))) 127 i (nI (w))), J, Rx R, N, G)) rfl ?_
      refine XP_bast rfl rfl (show i < 17 by omega) rfl (by omega) (rfl) ?_
      refine XP_n 1 (pc' := 126) (ls' := [.ref (99), .int (nI (kd)), .int (mu), .int (by_), .int (cl), .int (r), .int (nI (p)), .int (nI (w)), .int (rich), .int (nI (1)), .int (nI (i) + nI (1)), .int (nI (l0)), w12]) (st' := []) (M' := ((rw2 (rw2 (rw2 (rw2 I 129 i (rich)) 128 i (nI (0))) 127 i (nI (w))) 130 i (nI (1))), J, Rx R, N, G)) rfl ?_
      rw [show nI (i) + nI (1) = nI (i + 1) from nI_addE (rfl) rfl]
      refine XP_n 1 (pc' := 16) (ls' := [.ref (99), .int (nI (kd)), .int (mu), .int (by_), .int (cl), .int (r), .int (nI (p)), .int (nI (w)), .int (rich), .int (nI (1)), .int (nI (i + 1)), .int (nI (l0)), w12]) (st' := []) (M' := ((rw2 (rw2 (rw2 (rw2 I 129 i (rich)) 128 i (nI (0))) 127 i (nI (w))) 130 i (nI (1))), J, Rx R, N, G)) rfl ?_
      refine ih (i + 1) (w) (rich) true (pd) (hd) _ _ _ _ (by omega) (Only.w (Only.w (Only.w (Only.w hO (by simp)) (by simp)) (by simp)) (by simp)) hOJ ?_ hq1 ?_ ?_
      · exact gRows_up hRw (by rintro k (rfl | rfl | rfl | rfl) j hj <;> simp [rw2, hj]) (by rw [hq1]; simp [rw2]) (by unfold gU; rw [hq1]; simp [rw2]) (by rw [hq]; simp [rw2]) (by rw [hq1]; simp [rw2])
      · simp [rw2, hJ1]
      · simp [rw2, hJ2]
    | false =>
      simp only [Bool.false_eq_true, if_false] at hq1
      by_cases hc : (decide (kd = 5)) = true ∧ w ≤ l0
      · rw [if_pos hc] at hq1
        obtain ⟨hc1, hc2⟩ := hc
        have hk5 := of_decide_eq_true hc1
        refine XP_n 2 (pc' := 18) (ls' := [.ref (99), .int (nI (kd)), .int (mu), .int (by_), .int (cl), .int (r), .int (nI (p)), .int (nI (w)), .int (rich), .int (nI (0)), .int (nI (i)), w11, w12]) (st' := [.ref (99), .int (nI (i))]) (M' := (I, J, Rx R, N, G)) rfl ?_
        refine XP_geti hS rfl rfl rfl ?_
        rw [hW.y.1]
        refine XP_icN (x := i) (y := cY s) rfl (by omega) (by omega) (fun (b19 : cY s ≤ i) => absurd b19 (by omega)) (fun (b19 : i < cY s) => ?_)
        refine XP_n 3 (pc' := 23) (ls' := [.ref (99), .int (nI (kd)), .int (mu), .int (by_), .int (cl), .int (r), .int (nI (p)), .int (nI (w)), .int (rich), .int (nI (0)), .int (nI (i)), w11, w12]) (st' := [.int (nI (i)), .int (nI (p)), .ref (99)]) (M' := (I, J, Rx R, N, G)) rfl ?_
        refine XP_pure rfl rfl (m_lv hS hW hp (by omega)) ?_
        rw [← hl0]
        refine XP_n 5 (pc' := 29) (ls' := [.ref (99), .int (nI (kd)), .int (mu), .int (by_), .int (cl), .int (r), .int (nI (p)), .int (nI (w)), .int (rich), .int (nI (0)), .int (nI (i)), .int (nI (l0)), w12]) (st' := [.int (rich), .int (nI (i)), .ref (129)]) (M' := (I, J, Rx R, N, G)) rfl ?_
        refine XP_iast rfl rfl (show i < 17 by omega) rfl (by omega) ?_
        refine XP_n 4 (pc' := 34) (ls' := [.ref (99), .int (nI (kd)), .int (mu), .int (by_), .int (cl), .int (r), .int (nI (p)), .int (nI (w)), .int (rich), .int (nI (0)), .int (nI (i)), .int (nI (l0)), w12]) (st' := [.int (nI (0)), .int (nI (i)), .ref (128)]) (M' := ((rw2 I 129 i (rich)), J, Rx R, N, G)) rfl ?_
        refine XP_iast rfl rfl (show i < 17 by omega) rfl (by omega) ?_
        refine XP_n 1 (pc' := 36) (ls' := [.ref (99), .int (nI (kd)), .int (mu), .int (by_), .int (cl), .int (r), .int (nI (p)), .int (nI (w)), .int (rich), .int (nI (0)), .int (nI (i)), .int (nI (l0)), w12]) (st' := [.int (nI (0))]) (M' := ((rw2 (rw2 I 129 i (rich)) 128 i (nI (0))), J, Rx R, N, G)) rfl ?_
        refine XP_ifN (x := 0)  rfl (by omega) (fun (b36 : ¬ 0 = 0) => absurd b36 (by omega)) (fun (b36 : 0 = 0) => ?_)
        refine XP_n 2 (pc' := 39) (ls' := [.ref (99), .int (nI (kd)), .int (mu), .int (by_), .int (cl), .int (r), .int (nI (p)), .int (nI (w)), .int (rich), .int (nI (0)), .int (nI (i)), .int (nI (l0)), w12]) (st' := [.int (nI (5)), .int (nI (kd))]) (M' := ((rw2 (rw2 I 129 i (rich)) 128 i (nI (0))), J, Rx R, N, G)) rfl ?_
        refine XP_icN (x := kd) (y := 5) rfl (by omega) (by omega) (fun (b39 : ¬ kd = 5) => absurd b39 (by omega)) (fun (b39 : kd = 5) => ?_)
        refine XP_n 2 (pc' := 42) (ls' := [.ref (99), .int (nI (kd)), .int (mu), .int (by_), .int (cl), .int (r), .int (nI (p)), .int (nI (w)), .int (rich), .int (nI (0)), .int (nI (i)), .int (nI (l0)), w12]) (st' := [.int (nI (w)), .int (nI (l0))]) (M' := ((rw2 (rw2 I 129 i (rich)) 128 i (nI (0))), J, Rx R, N, G)) rfl ?_
        refine XP_icN (x := l0) (y := w) rfl (by omega) (by omega) (fun (b42 : l0 < w) => absurd b42 (by omega)) (fun (b42 : w ≤ l0) => ?_)
        refine XP_n 5 (pc' := 48) (ls' := [.ref (99), .int (nI (kd)), .int (mu), .int (by_), .int (cl), .int (r), .int (nI (p)), .int (nI (w)), .int (rich), .int (nI (1)), .int (nI (i)), .int (nI (l0)), w12]) (st' := [.long (J 99 59), .ref (99)]) (M' := ((rw2 (rw2 I 129 i (rich)) 128 i (nI (0))), J, Rx R, N, G)) rfl ?_
        rw [hJ1]
        refine XP_n 7 (pc' := 55) (ls' := [.ref (99), .int (nI (kd)), .int (mu), .int (by_), .int (cl), .int (r), .int (nI (p)), .int (nI (w)), .int (nI (0)), .int (nI (1)), .int (nI (i)), .int (nI (l0)), w12]) (st' := [.int (nI (1))]) (M' := ((rw2 (rw2 I 129 i (rich)) 128 i (nI (0))), (rw2 J 99 59 ((pd) + ((rich).toInt64))), Rx R, N, G)) rfl ?_
        refine XP_ifN (x := 1)  rfl (by omega) (fun (b55 : ¬ 1 = 0) => ?_) (fun (b55 : 1 = 0) => absurd b55 (by omega))
        refine XP_n 4 (pc' := 119) (ls' := [.ref (99), .int (nI (kd)), .int (mu), .int (by_), .int (cl), .int (r), .int (nI (p)), .int (nI (w)), .int (nI (0)), .int (nI (1)), .int (nI (i)), .int (nI (l0)), w12]) (st' := [.int (nI (w)), .int (nI (i)), .ref (127)]) (M' := ((rw2 (rw2 I 129 i (rich)) 128 i (nI (0))), (rw2 J 99 59 ((pd) + ((rich).toInt64))), Rx R, N, G)) rfl ?_
        refine XP_iast rfl rfl (show i < 17 by omega) rfl (by omega) ?_
        refine XP_n 4 (pc' := 124) (ls' := [.ref (99), .int (nI (kd)), .int (mu), .int (by_), .int (cl), .int (r), .int (nI (p)), .int (nI (w)), .int (nI (0)), .int (nI (1)), .int (nI (i)), .int (nI (l0)), w12]) (st' := [.int (nI (1)), .int (nI (i)), .ref (130)]) (M' := ((rw2 (rw2 (rw2 I 129 i (rich)) 128 i (nI (0))) 127 i (nI (w))), (rw2 J 99 59 ((pd) + ((rich).toInt64))), Rx R, N, G)) rfl ?_
        refine XP_bast rfl rfl (show i < 17 by omega) rfl (by omega) (rfl) ?_
        refine XP_n 1 (pc' := 126) (ls' := [.ref (99), .int (nI (kd)), .int (mu), .int (by_), .int (cl), .int (r), .int (nI (p)), .int (nI (w)), .int (nI (0)), .int (nI (1)), .int (nI (i) + nI (1)), .int (nI (l0)), w12]) (st' := []) (M' := ((rw2 (rw2 (rw2 (rw2 I 129 i (rich)) 128 i (nI (0))) 127 i (nI (w))) 130 i (nI (1))), (rw2 J 99 59 ((pd) + ((rich).toInt64))), Rx R, N, G)) rfl ?_
        rw [show nI (i) + nI (1) = nI (i + 1) from nI_addE (rfl) rfl]
        refine XP_n 1 (pc' := 16) (ls' := [.ref (99), .int (nI (kd)), .int (mu), .int (by_), .int (cl), .int (r), .int (nI (p)), .int (nI (w)), .int (nI (0)), .int (nI (1)), .int (nI (i + 1)), .int (nI (l0)), w12]) (st' := []) (M' := ((rw2 (rw2 (rw2 (rw2 I 129 i (rich)) 128 i (nI (0))) 127 i (nI (w))) 130 i (nI (1))), (rw2 J 99 59 ((pd) + ((rich).toInt64))), Rx R, N, G)) rfl ?_
        refine ih (i + 1) (w) (nI 0) true (pd + rich.toInt64) (hd) _ _ _ _ (by omega) (Only.w (Only.w (Only.w (Only.w hO (by simp)) (by simp)) (by simp)) (by simp)) (OnlyJ.w hOJ (by simp)) ?_ hq1 ?_ ?_
        · exact gRows_up hRw (by rintro k (rfl | rfl | rfl | rfl) j hj <;> simp [rw2, hj]) (by rw [hq1]; simp [rw2]) (by unfold gU; rw [hq1]; simp [rw2]) (by rw [hq]; simp [rw2]) (by rw [hq1]; simp [rw2])
        · simp [rw2, hJ1]
        · simp [rw2, hJ2]
      · rw [if_neg hc] at hq1
        have hu1000 := hR l0 w i
        obtain ⟨u0, hu0⟩ : ∃ z, z = nR l0 w i := ⟨_, rfl⟩
        rw [← hu0] at hu1000
        have kk : ∀ (u : Nat) (I3 : Nat → Nat → Int32), I3 = rw2 (rw2 I 129 i rich) 128 i (nI 0) → St s I3 → Only [125, 126, 127, 128, 129, 130] I0 I3 → gUp nR l0 w i = u → XP X (d + 3) k_M_goes 77 [.ref 99, .int (nI kd), .int mu, .int by_, .int cl, .int r, .int (nI p), .int (nI w), .int rich, .int (nI 0), .int (nI i), .int (nI l0), .int (nI u0)] [.int (nI u)] (I3, J, Rx R, N, G) (fun v M' => v = none ∧ ∃ I' J', M' = (I', J', Rx R, N, G) ∧ Only [125, 126, 127, 128, 129, 130] I0 I' ∧ OnlyJ [99] J0 J' ∧ gRows s (decide (kd = 5)) nR p (cY s) 127 128 129 130 I' ∧ J' 99 59 = (gS s (decide (kd = 5)) nR p (cY s)).2.2.2.1 ∧ J' 99 60 = (gS s (decide (kd = 5)) nR p (cY s)).2.2.2.2) := by
          intro u I3 e3 hS3 hn3 hu
          have hu99 := gUp_le nR l0 w i
          rw [hu] at hq1 hu99
          refine XP_n 4 (pc' := 81) (ls' := [.ref (99), .int (nI (kd)), .int (mu), .int (by_), .int (cl), .int (r), .int (nI (p)), .int (nI (w)), .int (rich), .int (nI (0)), .int (nI (i)), .int (nI (l0)), .int (nI (u))]) (st' := [.long (J 99 59), .ref (99)]) (M' := (I3, J, Rx R, N, G)) rfl ?_
          rw [hJ1]
          refine XP_n 5 (pc' := 86) (ls' := [.ref (99), .int (nI (kd)), .int (mu), .int (by_), .int (cl), .int (r), .int (nI (p)), .int (nI (w)), .int (rich), .int (nI (0)), .int (nI (i)), .int (nI (l0)), .int (nI (u))]) (st' := [.int (rich), .int (nI (i)), .int (nI (w)), .int (nI (u)), .ref (99), .long (pd), .ref (99)]) (M' := (I3, J, Rx R, N, G)) rfl ?_
          refine XP_call rfl (rfl) (m_cost hS3 hW _ _ _ _) ?_
          rintro v3 M3 ⟨rfl, I3, rfl, hO3⟩
          have hS3 : St s I3 := St_only hS3 hO3 (by decide +kernel)
          have hn3 : Only [125, 126, 127, 128, 129, 130] I0 I3 := Only.c hn3 hO3 (by simp)
          refine XP_n 7 (pc' := 94) (ls' := [.ref (99), .int (nI (kd)), .int (mu), .int (by_), .int (cl), .int (r), .int (nI (p)), .int ((nI (w)) + (nI (u))), .int (rich), .int (nI (0)), .int (nI (i)), .int (nI (l0)), .int (nI (u))]) (st' := []) (M' := (I3, (rw2 J 99 59 ((pd) + ((gCost s (s 99 3) (nI (u)) (nI (w)) (nI (i)) (rich)).toInt64))), Rx R, N, G)) rfl ?_
          rw [show (nI (w)) + (nI (u)) = nI (w + u) from nI_addE (rfl) (rfl)]
          refine XP_n 4 (pc' := 98) (ls' := [.ref (99), .int (nI (kd)), .int (mu), .int (by_), .int (cl), .int (r), .int (nI (p)), .int (nI (w + u)), .int (rich), .int (nI (0)), .int (nI (i)), .int (nI (l0)), .int (nI (u))]) (st' := [.int (nI (u)), .int (nI (i)), .ref (128)]) (M' := (I3, (rw2 J 99 59 ((pd) + ((gCost s (s 99 3) (nI (u)) (nI (w)) (nI (i)) (rich)).toInt64))), Rx R, N, G)) rfl ?_
          refine XP_iast rfl rfl (show i < 17 by omega) rfl (by omega) ?_
          refine XP_n 3 (pc' := 102) (ls' := [.ref (99), .int (nI (kd)), .int (mu), .int (by_), .int (cl), .int (r), .int (nI (p)), .int (nI (w + u)), .int (rich), .int (nI (0)), .int (nI (i)), .int (nI (l0)), .int (nI (u))]) (st' := [.long (J 99 60), .ref (99)]) (M' := ((rw2 I3 128 i (nI (u))), (rw2 J 99 59 ((pd) + ((gCost s (s 99 3) (nI (u)) (nI (w)) (nI (i)) (rich)).toInt64))), Rx R, N, G)) rfl ?_
          rw [hJ2]
          refine XP_n 5 (pc' := 107) (ls' := [.ref (99), .int (nI (kd)), .int (mu), .int (by_), .int (cl), .int (r), .int (nI (p)), .int (nI (w + u)), .int (rich), .int (nI (0)), .int (nI (i)), .int (nI (l0)), .int (nI (u))]) (st' := [.int (rich), .int (nI (w + u)), .int (nI (i)), .int (nI (l0)), .ref (99), .long (hd), .ref (99)]) (M' := ((rw2 I3 128 i (nI (u))), (rw2 J 99 59 ((pd) + ((gCost s (s 99 3) (nI (u)) (nI (w)) (nI (i)) (rich)).toInt64))), Rx R, N, G)) rfl ?_
          obtain ⟨I4, eI4⟩ : ∃ z, z = (rw2 I3 128 i (nI (u))) := ⟨_, rfl⟩
          rw [← eI4]
          have hS4 : St s I4 := by rw [eI4]; exact (St_rwp hS3 rfl)
          have hn4 : Only [125, 126, 127, 128, 129, 130] I0 I4 := by rw [eI4]; exact (Only.w hn3 (by simp))
          refine XP_call rfl (rfl) (m_harm hS4 hW _ _ _ _) ?_
          rintro v5 M5 ⟨rfl, I5, rfl, hO5⟩
          have hS5 : St s I5 := St_only hS4 hO5 (by decide +kernel)
          have hn5 : Only [125, 126, 127, 128, 129, 130] I0 I5 := Only.c hn4 hO5 (by simp)
          refine XP_n 5 (pc' := 113) (ls' := [.ref (99), .int (nI (kd)), .int (mu), .int (by_), .int (cl), .int (r), .int (nI (p)), .int (nI (w + u)), .int (rich), .int (nI (0)), .int (nI (i)), .int (nI (l0)), .int (nI (u))]) (st' := [.int (nI (i)), .int (rich), .ref (99)]) (M' := (I5, (rw2 (rw2 J 99 59 ((pd) + ((gCost s (s 99 3) (nI (u)) (nI (w)) (nI (i)) (rich)).toInt64))) 99 60 ((hd) + (gHarm s (nI (l0)) (nI (w + u)) (nI (i)) (rich)))), Rx R, N, G)) rfl ?_
          refine XP_call rfl (rfl) (m_grow hS5 hW _ _) ?_
          rintro v6 M6 ⟨rfl, I6, rfl, hO6⟩
          have hS6 : St s I6 := St_only hS5 hO6 (by decide +kernel)
          have hn6 : Only [125, 126, 127, 128, 129, 130] I0 I6 := Only.c hn5 hO6 (by simp)
          refine XP_n 5 (pc' := 119) (ls' := [.ref (99), .int (nI (kd)), .int (mu), .int (by_), .int (cl), .int (r), .int (nI (p)), .int (nI (w + u)), .int (gGrow s (rich) (nI (i))), .int (nI (0)), .int (nI (i)), .int (nI (l0)), .int (nI (u))]) (st' := [.int (nI (w + u)), .int (nI (i)), .ref (127)]) (M' := (I6, (rw2 (rw2 J 99 59 ((pd) + ((gCost s (s 99 3) (nI (u)) (nI (w)) (nI (i)) (rich)).toInt64))) 99 60 ((hd) + (gHarm s (nI (l0)) (nI (w + u)) (nI (i)) (rich)))), Rx R, N, G)) rfl ?_
          refine XP_iast rfl rfl (show i < 17 by omega) rfl (by omega) ?_
          refine XP_n 4 (pc' := 124) (ls' := [.ref (99), .int (nI (kd)), .int (mu), .int (by_), .int (cl), .int (r), .int (nI (p)), .int (nI (w + u)), .int (gGrow s (rich) (nI (i))), .int (nI (0)), .int (nI (i)), .int (nI (l0)), .int (nI (u))]) (st' := [.int (nI (0)), .int (nI (i)), .ref (130)]) (M' := ((rw2 I6 127 i (nI (w + u))), (rw2 (rw2 J 99 59 ((pd) + ((gCost s (s 99 3) (nI (u)) (nI (w)) (nI (i)) (rich)).toInt64))) 99 60 ((hd) + (gHarm s (nI (l0)) (nI (w + u)) (nI (i)) (rich)))), Rx R, N, G)) rfl ?_
          refine XP_bast rfl rfl (show i < 17 by omega) rfl (by omega) (rfl) ?_
          refine XP_n 1 (pc' := 126) (ls' := [.ref (99), .int (nI (kd)), .int (mu), .int (by_), .int (cl), .int (r), .int (nI (p)), .int (nI (w + u)), .int (gGrow s (rich) (nI (i))), .int (nI (0)), .int (nI (i) + nI (1)), .int (nI (l0)), .int (nI (u))]) (st' := []) (M' := ((rw2 (rw2 I6 127 i (nI (w + u))) 130 i (nI (0))), (rw2 (rw2 J 99 59 ((pd) + ((gCost s (s 99 3) (nI (u)) (nI (w)) (nI (i)) (rich)).toInt64))) 99 60 ((hd) + (gHarm s (nI (l0)) (nI (w + u)) (nI (i)) (rich)))), Rx R, N, G)) rfl ?_
          rw [show nI (i) + nI (1) = nI (i + 1) from nI_addE (rfl) rfl]
          refine XP_n 1 (pc' := 16) (ls' := [.ref (99), .int (nI (kd)), .int (mu), .int (by_), .int (cl), .int (r), .int (nI (p)), .int (nI (w + u)), .int (gGrow s (rich) (nI (i))), .int (nI (0)), .int (nI (i + 1)), .int (nI (l0)), .int (nI (u))]) (st' := []) (M' := ((rw2 (rw2 I6 127 i (nI (w + u))) 130 i (nI (0))), (rw2 (rw2 J 99 59 ((pd) + ((gCost s (s 99 3) (nI (u)) (nI (w)) (nI (i)) (rich)).toInt64))) 99 60 ((hd) + (gHarm s (nI (l0)) (nI (w + u)) (nI (i)) (rich)))), Rx R, N, G)) rfl ?_
          have g : ∀ k j, 127 ≤ k → I6 k j = (if k = 128 ∧ j = i then nI u else if k = 129 ∧ j = i then rich else I k j) := by
            intro k j hk
            rw [hO6 k (by simp; omega), hO5 k (by simp; omega), eI4]
            simp only [rw2]
            rw [hO3 k (by simp; omega), e3]
            simp only [rw2]
            by_cases h1 : k = 128 <;> by_cases h2 : j = i <;> by_cases h3 : k = 129 <;> simp_all
          refine ih (i + 1) (w + u) (gGrow s rich (nI i)) false _ _ _ _ _ _ (by omega) (Only.w (Only.w hn6 (by simp)) (by simp)) (OnlyJ.w (OnlyJ.w hOJ (by simp)) (by simp)) ?_ hq1 ?_ ?_
          · refine gRows_up hRw (by rintro k (rfl | rfl | rfl | rfl) j hj <;> simp [rw2, hj, g]) (by rw [hq1]; simp [rw2]) (by unfold gU; rw [hq1, hq]; simp [rw2, g, ← hl0, hu]) (by rw [hq]; simp [rw2, g]) (by rw [hq1]; simp [rw2])
          · simp [rw2]
          · simp [rw2]
        refine XP_n 2 (pc' := 18) (ls' := [.ref (99), .int (nI (kd)), .int (mu), .int (by_), .int (cl), .int (r), .int (nI (p)), .int (nI (w)), .int (rich), .int (nI (0)), .int (nI (i)), w11, w12]) (st' := [.ref (99), .int (nI (i))]) (M' := (I, J, Rx R, N, G)) rfl ?_
        refine XP_geti hS rfl rfl rfl ?_
        rw [hW.y.1]
        refine XP_icN (x := i) (y := cY s) rfl (by omega) (by omega) (fun (b19 : cY s ≤ i) => absurd b19 (by omega)) (fun (b19 : i < cY s) => ?_)
        refine XP_n 3 (pc' := 23) (ls' := [.ref (99), .int (nI (kd)), .int (mu), .int (by_), .int (cl), .int (r), .int (nI (p)), .int (nI (w)), .int (rich), .int (nI (0)), .int (nI (i)), w11, w12]) (st' := [.int (nI (i)), .int (nI (p)), .ref (99)]) (M' := (I, J, Rx R, N, G)) rfl ?_
        refine XP_pure rfl rfl (m_lv hS hW hp (by omega)) ?_
        rw [← hl0]
        refine XP_n 5 (pc' := 29) (ls' := [.ref (99), .int (nI (kd)), .int (mu), .int (by_), .int (cl), .int (r), .int (nI (p)), .int (nI (w)), .int (rich), .int (nI (0)), .int (nI (i)), .int (nI (l0)), w12]) (st' := [.int (rich), .int (nI (i)), .ref (129)]) (M' := (I, J, Rx R, N, G)) rfl ?_
        refine XP_iast rfl rfl (show i < 17 by omega) rfl (by omega) ?_
        refine XP_n 4 (pc' := 34) (ls' := [.ref (99), .int (nI (kd)), .int (mu), .int (by_), .int (cl), .int (r), .int (nI (p)), .int (nI (w)), .int (rich), .int (nI (0)), .int (nI (i)), .int (nI (l0)), w12]) (st' := [.int (nI (0)), .int (nI (i)), .ref (128)]) (M' := ((rw2 I 129 i (rich)), J, Rx R, N, G)) rfl ?_
        refine XP_iast rfl rfl (show i < 17 by omega) rfl (by omega) ?_
        refine XP_n 1 (pc' := 36) (ls' := [.ref (99), .int (nI (kd)), .int (mu), .int (by_), .int (cl), .int (r), .int (nI (p)), .int (nI (w)), .int (rich), .int (nI (0)), .int (nI (i)), .int (nI (l0)), w12]) (st' := [.int (nI (0))]) (M' := ((rw2 (rw2 I 129 i (rich)) 128 i (nI (0))), J, Rx R, N, G)) rfl ?_
        refine XP_ifN (x := 0)  rfl (by omega) (fun (b36 : ¬ 0 = 0) => absurd b36 (by omega)) (fun (b36 : 0 = 0) => ?_)
        refine XP_n 2 (pc' := 39) (ls' := [.ref (99), .int (nI (kd)), .int (mu), .int (by_), .int (cl), .int (r), .int (nI (p)), .int (nI (w)), .int (rich), .int (nI (0)), .int (nI (i)), .int (nI (l0)), w12]) (st' := [.int (nI (5)), .int (nI (kd))]) (M' := ((rw2 (rw2 I 129 i (rich)) 128 i (nI (0))), J, Rx R, N, G)) rfl ?_
        refine XP_icN (x := kd) (y := 5) rfl (by omega) (by omega) (fun (b39 : ¬ kd = 5) => ?_) (fun (b39 : kd = 5) => ?_)
        · refine XP_n 1 (pc' := 55) (ls' := [.ref (99), .int (nI (kd)), .int (mu), .int (by_), .int (cl), .int (r), .int (nI (p)), .int (nI (w)), .int (rich), .int (nI (0)), .int (nI (i)), .int (nI (l0)), w12]) (st' := [.int (nI (0))]) (M' := ((rw2 (rw2 I 129 i (rich)) 128 i (nI (0))), J, Rx R, N, G)) rfl ?_
          refine XP_ifN (x := 0)  rfl (by omega) (fun (b55 : ¬ 0 = 0) => absurd b55 (by omega)) (fun (b55 : 0 = 0) => ?_)
          refine XP_n 9 (pc' := 65) (ls' := [.ref (99), .int (nI (kd)), .int (mu), .int (by_), .int (cl), .int (r), .int (nI (p)), .int (nI (w)), .int (rich), .int (nI (0)), .int (nI (i)), .int (nI (l0)), w12]) (st' := [.int (r), .int (nI (w)), .int (nI (l0)), .int (nI (i)), .int (cl), .int (by_), .int (mu), .int (nI (kd)), .ref (99)]) (M' := ((rw2 (rw2 I 129 i (rich)) 128 i (nI (0))), J, Rx R, N, G)) rfl ?_
          obtain ⟨I1, eI1⟩ : ∃ z, z = (rw2 (rw2 I 129 i (rich)) 128 i (nI (0))) := ⟨_, rfl⟩
          rw [← eI1]
          have hS1 : St s I1 := by rw [eI1]; exact (St_rwp (St_rwp hS rfl) rfl)
          have hn1 : Only [125, 126, 127, 128, 129, 130] I0 I1 := by rw [eI1]; exact (Only.w (Only.w hO (by simp)) (by simp))
          refine XP_pure rfl rfl (hRa _ _ hS1 l0 w i (by omega) (by omega) (by omega)) ?_
          rw [← hu0]
          refine XP_n 5 (pc' := 71) (ls' := [.ref (99), .int (nI (kd)), .int (mu), .int (by_), .int (cl), .int (r), .int (nI (p)), .int (nI (w)), .int (rich), .int (nI (0)), .int (nI (i)), .int (nI (l0)), .int (nI (u0))]) (st' := [.int ((nI (99)) - (nI (w))), .int (nI (u0))]) (M' := (I1, J, Rx R, N, G)) rfl ?_
          rw [show (nI (99)) - (nI (w)) = nI (99 - w) from nI_subE (rfl) (rfl) (by omega)]
          refine XP_icN (x := u0) (y := 99 - w) rfl (by omega) (by omega) (fun (b71 : u0 ≤ 99 - w) => ?_) (fun (b71 : 99 - w < u0) => ?_)
          · refine XP_n 1 (pc' := 77) (ls' := [.ref (99), .int (nI (kd)), .int (mu), .int (by_), .int (cl), .int (r), .int (nI (p)), .int (nI (w)), .int (rich), .int (nI (0)), .int (nI (i)), .int (nI (l0)), .int (nI (u0))]) (st' := [.int (nI (u0))]) (M' := (I1, J, Rx R, N, G)) rfl ?_
            exact kk _ _ eI1 hS1 hn1 (by unfold gUp; rw [← hu0, if_pos (by omega)])
          · refine XP_n 4 (pc' := 77) (ls' := [.ref (99), .int (nI (kd)), .int (mu), .int (by_), .int (cl), .int (r), .int (nI (p)), .int (nI (w)), .int (rich), .int (nI (0)), .int (nI (i)), .int (nI (l0)), .int (nI (u0))]) (st' := [.int ((nI (99)) - (nI (w)))]) (M' := (I1, J, Rx R, N, G)) rfl ?_
            rw [show (nI (99)) - (nI (w)) = nI (99 - w) from nI_subE (rfl) (rfl) (by omega)]
            exact kk _ _ eI1 hS1 hn1 (by unfold gUp; rw [← hu0, if_neg (by omega)])
        · refine XP_n 2 (pc' := 42) (ls' := [.ref (99), .int (nI (kd)), .int (mu), .int (by_), .int (cl), .int (r), .int (nI (p)), .int (nI (w)), .int (rich), .int (nI (0)), .int (nI (i)), .int (nI (l0)), w12]) (st' := [.int (nI (w)), .int (nI (l0))]) (M' := ((rw2 (rw2 I 129 i (rich)) 128 i (nI (0))), J, Rx R, N, G)) rfl ?_
          refine XP_icN (x := l0) (y := w) rfl (by omega) (by omega) (fun (b42 : l0 < w) => ?_) (fun (b42 : w ≤ l0) => absurd ⟨decide_eq_true b39, b42⟩ hc)
          refine XP_n 1 (pc' := 55) (ls' := [.ref (99), .int (nI (kd)), .int (mu), .int (by_), .int (cl), .int (r), .int (nI (p)), .int (nI (w)), .int (rich), .int (nI (0)), .int (nI (i)), .int (nI (l0)), w12]) (st' := [.int (nI (0))]) (M' := ((rw2 (rw2 I 129 i (rich)) 128 i (nI (0))), J, Rx R, N, G)) rfl ?_
          refine XP_ifN (x := 0)  rfl (by omega) (fun (b55 : ¬ 0 = 0) => absurd b55 (by omega)) (fun (b55 : 0 = 0) => ?_)
          refine XP_n 9 (pc' := 65) (ls' := [.ref (99), .int (nI (kd)), .int (mu), .int (by_), .int (cl), .int (r), .int (nI (p)), .int (nI (w)), .int (rich), .int (nI (0)), .int (nI (i)), .int (nI (l0)), w12]) (st' := [.int (r), .int (nI (w)), .int (nI (l0)), .int (nI (i)), .int (cl), .int (by_), .int (mu), .int (nI (kd)), .ref (99)]) (M' := ((rw2 (rw2 I 129 i (rich)) 128 i (nI (0))), J, Rx R, N, G)) rfl ?_
          obtain ⟨I2, eI2⟩ : ∃ z, z = (rw2 (rw2 I 129 i (rich)) 128 i (nI (0))) := ⟨_, rfl⟩
          rw [← eI2]
          have hS2 : St s I2 := by rw [eI2]; exact (St_rwp (St_rwp hS rfl) rfl)
          have hn2 : Only [125, 126, 127, 128, 129, 130] I0 I2 := by rw [eI2]; exact (Only.w (Only.w hO (by simp)) (by simp))
          refine XP_pure rfl rfl (hRa _ _ hS2 l0 w i (by omega) (by omega) (by omega)) ?_
          rw [← hu0]
          refine XP_n 5 (pc' := 71) (ls' := [.ref (99), .int (nI (kd)), .int (mu), .int (by_), .int (cl), .int (r), .int (nI (p)), .int (nI (w)), .int (rich), .int (nI (0)), .int (nI (i)), .int (nI (l0)), .int (nI (u0))]) (st' := [.int ((nI (99)) - (nI (w))), .int (nI (u0))]) (M' := (I2, J, Rx R, N, G)) rfl ?_
          rw [show (nI (99)) - (nI (w)) = nI (99 - w) from nI_subE (rfl) (rfl) (by omega)]
          refine XP_icN (x := u0) (y := 99 - w) rfl (by omega) (by omega) (fun (b71 : u0 ≤ 99 - w) => ?_) (fun (b71 : 99 - w < u0) => ?_)
          · refine XP_n 1 (pc' := 77) (ls' := [.ref (99), .int (nI (kd)), .int (mu), .int (by_), .int (cl), .int (r), .int (nI (p)), .int (nI (w)), .int (rich), .int (nI (0)), .int (nI (i)), .int (nI (l0)), .int (nI (u0))]) (st' := [.int (nI (u0))]) (M' := (I2, J, Rx R, N, G)) rfl ?_
            exact kk _ _ eI2 hS2 hn2 (by unfold gUp; rw [← hu0, if_pos (by omega)])
          · refine XP_n 4 (pc' := 77) (ls' := [.ref (99), .int (nI (kd)), .int (mu), .int (by_), .int (cl), .int (r), .int (nI (p)), .int (nI (w)), .int (rich), .int (nI (0)), .int (nI (i)), .int (nI (l0)), .int (nI (u0))]) (st' := [.int ((nI (99)) - (nI (w)))]) (M' := (I2, J, Rx R, N, G)) rfl ?_
            rw [show (nI (99)) - (nI (w)) = nI (99 - w) from nI_subE (rfl) (rfl) (by omega)]
            exact kk _ _ eI2 hS2 hn2 (by unfold gUp; rw [← hu0, if_neg (by omega)])
theorem t_M_goes (X : hX) (d : Nat) {s I0 : Nat → Nat → Int32} {J0 : Nat → Nat → Int64} {R : Nat → Nat → Option Nat} {N : Nat → Nat} {G : hG} (hS0 : St s I0) (hW : Wf s) {kd p : Nat} (mu by_ cl r : Int32) {nR : Nat → Nat → Nat → Nat} (k6 : kd < 6) (hp : p < cP s) (hR : ∀ l w y, nR l w y ≤ 1000)
    (hRa : ∀ (I : Nat → Nat → Int32) (J : Nat → Nat → Int64), St s I → ∀ l w y, y < 16 → l ≤ 150 → w ≤ 99 → TP X (d + 2) n_M_raises [.ref 99, .int (nI kd), .int mu, .int by_, .int cl, .int (nI y), .int (nI l), .int (nI w), .int r] (I, J, Rx R, N, G) (Ret (.int (nI (nR l w y))) (I, J, Rx R, N, G))) :
    TP X (d + 3) n_M_goes [.ref 99, .int (nI kd), .int mu, .int by_, .int cl, .int r, .int (nI p)] (I0, J0, Rx R, N, G) (fun v M' => v = none ∧ ∃ I' J', M' = (I', J', Rx R, N, G) ∧ Only [125, 126, 127, 128, 129, 130] I0 I' ∧ OnlyJ [99] J0 J' ∧ gRows s (decide (kd = 5)) nR p (cY s) 127 128 129 130 I' ∧ J' 99 59 = (gS s (decide (kd = 5)) nR p (cY s)).2.2.2.1 ∧ J' 99 60 = (gS s (decide (kd = 5)) nR p (cY s)).2.2.2.2) := by
  unfold TP
  show XP X _ k_M_goes 0 [.ref (99), .int (nI (kd)), .int (mu), .int (by_), .int (cl), .int (r), .int (nI (p)), xj, xj, xj, xj, xj, xj] [] _ _
  refine XP_n 1 (pc' := 1) (ls' := [.ref (99), .int (nI (kd)), .int (mu), .int (by_), .int (cl), .int (r), .int (nI (p)), xj, xj, xj, xj, xj, xj]) (st' := [.ref (99)]) (M' := (I0, J0, Rx R, N, G)) rfl ?_
  refine XP_geti hS0 rfl rfl rfl ?_
  rw [hW.w.1]
  refine XP_n 2 (pc' := 4) (ls' := [.ref (99), .int (nI (kd)), .int (mu), .int (by_), .int (cl), .int (r), .int (nI (p)), .int (nI (cW s)), xj, xj, xj, xj, xj]) (st' := [.ref (99)]) (M' := (I0, J0, Rx R, N, G)) rfl ?_
  refine XP_geti hS0 rfl rfl rfl ?_
  refine XP_n 11 (pc' := 16) (ls' := [.ref (99), .int (nI (kd)), .int (mu), .int (by_), .int (cl), .int (r), .int (nI (p)), .int (nI (cW s)), .int (s 99 2), .int (nI (0)), .int (nI (0)), xj, xj]) (st' := []) (M' := (I0, (rw2 (rw2 J0 99 59 (lN (0))) 99 60 (lN (0))), Rx R, N, G)) rfl ?_
  exact l_M_goes X d hS0 hW mu by_ cl r k6 hp hR hRa (cY s) 0 (cW s) (s 99 2) false _ _ _ _ _ _ (by omega) Only.rf (OnlyJ.w (OnlyJ.w OnlyJ.rf (by simp)) (by simp)) (fun y hy => absurd hy (Nat.not_lt_zero y)) rfl (by simp [rw2]) (by simp [rw2])
