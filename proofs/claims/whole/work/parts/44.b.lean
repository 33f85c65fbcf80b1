/-! a rule on a path, year by year -/
abbrev gT : Type := Nat × Int32 × Bool × Int64 × Int64
def gUp (nR : Nat → Nat → Nat → Nat) (l w y : Nat) : Nat := if nR l w y ≤ 99 - w then nR l w y else 99 - w
/-- one year -/
def gN (s : Nat → Nat → Int32) (k5 : Bool) (nR : Nat → Nat → Nat → Nat) (p y : Nat) (q : gT) : gT :=
  if q.2.2.1 = true then q
  else if k5 = true ∧ q.1 ≤ nLv s p y then (q.1, nI 0, true, q.2.2.2.1 + q.2.1.toInt64, q.2.2.2.2)
  else (q.1 + gUp nR (nLv s p y) q.1 y, gGrow s q.2.1 (nI y), false, q.2.2.2.1 + (gCost s (s 99 3) (nI (gUp nR (nLv s p y) q.1 y)) (nI q.1) (nI y) q.2.1).toInt64, q.2.2.2.2 + gHarm s (nI (nLv s p y)) (nI (q.1 + gUp nR (nLv s p y) q.1 y)) (nI y) q.2.1)
def gS (s : Nat → Nat → Int32) (k5 : Bool) (nR : Nat → Nat → Nat → Nat) (p : Nat) : Nat → gT
  | 0 => (cW s, s 99 2, false, lN 0, lN 0)
  | y + 1 => gN s k5 nR p y (gS s k5 nR p y)
/-- by how much it was raised -/
def gU (s : Nat → Nat → Int32) (k5 : Bool) (nR : Nat → Nat → Nat → Nat) (p y : Nat) : Nat :=
  if (gS s k5 nR p (y + 1)).2.2.1 = true then 0 else gUp nR (nLv s p y) (gS s k5 nR p y).1 y
theorem gUp_le (nR : Nat → Nat → Nat → Nat) (l w y : Nat) : gUp nR l w y ≤ 99 - w := by
  unfold gUp
  split <;> omega
theorem gS_w {s : Nat → Nat → Int32} (hW : Wf s) (k5 : Bool) (nR : Nat → Nat → Nat → Nat) (p : Nat) : ∀ y, (gS s k5 nR p y).1 ≤ 99
  | 0 => by have := hW.w.2; show cW s ≤ 99; omega
  | y + 1 => by
    have ih := gS_w hW k5 nR p y
    unfold gS gN
    split
    · exact ih
    · split
      · exact ih
      · have := gUp_le nR (nLv s p y) (gS s k5 nR p y).1 y
        show _ + _ ≤ 99
        omega
/-- what the rows of a run hold -/
def gRows (s : Nat → Nat → Int32) (k5 : Bool) (nR : Nat → Nat → Nat → Nat) (p n wr ur rr lr : Nat) (I : Nat → Nat → Int32) : Prop := ∀ y, y < n → I wr y = nI (gS s k5 nR p (y + 1)).1 ∧ I ur y = nI (gU s k5 nR p y) ∧ I rr y = (gS s k5 nR p y).2.1 ∧ I lr y = nI (gS s k5 nR p (y + 1)).2.2.1.toNat
theorem gRows_up {s : Nat → Nat → Int32} {k5 : Bool} {nR : Nat → Nat → Nat → Nat} {p n wr ur rr lr : Nat} {I I' : Nat → Nat → Int32} (h : gRows s k5 nR p n wr ur rr lr I) (ho : ∀ k, k = wr ∨ k = ur ∨ k = rr ∨ k = lr → ∀ j, ¬ j = n → I' k j = I k j) (h1 : I' wr n = nI (gS s k5 nR p (n + 1)).1) (h2 : I' ur n = nI (gU s k5 nR p n)) (h3 : I' rr n = (gS s k5 nR p n).2.1) (h4 : I' lr n = nI (gS s k5 nR p (n + 1)).2.2.1.toNat) : gRows s k5 nR p (n + 1) wr ur rr lr I' := by
  intro y hy
  by_cases e : y = n
  · subst e
    exact ⟨h1, h2, h3, h4⟩
  · obtain ⟨a, b, c, d⟩ := h y (by omega)
    refine ⟨(ho _ (by simp) y e).trans a, (ho _ (by simp) y e).trans b, (ho _ (by simp) y e).trans c, (ho _ (by simp) y e).trans d⟩
theorem gS_1 {s : Nat → Nat → Int32} {k5 : Bool} {nR : Nat → Nat → Nat → Nat} {p y : Nat} {q : gT} (h : gS s k5 nR p y = q) : gS s k5 nR p (y + 1) = gN s k5 nR p y q := by rw [gS, h]
theorem nI_gUp {nR : Nat → Nat → Nat → Nat} {l w y u : Nat} (h1 : nR l w y = u) (h2 : u ≤ 1000) : (if nI (99 - w) < nI u then nI (99 - w) else nI u) = nI (gUp nR l w y) := by
  unfold gUp
  rw [h1]
  by_cases h : 99 - w < u
  · rw [if_pos ((nI_ltI (by omega) (by omega)).mpr h), if_neg (by omega)]
  · rw [if_neg (fun z => h ((nI_ltI (by omega) (by omega)).mp z)), if_pos (by omega)]
theorem l_M_goes (X : hX) (d : Nat) {s I0 : Nat → Nat → Int32} {J0 : Nat → Nat → Int64} {R : Nat → Nat → Option Nat} {N : Nat → Nat} {G : hG} (hS0 : St s I0) (hW : Wf s) {kd p : Nat} (mu by_ cl r : Int32) {nR : Nat → Nat → Nat → Nat} (k6 : kd < 6) (hp : p < cP s) (hR : ∀ l w y, nR l w y ≤ 1000)
    (hRa : ∀ (I : Nat → Nat → Int32) (J : Nat → Nat → Int64), St s I → ∀ l w y, y < 16 → l ≤ 150 → w ≤ 99 → TP X (d + 2) n_M_raises [.ref 99, .int (nI kd), .int mu, .int by_, .int cl, .int (nI y), .int (nI l), .int (nI w), .int r] (I, J, Rx R, N, G) (Ret (.int (nI (nR l w y))) (I, J, Rx R, N, G))) :
    ∀ (n i w : Nat) (rich : Int32) (lf : Bool) (pd hd : Int64) (I : Nat → Nat → Int32) (J : Nat → Nat → Int64) (w11 w12 : Value), i + n = cY s → Only [125, 126, 127, 128, 129, 130] I0 I → OnlyJ [99] J0 J → gRows s (decide (kd = 5)) nR p i 127 128 129 130 I → gS s (decide (kd = 5)) nR p i = (w, rich, lf, pd, hd) → J 99 59 = pd → J 99 60 = hd →
      XP X (d + 3) k_M_goes 16 [.ref 99, .int (nI kd), .int mu, .int by_, .int cl, .int r, .int (nI p), .int (nI w), .int rich, .int (nI lf.toNat), .int (nI i), w11, w12] [] (I, J, Rx R, N, G) (fun v M' => v = none ∧ ∃ I' J', M' = (I', J', Rx R, N, G) ∧ Only [125, 126, 127, 128, 129, 130] I0 I' ∧ OnlyJ [99] J0 J' ∧ gRows s (decide (kd = 5)) nR p (cY s) 127 128 129 130 I' ∧ J' 99 59 = (gS s (decide (kd = 5)) nR p (cY s)).2.2.2.1 ∧ J' 99 60 = (gS s (decide (kd = 5)) nR p (cY s)).2.2.2.2) := by
  have hy16 := hW.y.2.2
  intro n
  induction n with
  | zero =>
    rintro i w rich lf pd hd I J w11 w12 hi hO hOJ hRw hq hJ1 hJ2
    have hS : St s I := St_only hS0 hO (by decide +kernel)
    obtain rfl : i = cY s := by omega
    refine XP_n 2 (pc' := 18) (ls' := [.ref (99), .int (nI (kd)), .int (mu), .int (by_), .int (cl), .int (r), .int (nI (p)), .int (nI (w)), .int (rich), .int (nI (lf.toNat)), .int (nI (i)), w11, w12]) (st' := [.ref (99), .int (nI (i))]) (M' := (I, J, Rx R, N, G)) rfl ?_
    refine XP_geti hS rfl rfl rfl ?_
    rw [hW.y.1]
    refine XP_icN (x := i) (y := cY s) rfl (by omega) (by omega) (fun (b19 : cY s ≤ i) => ?_) (fun (b19 : i < cY s) => absurd b19 (by omega))
    exact XP_ret rfl ⟨rfl, I, J, rfl, hO, hOJ, hRw, by rw [hq, hJ1], by rw [hq, hJ2]⟩
  | succ n ih =>
    rintro i w rich lf pd hd I J w11 w12 hi hO hOJ hRw hq hJ1 hJ2
    have hS : St s I := St_only hS0 hO (by decide +kernel)
    have hq1 := gS_1 hq
    have hw99 : w ≤ 99 := by have := gS_w hW (decide (kd = 5)) nR p i; rw [hq] at this; exact this
    have hl150 := (nLv_ok hW hp (show i ≤ 15 by omega)).2
    unfold gN at hq1
    obtain ⟨l0, hl0⟩ : ∃ z, z = nLv s p i := ⟨_, rfl⟩
    rw [← hl0] at hl150
    simp only [← hl0] at hq1
    cases lf with
    | true =>
      simp only [if_true] at hq1
      sorry
    | false =>
      simp only [Bool.false_eq_true, if_false] at hq1
      by_cases hc : (decide (kd = 5)) = true ∧ w ≤ l0
      · rw [if_pos hc] at hq1
        obtain ⟨hc1, hc2⟩ := hc
        have hk5 := of_decide_eq_true hc1
        sorry
      · rw [if_neg hc] at hq1
        have hu1000 := hR l0 w i
        obtain ⟨u0, hu0⟩ : ∃ z, z = nR l0 w i := ⟨_, rfl⟩
        rw [← hu0] at hu1000
        have kk : ∀ (u : Nat) (I3 : Nat → Nat → Int32), I3 = rw2 (rw2 I 129 i rich) 128 i (nI 0) → St s I3 → Only [125, 126, 127, 128, 129, 130] I0 I3 → gUp nR l0 w i = u → XP X (d + 3) k_M_goes 77 [.ref 99, .int (nI kd), .int mu, .int by_, .int cl, .int r, .int (nI p), .int (nI w), .int rich, .int (nI 0), .int (nI i), .int (nI l0), .int (nI u0)] [.int (nI u)] (I3, J, Rx R, N, G) (fun v M' => v = none ∧ ∃ I' J', M' = (I', J', Rx R, N, G) ∧ Only [125, 126, 127, 128, 129, 130] I0 I' ∧ OnlyJ [99] J0 J' ∧ gRows s (decide (kd = 5)) nR p (cY s) 127 128 129 130 I' ∧ J' 99 59 = (gS s (decide (kd = 5)) nR p (cY s)).2.2.2.1 ∧ J' 99 60 = (gS s (decide (kd = 5)) nR p (cY s)).2.2.2.2) := by
          intro u I3 e3 hS3 hn3 hu
          have hu99 := gUp_le nR l0 w i
          rw [hu] at hq1 hu99
          sorry
        sorry
theorem t_M_goes (X : hX) (d : Nat) {s I0 : Nat → Nat → Int32} {J0 : Nat → Nat → Int64} {R : Nat → Nat → Option Nat} {N : Nat → Nat} {G : hG} (hS0 : St s I0) (hW : Wf s) {kd p : Nat} (mu by_ cl r : Int32) {nR : Nat → Nat → Nat → Nat} (k6 : kd < 6) (hp : p < cP s) (hR : ∀ l w y, nR l w y ≤ 1000)
    (hRa : ∀ (I : Nat → Nat → Int32) (J : Nat → Nat → Int64), St s I → ∀ l w y, y < 16 → l ≤ 150 → w ≤ 99 → TP X (d + 2) n_M_raises [.ref 99, .int (nI kd), .int mu, .int by_, .int cl, .int (nI y), .int (nI l), .int (nI w), .int r] (I, J, Rx R, N, G) (Ret (.int (nI (nR l w y))) (I, J, Rx R, N, G))) :
    TP X (d + 3) n_M_goes [.ref 99, .int (nI kd), .int mu, .int by_, .int cl, .int r, .int (nI p)] (I0, J0, Rx R, N, G) (fun v M' => v = none ∧ ∃ I' J', M' = (I', J', Rx R, N, G) ∧ Only [125, 126, 127, 128, 129, 130] I0 I' ∧ OnlyJ [99] J0 J' ∧ gRows s (decide (kd = 5)) nR p (cY s) 127 128 129 130 I' ∧ J' 99 59 = (gS s (decide (kd = 5)) nR p (cY s)).2.2.2.1 ∧ J' 99 60 = (gS s (decide (kd = 5)) nR p (cY s)).2.2.2.2) := by
  unfold TP
  show XP X _ k_M_goes 0 [.ref (99), .int (nI (kd)), .int (mu), .int (by_), .int (cl), .int (r), .int (nI (p)), xj, xj, xj, xj, xj, xj] [] _ _
  refine XP_n 1 (pc' := 1) (ls' := [.ref (99), .int (nI (kd)), .int (mu), .int (by_), .int (cl), .int (r), .int (nI (p)), xj, xj, xj, xj, xj, xj]) (st' := [.ref (99)]) (M' := (I0, J0, Rx R, N, G)) rfl ?_
  refine XP_geti hS0 rfl rfl rfl ?_
  rw [hW.w.1]
  refine XP_n 2 (pc' := 4) (ls' := [.ref (99), .int (nI (kd)), .int (mu), .int (by_), .int (cl), .int (r), .int (nI (p)), .int (nI (cW s)), xj, xj, xj, xj, xj]) (st' := [.ref (99)]) (M' := (I0, J0, Rx R, N, G)) rfl ?_
  refine XP_geti hS0 rfl rfl rfl ?_
  refine XP_n 11 (pc' := 16) (ls' := [.ref (99), .int (nI (kd)), .int (mu), .int (by_), .int (cl), .int (r), .int (nI (p)), .int (nI (cW s)), .int (s 99 2), .int (nI (0)), .int (nI (0)), xj, xj]) (st' := []) (M' := (I0, (rw2 (rw2 J0 99 59 (lN (0))) 99 60 (lN (0))), Rx R, N, G)) rfl ?_
  exact l_M_goes X d hS0 hW mu by_ cl r k6 hp hR hRa (cY s) 0 (cW s) (s 99 2) false _ _ _ _ _ _ (by omega) Only.rf (OnlyJ.w (OnlyJ.w OnlyJ.rf (by simp)) (by simp)) (fun y hy => absurd hy (Nat.not_lt_zero y)) rfl (by simp [rw2]) (by simp [rw2])
