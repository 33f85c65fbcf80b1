/-! what a part of an expression comes to, told by the model's reading -/
section
variable {b : Nat → Nat} {L : Nat}
/-- read from p on, with h held and u put out: u' put out, at p', but for what r would unwind -/
def Ok0 (b : Nat → Nat) (L : Nat) (r : Nat) (h u : List Nat) (m : Bool) (p : Nat) (u' : List Nat) (p' : Nat) (h1 u1 : List Nat) : Prop :=
  ∃ em m1, u' = u ++ em ∧ wfe em ∧ em.length + p ≤ p' ∧ p' ≤ L ∧ Leads b L ((h, u), true, m, p) ((h1, u1), false, m1, p') ∧ unw r h1 u1 = unw r h u'
def NX (r t : Nat) : Prop := (r ≤ 6 → t ≠ 42) ∧ (r ≤ 5 → t ≠ 43 ∧ t ≠ 45) ∧ (r ≤ 2 → t ≠ 1010) ∧ (r ≤ 1 → t ≠ 1009)
def OkX (b : Nat → Nat) (L : Nat) (r : Nat) (h u : List Nat) (m : Bool) (p : Nat) (u' : List Nat) (p' : Nat) : Prop :=
  ∃ h1 u1, Ok0 b L r h u m p u' p' h1 u1 ∧ NX r (tk b L p') ∧ (r ≤ 3 → tk b L p' = 60 ∨ tk b L p' = 61 → lowB 4 (unw 5 h1 u1).1 = false)
theorem Ok0.down {r r' : Nat} {h u : List Nat} {m : Bool} {p : Nat} {u' : List Nat} {p' : Nat} {h1 u1 : List Nat} (hr : r' ≤ r) (k : Ok0 b L r h u m p u' p' h1 u1) : Ok0 b L r' h u m p u' p' h1 u1 := by
  obtain ⟨em, m1, a, c, d, e, f, g⟩ := k
  exact ⟨em, m1, a, c, d, e, f, unw_to hr g⟩
theorem Ok0.bnd {r : Nat} {h u : List Nat} {m : Bool} {p : Nat} {u' : List Nat} {p' : Nat} {h1 u1 : List Nat} (k : Ok0 b L r h u m p u' p' h1 u1) : p' ≤ L ∧ u'.length + p ≤ u.length + p' ∧ p ≤ p' := by
  obtain ⟨em, m1, a, c, d, e, f, g⟩ := k
  refine ⟨e, ?_, by omega⟩
  rw [a, List.length_append]
  omega
theorem ok_atom {h u : List Nat} {m : Bool} {p c : Nat} (hp : p ≤ L) (hs : stp b L ((h, u), true, m, p) = some (unw 7 h (u ++ [c]), false, m, nx b L p)) (hc : okc c) (hc2 : 100000 ≤ c ∨ c < 11) (ht : tk b L p ≠ 2001) : Ok0 b L 7 h u m p (u ++ [c]) (nx b L p) (unw 7 h (u ++ [c])).1 (unw 7 h (u ++ [c])).2 :=
  ⟨[c], m, rfl, wfe_1 hc hc2, by have := (tk_nx ht).1; show 1 + p ≤ _; omega, nx_L hp, Leads.one hs, unw_unw (Nat.le_refl 7) h _⟩
theorem ok_num {h u : List Nat} {m : Bool} {p : Nat} (hb : ∀ i, i < L → b i ≤ 255) (hp : p ≤ L) (ht : tk b L p = 2000) : Ok0 b L 7 h u m p (u ++ [100000 + tv b L p]) (nx b L p) (unw 7 h (u ++ [100000 + tv b L p])).1 (unw 7 h (u ++ [100000 + tv b L p])).2 := by
  have h1 := tv_lt hb hp ht
  refine ok_atom hp ?_ (Or.inl ⟨by omega, by omega⟩) (Or.inl (by omega)) (by omega)
  show stpW b L h u m p = _
  unfold stpW
  rw [if_pos ht]
theorem ok_name {h u : List Nat} {m : Bool} {p : Nat} (hp : p ≤ L) (h1 : 1000 ≤ tk b L p) (h2 : tk b L p < 1006) : Ok0 b L 7 h u m p (u ++ [tk b L p - 1000]) (nx b L p) (unw 7 h (u ++ [tk b L p - 1000])).1 (unw 7 h (u ++ [tk b L p - 1000])).2 := by
  refine ok_atom hp ?_ (Or.inr (Or.inl (by omega))) (Or.inr (by omega)) (by omega)
  show stpW b L h u m p = _
  unfold stpW
  rw [if_neg (by omega), if_pos ⟨h1, h2⟩]
/-- one sign in front -/
theorem stp_pre {h u : List Nat} {m : Bool} {p s : Nat} {m2 : Bool} (hc : cnt h ≠ 5) (hs : (tk b L p = 1011 ∧ m = true ∧ s = 13 ∧ m2 = true) ∨ (tk b L p = 45 ∧ s = 19 ∧ m2 = false) ∨ (tk b L p = 40 ∧ s = 0 ∧ m2 = true)) : stp b L ((h, u), true, m, p) = some ((s :: h, u), true, m2, nx b L p) := by
  show stpW b L h u m p = _
  unfold stpW
  rcases hs with ⟨h1, h2, h3, h4⟩ | ⟨h1, h2, h3⟩ | ⟨h1, h2, h3⟩
  · rw [if_neg (by omega), if_neg (by omega), if_pos ⟨h1, h2⟩, if_neg hc, h3, h2, h4]
  · rw [if_neg (by omega), if_neg (by omega), if_neg (by omega), if_pos h1, if_neg hc, h2, h3]
  · rw [if_neg (by omega), if_neg (by omega), if_neg (by omega), if_neg (by omega), if_pos h1, if_neg hc, h2, h3]
theorem ok_u {r s : Nat} {h u : List Nat} {m m2 : Bool} {p : Nat} {u' : List Nat} {p' : Nat} {h1 u1 : List Nat} (hp : p < nx b L p) (hst : stp b L ((h, u), true, m, p) = some ((s :: h, u), true, m2, nx b L p)) (hs : s = 13 ∨ s = 19) (hr : r ≤ rk s) (k : Ok0 b L r (s :: h) u m2 (nx b L p) u' p' h1 u1) : Ok0 b L r h u m p (u' ++ [s]) p' h1 u1 := by
  obtain ⟨em, m1, a, c, d, e, f, g⟩ := k
  refine ⟨em ++ [s], m1, by rw [a, List.append_assoc], wfe_u c hs, by rw [List.length_append]; show em.length + 1 + p ≤ p'; omega, e, Leads.s hst f, ?_⟩
  rw [g, unw_pop hr]
/-- in brackets -/
theorem ok_par {h u : List Nat} {m : Bool} {p : Nat} {u' : List Nat} {p' : Nat} {h1 u1 : List Nat} (hp : p < nx b L p) (hst : stp b L ((h, u), true, m, p) = some ((0 :: h, u), true, true, nx b L p)) (k : Ok0 b L 1 (0 :: h) u true (nx b L p) u' p' h1 u1) (ht : tk b L p' = 41) : Ok0 b L 7 h u m p u' (nx b L p') (unw 7 h u').1 (unw 7 h u').2 := by
  obtain ⟨em, m1, a, c, d, e, f, g⟩ := k
  have hx := (tk_nx (b := b) (L := L) (p := p') (by omega)).1
  have g : unw 1 h1 u1 = (0 :: h, u') := g
  refine ⟨em, m1, a, c, by omega, nx_L e, (Leads.s hst f).tr (Leads.one ?_), unw_unw (Nat.le_refl 7) h _⟩
  show stpN b L h1 u1 m1 p' = _
  unfold stpN
  rw [if_neg (by omega), if_pos ht, g]
/-- two with a sign between them -/
theorem ok_b {r r2 : Nat} {h u : List Nat} {m : Bool} {p : Nat} {u1 : List Nat} {p1 : Nat} {u2 : List Nat} {p2 : Nat} {ha ua hb2 ub : List Nat} (hlow : lowB r h = true) (hr : r ≤ r2) (k1 : Ok0 b L r h u m p u1 p1 ha ua) (hr1 : rk (sgn (tk b L p1)) = r) (hr4 : r = 6 ∨ r = 5 ∨ r = 2 ∨ r = 1)
    (k2 : Ok0 b L r2 (sgn (tk b L p1) :: h) u1 (Nat.ble (sgn (tk b L p1)) 12) (nx b L p1) u2 p2 hb2 ub) (ht : tk b L p1 ≠ 41 ∧ tk b L p1 ≠ 59 ∧ tk b L p1 ≠ 2001) (hsg : sgn (tk b L p1) = 11 ∨ sgn (tk b L p1) = 12 ∨ sgn (tk b L p1) = 14 ∨ sgn (tk b L p1) = 15 ∨ sgn (tk b L p1) = 16 ∨ sgn (tk b L p1) = 17 ∨ sgn (tk b L p1) = 18) : Ok0 b L r h u m p (u2 ++ [sgn (tk b L p1)]) p2 hb2 ub := by
  obtain ⟨em, m1, a, c, d, e, f, g⟩ := k1
  obtain ⟨em2, m2, a2, c2, d2, e2, f2, g2⟩ := k2
  rw [unw_low hlow] at g
  have hx := (tk_nx ht.2.2).1
  refine ⟨em ++ em2 ++ [sgn (tk b L p1)], m2, by rw [a2, a, List.append_assoc, List.append_assoc, List.append_assoc], wfe_b c c2 hsg, by rw [List.length_append, List.length_append]; show em.length + em2.length + 1 + p ≤ p2; omega, e2, (f.tr (Leads.one ?_)).tr f2, ?_⟩
  · show stpN b L ha ua m1 p1 = _
    unfold stpN
    rw [if_neg ht.2.1, if_neg ht.1, if_neg (by omega), if_neg (by omega), hr1, g]
  · rw [unw_to hr g2, unw_pop (by omega)]
/-- two compared -/
theorem ok_c {h u : List Nat} {m : Bool} {p : Nat} {u1 : List Nat} {p1 : Nat} {u2 : List Nat} {p2 : Nat} {ha ua hb2 ub : List Nat} (hlow : lowB 4 h = true) (k1 : Ok0 b L 5 h u m p u1 p1 ha ua) (ht : tk b L p1 = 60 ∨ tk b L p1 = 61)
    (k2 : Ok0 b L 5 (sgn (tk b L p1) :: h) u1 false (nx b L p1) u2 p2 hb2 ub) : Ok0 b L 3 h u m p (u2 ++ [sgn (tk b L p1)]) p2 hb2 ub ∧ lowB 4 (unw 5 hb2 ub).1 = false := by
  obtain ⟨em, m1, a, c, d, e, f, g⟩ := k1
  obtain ⟨em2, m2, a2, c2, d2, e2, f2, g2⟩ := k2
  have hl5 : lowB 5 h = true := by
    match h, hlow with
    | [], _ => rfl
    | s :: h, hlow =>
      have : rk s < 4 := Nat.le_of_ble_eq_true hlow
      exact Nat.ble_eq.mpr (by omega)
  rw [unw_low hl5] at g
  have hx := (tk_nx (b := b) (L := L) (p := p1) (by omega)).1
  have hs : sgn (tk b L p1) = 14 ∨ sgn (tk b L p1) = 15 := by
    rcases ht with ht | ht <;> rw [ht]
    · exact Or.inl rfl
    · exact Or.inr rfl
  have hr4 : rk (sgn (tk b L p1)) = 4 := by
    rcases hs with hs | hs <;> rw [hs] <;> rfl
  have hl : lowB 5 (sgn (tk b L p1) :: h) = true := Nat.ble_eq.mpr (by omega)
  have g3 := g2
  rw [unw_low hl] at g3
  refine ⟨⟨em ++ em2 ++ [sgn (tk b L p1)], m2, by rw [a2, a, List.append_assoc, List.append_assoc, List.append_assoc], wfe_b c c2 (by omega), by rw [List.length_append, List.length_append]; show em.length + em2.length + 1 + p ≤ p2; omega, e2, (f.tr (Leads.one ?_)).tr f2, ?_⟩, ?_⟩
  · show stpN b L ha ua m1 p1 = _
    unfold stpN
    rw [if_neg (by omega), if_neg (by omega), if_neg (by omega), if_pos hr4, g, if_pos hlow]
  · rw [unw_to (show 3 ≤ 5 by omega) g2, unw_pop (by omega)]
  · rw [g3]
    show Nat.blt (rk (sgn (tk b L p1))) 4 = false
    rw [hr4]
    rfl
/-! where it ends badly -/
theorem fail_one {h u : List Nat} {m : Bool} {p : Nat} (h1 : tk b L p ≠ 2000) (h2 : ¬ (1000 ≤ tk b L p ∧ tk b L p < 1006)) (h3 : cnt h = 5 ∨ (tk b L p ≠ 45 ∧ tk b L p ≠ 40 ∧ (tk b L p ≠ 1011 ∨ m = false))) : FailAt b L ((h, u), true, m, p) p := by
  refine ⟨_, Leads.rf, rfl, ?_, fun z => by cases z.1⟩
  show stpW b L h u m p = _
  unfold stpW
  rw [if_neg h1, if_neg h2]
  rcases h3 with h3 | ⟨h3, h4, h5⟩
  · rw [if_pos h3, if_pos h3, if_pos h3]
    split
    · rfl
    · split
      · rfl
      · split <;> rfl
  · rw [if_neg (fun z => by rcases h5 with h5 | h5; · exact h5 z.1
                            · rw [h5] at z; cases z.2), if_neg h3, if_neg h4]
/-- a token that can't stand behind an expression -/
theorem fail_nx {h1 u1 : List Nat} {m1 : Bool} {p : Nat} (hn : NX 1 (tk b L p)) (hc : tk b L p = 60 ∨ tk b L p = 61 → lowB 4 (unw 5 h1 u1).1 = false) (h59 : tk b L p = 59 → (unw 1 h1 u1).1 ≠ []) (h41 : tk b L p = 41 → (unw 1 h1 u1).1 = []) : FailAt b L ((h1, u1), false, m1, p) p := by
  refine ⟨_, Leads.rf, rfl, ?_, fun z => h59 z.2.1 z.2.2⟩
  show stpN b L h1 u1 m1 p = _
  unfold stpN
  split
  · rfl
  · rename_i g59
    split
    · rename_i g41
      rw [h41 g41]
    · split
      · rfl
      · rename_i gs
        have hs : tk b L p = 60 ∨ tk b L p = 61 := by
          obtain ⟨n1, n2, n3, n4⟩ := hn
          have n1 := n1 (by omega)
          have n2 := n2 (by omega)
          have n3 := n3 (by omega)
          have n4 := n4 (by omega)
          unfold sgn at gs
          rw [if_neg n4, if_neg n3] at gs
          by_cases g1 : tk b L p = 60
          · exact Or.inl g1
          · by_cases g2 : tk b L p = 61
            · exact Or.inr g2
            · rw [if_neg g1, if_neg g2, if_neg n2.1, if_neg n2.2, if_neg n1] at gs
              exact absurd rfl gs
        have hr : rk (sgn (tk b L p)) = 4 := by
          rcases hs with hs | hs <;> rw [hs] <;> rfl
        rw [if_pos hr, hc hs]
        rfl
/-- brackets that aren't closed -/
theorem fail_par {h u : List Nat} {m : Bool} {p : Nat} {u' : List Nat} {p' : Nat} (hst : stp b L ((h, u), true, m, p) = some ((0 :: h, u), true, true, nx b L p)) (k : OkX b L 1 (0 :: h) u true (nx b L p) u' p') (ht : tk b L p' ≠ 41) : FailAt b L ((h, u), true, m, p) p' := by
  obtain ⟨h1, u1, ⟨em, m1, a, c, d, e, f, g⟩, hn, hc⟩ := k
  have g : unw 1 h1 u1 = (0 :: h, u') := g
  exact (fail_nx hn (hc (by omega)) (fun _ => by rw [g]; exact List.cons_ne_nil _ _) (fun z => absurd z ht)).l (Leads.s hst f)
/-- a text's part that isn't ended -/
theorem fail_top {u : List Nat} {p : Nat} {u' : List Nat} {p' : Nat} (k : OkX b L 1 [] u true p u' p') (ht : tk b L p' ≠ 59) : FailAt b L (([], u), true, true, p) p' := by
  obtain ⟨h1, u1, ⟨em, m1, a, c, d, e, f, g⟩, hn, hc⟩ := k
  have g : unw 1 h1 u1 = ([], u') := g
  exact (fail_nx hn (hc (by omega)) (fun z => absurd z ht) (fun _ => by rw [g])).l f
theorem acc_top {u : List Nat} {p : Nat} {u' : List Nat} {p' : Nat} (k : OkX b L 1 [] u true p u' p') (ht : tk b L p' = 59) : ∃ S', Leads b L (([], u), true, true, p) S' ∧ S'.2.2.2 = p' ∧ Acc b L S' ∧ S'.2.1 = false ∧ unw 1 S'.1.1 S'.1.2 = ([], u') := by
  obtain ⟨h1, u1, ⟨em, m1, a, c, d, e, f, g⟩, hn, hc⟩ := k
  have g : unw 1 h1 u1 = ([], u') := g
  exact ⟨_, f, rfl, ⟨rfl, ht, by show (unw 1 h1 u1).1 = []; rw [g]⟩, rfl, g⟩
theorem lead_b {r : Nat} {h u : List Nat} {m : Bool} {p : Nat} {u1 : List Nat} {p1 : Nat} {ha ua : List Nat} (hlow : lowB r h = true) (k1 : Ok0 b L r h u m p u1 p1 ha ua) (hr1 : rk (sgn (tk b L p1)) = r) (hr4 : r = 6 ∨ r = 5 ∨ r = 2 ∨ r = 1) (ht : tk b L p1 ≠ 41 ∧ tk b L p1 ≠ 59) (hsg : sgn (tk b L p1) ≠ 0) : Leads b L ((h, u), true, m, p) ((sgn (tk b L p1) :: h, u1), true, Nat.ble (sgn (tk b L p1)) 12, nx b L p1) := by
  obtain ⟨em, m1, a, c, d, e, f, g⟩ := k1
  rw [unw_low hlow] at g
  refine f.tr (Leads.one ?_)
  show stpN b L ha ua m1 p1 = _
  unfold stpN
  rw [if_neg ht.2, if_neg ht.1, if_neg hsg, if_neg (by omega), hr1, g]
theorem lead_c {h u : List Nat} {m : Bool} {p : Nat} {u1 : List Nat} {p1 : Nat} {ha ua : List Nat} (hlow : lowB 4 h = true) (k1 : Ok0 b L 5 h u m p u1 p1 ha ua) (ht : tk b L p1 = 60 ∨ tk b L p1 = 61) : Leads b L ((h, u), true, m, p) ((sgn (tk b L p1) :: h, u1), true, false, nx b L p1) := by
  obtain ⟨em, m1, a, c, d, e, f, g⟩ := k1
  have hl5 : lowB 5 h = true := by
    match h, hlow with
    | [], _ => rfl
    | s :: h, hlow =>
      have : rk s < 4 := Nat.le_of_ble_eq_true hlow
      exact Nat.ble_eq.mpr (by omega)
  rw [unw_low hl5] at g
  have hs : sgn (tk b L p1) = 14 ∨ sgn (tk b L p1) = 15 := by
    rcases ht with ht | ht <;> rw [ht]
    · exact Or.inl rfl
    · exact Or.inr rfl
  have hr4 : rk (sgn (tk b L p1)) = 4 := by
    rcases hs with hs | hs <;> rw [hs] <;> rfl
  refine f.tr (Leads.one ?_)
  show stpN b L ha ua m1 p1 = _
  unfold stpN
  rw [if_neg (by omega), if_neg (by omega), if_neg (by omega), if_pos hr4, g, if_pos hlow]
theorem lowB_to {r r' : Nat} {h : List Nat} (hr : r ≤ r') (hl : lowB r h = true) : lowB r' h = true := by
  match h, hl with
  | [], _ => rfl
  | s :: h, hl =>
    have : rk s < r := Nat.le_of_ble_eq_true hl
    exact Nat.ble_eq.mpr (by omega)
end
