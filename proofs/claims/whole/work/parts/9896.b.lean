/-! the model's reading of an expression, by itself -/
def rk (s : Nat) : Nat := if s = 0 then 0 else if s = 11 then 1 else if s = 12 then 2 else if s = 13 then 3 else if s ≤ 15 then 4 else if s ≤ 17 then 5 else if s = 18 then 6 else 7
def unw (r : Nat) : List Nat → List Nat → List Nat × List Nat
  | [], u => ([], u)
  | s :: h, u => if r ≤ rk s then unw r h (u ++ [s]) else (s :: h, u)
def cnt : List Nat → Nat
  | [] => 0
  | s :: h => (if s = 0 ∨ s = 13 ∨ s = 19 then 1 else 0) + cnt h
def lowB (r : Nat) : List Nat → Bool
  | [] => true
  | s :: _ => Nat.blt (rk s) r
theorem unw_low {r : Nat} {h u : List Nat} (hl : lowB r h = true) : unw r h u = (h, u) := by
  match h, hl with
  | [], _ => rfl
  | s :: h, hl =>
    have : rk s < r := Nat.le_of_ble_eq_true hl
    show (if r ≤ rk s then unw r h (u ++ [s]) else (s :: h, u)) = _
    rw [if_neg (by omega)]
theorem unw_pop {r s : Nat} {h u : List Nat} (hs : r ≤ rk s) : unw r (s :: h) u = unw r h (u ++ [s]) := if_pos hs
theorem unw_is (r : Nat) : ∀ (h u : List Nat), lowB r (unw r h u).1 = true
  | [], u => rfl
  | s :: h, u => by
    by_cases g : r ≤ rk s
    · rw [unw_pop g]
      exact unw_is r h _
    · have e : unw r (s :: h) u = (s :: h, u) := if_neg g
      rw [e]
      exact Nat.ble_eq.mpr (by omega)
theorem unw_unw {r r' : Nat} (hr : r ≤ r') : ∀ (h u : List Nat), unw r (unw r' h u).1 (unw r' h u).2 = unw r h u
  | [], u => rfl
  | s :: h, u => by
    by_cases g : r' ≤ rk s
    · rw [unw_pop g, unw_pop (Nat.le_trans hr g)]
      exact unw_unw hr h _
    · have e : unw r' (s :: h) u = (s :: h, u) := if_neg g
      rw [e]
theorem unw_to {r r' : Nat} (hr : r ≤ r') {h u h2 u2 : List Nat} (e : unw r' h u = unw r' h2 u2) : unw r h u = unw r h2 u2 := by
  rw [← unw_unw hr h u, e, unw_unw hr]
abbrev PS : Type := (List Nat × List Nat) × Bool × Bool × Nat
def sgn (t : Nat) : Nat := if t = 1009 then 11 else if t = 1010 then 12 else if t = 60 then 14 else if t = 61 then 15 else if t = 43 then 16 else if t = 45 then 17 else if t = 42 then 18 else 0
section
variable {b : Nat → Nat} {L : Nat}
noncomputable def stpW (b : Nat → Nat) (L : Nat) (h u : List Nat) (m : Bool) (p : Nat) : Option PS :=
  if tk b L p = 2000 then some (unw 7 h (u ++ [100000 + tv b L p]), false, m, nx b L p)
  else if 1000 ≤ tk b L p ∧ tk b L p < 1006 then some (unw 7 h (u ++ [tk b L p - 1000]), false, m, nx b L p)
  else if tk b L p = 1011 ∧ m = true then (if cnt h = 5 then none else some ((13 :: h, u), true, m, nx b L p))
  else if tk b L p = 45 then (if cnt h = 5 then none else some ((19 :: h, u), true, false, nx b L p))
  else if tk b L p = 40 then (if cnt h = 5 then none else some ((0 :: h, u), true, true, nx b L p))
  else none
noncomputable def stpN (b : Nat → Nat) (L : Nat) (h u : List Nat) (m : Bool) (p : Nat) : Option PS :=
  if tk b L p = 59 then none
  else if tk b L p = 41 then (match (unw 1 h u).1 with
    | [] => none
    | _ :: h2 => some (unw 7 h2 (unw 1 h u).2, false, m, nx b L p))
  else if sgn (tk b L p) = 0 then none
  else if rk (sgn (tk b L p)) = 4 then (if lowB 4 (unw 5 h u).1 = true then some ((sgn (tk b L p) :: (unw 5 h u).1, (unw 5 h u).2), true, false, nx b L p) else none)
  else some ((sgn (tk b L p) :: (unw (rk (sgn (tk b L p))) h u).1, (unw (rk (sgn (tk b L p))) h u).2), true, Nat.ble (sgn (tk b L p)) 12, nx b L p)
noncomputable def stp (b : Nat → Nat) (L : Nat) (S : PS) : Option PS := match S with
  | ((h, u), true, m, p) => stpW b L h u m p
  | ((h, u), false, m, p) => stpN b L h u m p
def lds (b : Nat → Nat) (L : Nat) : Nat → PS → PS → Prop
  | 0, S, S' => S = S'
  | n + 1, S, S' => ∃ S1, stp b L S = some S1 ∧ lds b L n S1 S'
def Leads (b : Nat → Nat) (L : Nat) (S S' : PS) : Prop := ∃ n, lds b L n S S'
theorem lds_tr : ∀ {n k : Nat} {S S1 S2 : PS}, lds b L n S S1 → lds b L k S1 S2 → lds b L (n + k) S S2
  | 0, k, S, S1, S2, h1, h2 => by
    have h1 : S = S1 := h1
    rw [Nat.zero_add, h1]
    exact h2
  | n + 1, k, S, S1, S2, ⟨T, h1, h3⟩, h2 => by
    rw [show n + 1 + k = n + k + 1 by omega]
    exact ⟨T, h1, lds_tr h3 h2⟩
theorem Leads.rf {S : PS} : Leads b L S S := ⟨0, rfl⟩
theorem Leads.one {S S1 : PS} (h : stp b L S = some S1) : Leads b L S S1 := ⟨1, S1, h, rfl⟩
theorem Leads.tr {S S1 S2 : PS} (h1 : Leads b L S S1) (h2 : Leads b L S1 S2) : Leads b L S S2 := by
  obtain ⟨n, h1⟩ := h1
  obtain ⟨k, h2⟩ := h2
  exact ⟨n + k, lds_tr h1 h2⟩
theorem Leads.s {S S1 S2 : PS} (h1 : stp b L S = some S1) (h2 : Leads b L S1 S2) : Leads b L S S2 := (Leads.one h1).tr h2
/-- where it ends well -/
def Acc (b : Nat → Nat) (L : Nat) (S : PS) : Prop := S.2.1 = false ∧ tk b L S.2.2.2 = 59 ∧ (unw 1 S.1.1 S.1.2).1 = []
def FailAt (b : Nat → Nat) (L : Nat) (S : PS) (p : Nat) : Prop := ∃ S', Leads b L S S' ∧ S'.2.2.2 = p ∧ stp b L S' = none ∧ ¬ Acc b L S'
theorem FailAt.l {S S1 : PS} {p : Nat} (h1 : Leads b L S S1) (h2 : FailAt b L S1 p) : FailAt b L S p := by
  obtain ⟨T, h3, h4, h5, h6⟩ := h2
  exact ⟨T, h1.tr h3, h4, h5, h6⟩
/-- emitted signs that leave one value more -/
def Rn : Nat → List Nat → Nat → Prop
  | d, [], e => d = e
  | d, c :: r, e => okc c ∧ ned c ≤ d ∧ Rn (hsN c d) r e
theorem Rn_app : ∀ {l : List Nat} {d e f : Nat} {r : List Nat}, Rn d l e → Rn e r f → Rn d (l ++ r) f
  | [], d, e, f, r, h1, h2 => by
    have h1 : d = e := h1
    rw [h1]
    exact h2
  | c :: l, d, e, f, r, ⟨h1, h2, h3⟩, h4 => ⟨h1, h2, Rn_app h3 h4⟩
def wfe (em : List Nat) : Prop := ∀ d, Rn d em (d + 1)
theorem wfe_1 {c : Nat} (h : okc c) (h2 : 100000 ≤ c ∨ c < 11) : wfe [c] := fun d => by
  refine ⟨h, ?_, ?_⟩
  · unfold ned
    rcases h2 with h2 | h2
    · rw [if_pos h2]; omega
    · by_cases g : 100000 ≤ c
      · rw [if_pos g]; omega
      · rw [if_neg g, if_pos h2]; omega
  · show hsN c d = d + 1
    unfold hsN
    rcases h2 with h2 | h2
    · rw [if_pos h2]
    · by_cases g : 100000 ≤ c
      · rw [if_pos g]
      · rw [if_neg g, if_pos h2]
theorem wfe_u {em : List Nat} {c : Nat} (h : wfe em) (hc : c = 13 ∨ c = 19) : wfe (em ++ [c]) := fun d => by
  refine Rn_app (h d) ?_
  rcases hc with rfl | rfl
  · exact ⟨Or.inr (Or.inr ⟨by omega, by omega⟩), by show 1 ≤ d + 1; omega, rfl⟩
  · exact ⟨Or.inr (Or.inr ⟨by omega, by omega⟩), by show 1 ≤ d + 1; omega, rfl⟩
theorem wfe_b {em em2 : List Nat} {c : Nat} (h : wfe em) (h2 : wfe em2) (hc : c = 11 ∨ c = 12 ∨ c = 14 ∨ c = 15 ∨ c = 16 ∨ c = 17 ∨ c = 18) : wfe (em ++ em2 ++ [c]) := fun d => by
  refine Rn_app (Rn_app (h d) (h2 (d + 1))) ?_
  rcases hc with rfl | rfl | rfl | rfl | rfl | rfl | rfl <;> exact ⟨Or.inr (Or.inr ⟨by omega, by omega⟩), by show 2 ≤ d + 1 + 1; omega, rfl⟩
theorem Rn_hp {q : Nat → Nat} {k : Nat} : ∀ (l : List Nat) (i e : Nat), Rn (hpN q k i) l e → (∀ j, j < l.length → q (k + (i + j)) = l.getD j 0) → (∀ j, j < l.length → okc (q (k + (i + j))) ∧ ned (q (k + (i + j))) ≤ hpN q k (i + j)) ∧ hpN q k (i + l.length) = e
  | [], i, e, h, _ => ⟨fun j hj => absurd hj (by simp), h⟩
  | c :: l, i, e, ⟨h1, h2, h3⟩, hq => by
    have e0 : q (k + i) = c := hq 0 (by simp)
    have e1 : hpN q k (i + 1) = hsN c (hpN q k i) := by
      show hsN (q (k + i)) (hpN q k i) = _
      rw [e0]
    rw [← e1] at h3
    obtain ⟨a, d⟩ := Rn_hp l (i + 1) e h3 (fun j hj => by
      have := hq (j + 1) (by simp; omega)
      rw [show i + 1 + j = i + (j + 1) by omega]
      exact this)
    refine ⟨fun j hj => ?_, ?_⟩
    · match j, hj with
      | 0, _ =>
        rw [Nat.add_zero, e0]
        exact ⟨h1, h2⟩
      | j + 1, hj =>
        have := a j (by simp at hj; omega)
        rw [show i + 1 + j = i + (j + 1) by omega] at this
        exact this
    · rw [List.length_cons, ← d]
      congr 1
      omega
theorem wfe_WFp {q : Nat → Nat} {k : Nat} {em : List Nat} (h : wfe em) (hq : ∀ j, j < em.length → q (k + j) = em.getD j 0) : WFp q k em.length := by
  obtain ⟨a, d⟩ := Rn_hp (q := q) (k := k) em 0 1 (h 0) (fun j hj => by rw [Nat.zero_add]; exact hq j hj)
  refine ⟨fun i hi => ?_, ?_⟩
  · have := a i hi
    rw [Nat.zero_add] at this
    exact this
  · rw [Nat.zero_add] at d
    omega
end
