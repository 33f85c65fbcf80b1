/-! setters: what each half keeps -/
theorem rw2_ro {α : Type} {f : Nat → Nat → α} {k j a : Nat} {v : α} (h : a ≠ k) : rw2 f k j v a = f a := by
  funext b
  unfold rw2
  rw [if_neg h]
theorem rw2_self {α : Type} (f : Nat → Nat → α) (k j : Nat) : rw2 f k j (f k j) = f := by
  funext a b
  unfold rw2
  by_cases h : a = k
  · subst h
    rw [if_pos rfl]
    by_cases h2 : b = j
    · subst h2
      rw [if_pos rfl]
    · rw [if_neg h2]
  · rw [if_neg h]
theorem rw2_comm {α : Type} {f : Nat → Nat → α} {k j k' j' : Nat} {v v' : α} (h : ¬ (k = k' ∧ j = j')) : rw2 (rw2 f k j v) k' j' v' = rw2 (rw2 f k' j' v') k j v := by
  funext a b
  unfold rw2
  repeat' split
  all_goals first
    | rfl
    | (exfalso; omega)
def FrM (I I' : Nat → Nat → Int32) : Prop := ∀ k, isC k = false → I' k = I k
def FrC (I I' : Nat → Nat → Int32) : Prop := ∀ k, isC k = true → I' k = I k
theorem FrM.rf {I : Nat → Nat → Int32} : FrM I I := fun _ _ => rfl
theorem FrC.rf {I : Nat → Nat → Int32} : FrC I I := fun _ _ => rfl
theorem FrM.w {I I1 : Nat → Nat → Int32} {k j : Nat} {x : Int32} (h : FrM I I1) (hk : isC k = true) : FrM I (rw2 I1 k j x) := fun a ha => (rw2_ro (fun z => by subst z; rw [hk] at ha; cases ha)).trans (h a ha)
theorem FrC.w {I I1 : Nat → Nat → Int32} {k j : Nat} {x : Int32} (h : FrC I I1) (hk : isC k = false) : FrC I (rw2 I1 k j x) := fun a ha => (rw2_ro (fun z => by subst z; rw [hk] at ha; cases ha)).trans (h a ha)
theorem FrM.tr {I I1 I2 : Nat → Nat → Int32} (h : FrM I I1) (h2 : FrM I1 I2) : FrM I I2 := fun a ha => (h2 a ha).trans (h a ha)
theorem FrC.tr {I I1 I2 : Nat → Nat → Int32} (h : FrC I I1) (h2 : FrC I1 I2) : FrC I I2 := fun a ha => (h2 a ha).trans (h a ha)
theorem StM_sC {s I : Nat → Nat → Int32} {a b : Nat} {x : Int32} (h : StM s I) (ha : isC a = true) : StM (rw2 s a b x) I := fun k j a' b' hk => by
  have e := mpM_id hk
  have hc : isC k = false := by
    unfold mpM at hk
    cases hc : isC k with
    | true => rw [hc] at hk; cases hk
    | false => rfl
  rw [rw2_off (fun z => by rw [← z.1, e.1, hc] at ha; cases ha)]
  exact h _ _ _ _ hk
theorem StC_sM {s I : Nat → Nat → Int32} {a b : Nat} {x : Int32} (h : StC s I) (ha : ∀ k j, mpC k j ≠ some (a, b)) : StC (rw2 s a b x) I := fun k j a' b' hk => by
  by_cases e : a' = a ∧ b' = b
  · exact absurd (by rw [← e.1, ← e.2]; exact hk) (ha k j)
  · rw [rw2_off e]
    exact h _ _ _ _ hk
theorem StC_z {s I : Nat → Nat → Int32} {k j : Nat} {x : Int32} (h : StC s I) (hk : mpC k j = none) : StC s (rw2 I k j x) := fun k' j' a b h' => by
  by_cases e : k' = k ∧ j' = j
  · rw [e.1, e.2, hk] at h'; cases h'
  · rw [rw2_off e]
    exact h _ _ _ _ h'
theorem StM_z {s I : Nat → Nat → Int32} {k j : Nat} {x : Int32} (h : StM s I) (hk : mpM k j = none) : StM s (rw2 I k j x) := fun k' j' a b h' => by
  by_cases e : k' = k ∧ j' = j
  · rw [e.1, e.2, hk] at h'; cases h'
  · rw [rw2_off e]
    exact h _ _ _ _ h'
theorem Cch.w {s I : Nat → Nat → Int32} {J : Nat → Nat → Int64} {k j : Nat} {x : Int32} (h : Cch s I J) (hp : cP s ≤ 4) (hk : k < 21 ∨ 77 < k) : Cch s (rw2 I k j x) J := h.of (fun a h1 h2 => rw2_ro (by omega)) (fun _ _ _ => rfl) hp
/-- a change of the coast: no plan holds any more -/
theorem Cch.new {s s' I : Nat → Nat → Int32} {J : Nat → Nat → Int64} (h : Cch s I J) (hp : cP s' ≤ 4) {c : Nat} (h2 : s' 1 15 = nI c) (h3 : wN (s 1 15) < c) (h4 : c < 2147483648) : Cch s' I J := by
  obtain ⟨-, -, a, b, w⟩ := h
  have key : ∀ x, Stq s x → x ≠ s' 1 15 := fun x hx e => by
    rcases hx with hx | ⟨n, hn, hx⟩
    · rw [hx, h2] at e
      have := congrArg Int32.toInt e
      rw [nI_toInt (by omega)] at this
      have e1 : (cI (-1)).toInt = -1 := by decide
      omega
    · rw [hx, h2] at e
      have := congrArg Int32.toInt e
      rw [nI_toInt (by omega), nI_toInt (by omega)] at this
      omega
  have st : ∀ x, Stq s x → Stq s' x := fun x hx => by
    rcases hx with hx | ⟨n, hn, hx⟩
    · exact Or.inl hx
    · exact Or.inr ⟨n, by rw [h2, wN_nI (by omega)]; omega, hx⟩
  exact ⟨fun p hp' he => absurd he (key _ (a p (by omega))), fun q hq he => absurd he (key _ (b q (by omega))), fun o ho => st _ (a o ho), fun q hq => st _ (b q hq), w⟩
/-- what the class's call leaves; what the model's leaves -/
abbrev QH (s' : Nat → Nat → Int32) (R : Nat → Nat → Option Nat) (N : Nat → Nat) (G : hG) (J : Nat → Nat → Int64) (I0 : Nat → Nat → Int32) (v : Value) : Option Value → hM → Prop := fun v' M' => v' = some v ∧ ∃ I', M' = (I', J, Rx R, N, G) ∧ StC s' I' ∧ Lk s' R N ∧ Cch s' I' J ∧ FrM I0 I'
abbrev QS (s' : Nat → Nat → Int32) (R : Nat → Nat → Option Nat) (N : Nat → Nat) (G : hG) (J : Nat → Nat → Int64) (I0 : Nat → Nat → Int32) (v : Value) : Option Value → hM → Prop := fun v' M' => v' = some v ∧ ∃ I', M' = (I', J, Rx R, N, G) ∧ StM s' I' ∧ FrC I0 I'
/-- how far the coast's changes may have gone up -/
def Up (b : Nat) (s s' : Nat → Nat → Int32) : Prop := ∃ c, s' 1 15 = nI c ∧ wN (s 1 15) ≤ c ∧ c ≤ wN (s 1 15) + b ∧ s' 99 13 = s 99 13 ∧ s' 99 30 = s 99 30
theorem Up.rf {b : Nat} {s : Nat → Nat → Int32} (h : iN 0 1000000 (s 1 15)) : Up b s s := ⟨_, (h.nat (by omega)).1, Nat.le_refl _, Nat.le_add_right _ _, rfl, rfl⟩
/-- a setter: both halves go from s to the same s' with the same answer -/
def SetOk (b y z : Nat) (as : List Value) (s : Nat → Nat → Int32) : Prop := ∃ w s', Wf s' ∧ Up b s s' ∧ (∀ (X : hX) (d : Nat) (I : Nat → Nat → Int32) (J : Nat → Nat → Int64) (R : Nat → Nat → Option Nat) (N : Nat → Nat) (G : hG), Inv s R N I J → TP X (d + 12) y (.ref 0 :: as) (I, J, Rx R, N, G) (QH s' R N G J I (.int w))) ∧
  ∀ (X : hX) (d : Nat) (I : Nat → Nat → Int32) (J : Nat → Nat → Int64) (R : Nat → Nat → Option Nat) (N : Nat → Nat) (G : hG), StM s I → TP X (d + 12) z (.ref 99 :: as) (I, J, Rx R, N, G) (QS s' R N G J I (.int w))
