/-! the two halves of the state: the class's places and the model's -/
def isC (k : Nat) : Bool := Nat.blt k 99 || Nat.ble 1000 k
def mpC (k j : Nat) : Option (Nat × Nat) := bif isC k then mp k j else none
def mpM (k j : Nat) : Option (Nat × Nat) := bif isC k then none else mp k j
def StC (s I : Nat → Nat → Int32) : Prop := ∀ k j a b, mpC k j = some (a, b) → I k j = s a b
def StM (s I : Nat → Nat → Int32) : Prop := ∀ k j a b, mpM k j = some (a, b) → I k j = s a b
theorem St.C {s I : Nat → Nat → Int32} (h : St s I) : StC s I := fun k j a b e => by
  unfold mpC at e
  cases hc : isC k with
  | true => rw [hc] at e; exact h _ _ _ _ e
  | false => rw [hc] at e; cases e
theorem St.M {s I : Nat → Nat → Int32} (h : St s I) : StM s I := fun k j a b e => by
  unfold mpM at e
  cases hc : isC k with
  | true => rw [hc] at e; cases e
  | false => rw [hc] at e; exact h _ _ _ _ e
theorem St_of {s I : Nat → Nat → Int32} (h1 : StC s I) (h2 : StM s I) : St s I := fun k j a b e => by
  cases hc : isC k with
  | true => exact h1 _ _ _ _ (by unfold mpC; rw [hc]; exact e)
  | false => exact h2 _ _ _ _ (by unfold mpM; rw [hc]; exact e)
theorem rw2_off {f : Nat → Nat → Int32} {k j a b : Nat} {v : Int32} (h : ¬ (a = k ∧ b = j)) : rw2 f k j v a b = f a b := by
  unfold rw2
  by_cases h1 : a = k
  · rw [if_pos h1, if_neg (fun z => h ⟨h1, z⟩)]
  · rw [if_neg h1]
theorem rw2_on {f : Nat → Nat → Int32} {k j : Nat} {v : Int32} : rw2 f k j v k j = v := by
  unfold rw2
  rw [if_pos rfl, if_pos rfl]
/-- the table of one place -/
def tabE (k : Nat) : (List (Option (Nat × Nat))) ⊕ (List Nat) := (mpL.getD (k / 16) []).getD (k % 16) (.inr [])
def mpE (e : (List (Option (Nat × Nat))) ⊕ (List Nat)) (j : Nat) : Option (Nat × Nat) := match e with
  | .inl l => l.getD j none
  | .inr [] => none
  | .inr [a] => some (a, j)
  | .inr [_, _] => none
  | .inr (a :: o :: n :: _) => bif Nat.blt j n then some (a, o + j) else none
theorem mp_E {k : Nat} (h : k < 1000) (j : Nat) : mp k j = mpE (tabE k) j := by
  unfold mp
  rw [blt_t h, cond_true]
  rfl
/-- a check of a table's row by place -/
def rowOk (p : Nat → Nat × Nat → Bool) (w : Nat → Bool) (e : (List (Option (Nat × Nat))) ⊕ (List Nat)) : Bool := match e with
  | .inl l => (List.range l.length).all (fun j => match l.getD j none with | none => true | some q => p j q)
  | .inr [] => true
  | .inr [a] => w a
  | .inr [_, _] => true
  | .inr (a :: o :: n :: _) => (List.range n).all (fun j => p j (a, o + j))
theorem rowOk_p {p : Nat → Nat × Nat → Bool} {w : Nat → Bool} {e : (List (Option (Nat × Nat))) ⊕ (List Nat)} {j a b : Nat} (h : rowOk p w e = true) (hm : mpE e j = some (a, b)) : p j (a, b) = true ∨ (w a = true ∧ b = j) := by
  match e, h, hm with
  | .inl l, h, hm =>
    have hm : l.getD j none = some (a, b) := hm
    have h : (List.range l.length).all (fun j => match l.getD j none with | none => true | some q => p j q) = true := h
    by_cases hj : j < l.length
    · have h2 := List.all_eq_true.mp h j (List.mem_range.mpr hj)
      rw [hm] at h2
      exact Or.inl h2
    · rw [gd_big _ _ _ (by omega)] at hm
      cases hm
  | .inr [], h, hm => cases hm
  | .inr [x], h, hm =>
    have hm : some (x, j) = some (a, b) := hm
    injection hm with hm
    injection hm with h1 h2
    subst h1
    exact Or.inr ⟨h, h2.symm⟩
  | .inr [_, _], h, hm => cases hm
  | .inr (x :: o :: n :: _), h, hm =>
    have hm : (bif Nat.blt j n then some (x, o + j) else none) = some (a, b) := hm
    have h : (List.range n).all (fun j => p j (x, o + j)) = true := h
    cases hb : Nat.blt j n with
    | false => rw [hb] at hm; cases hm
    | true =>
      rw [hb, cond_true] at hm
      injection hm with hm
      have h2 := List.all_eq_true.mp h j (List.mem_range.mpr (Nat.le_of_ble_eq_true hb))
      rw [hm] at h2
      exact Or.inl h2
/-- the model's places are the state's own -/
theorem mtab : ∀ k, k < 160 → (isC k || rowOk (fun j q => Nat.beq q.1 k && Nat.beq q.2 j) (fun a => Nat.beq a k) (tabE k)) = true := by decide +kernel
theorem mpM_id {k j a b : Nat} (h : mpM k j = some (a, b)) : a = k ∧ b = j := by
  unfold mpM at h
  cases hc : isC k with
  | true => rw [hc] at h; cases h
  | false =>
    rw [hc, cond_false] at h
    have hk : 99 ≤ k ∧ k < 1000 := by
      unfold isC at hc
      rcases Nat.lt_or_ge k 99 with g | g
      · rw [blt_t g] at hc; cases hc
      · rcases Nat.lt_or_ge k 1000 with g2 | g2
        · exact ⟨g, g2⟩
        · rw [show Nat.ble 1000 k = true from Nat.ble_eq.mpr g2, Bool.or_true] at hc; cases hc
    rw [mp_E hk.2] at h
    by_cases h1 : k < 160
    · have t := mtab k h1
      rw [hc, Bool.false_or] at t
      rcases rowOk_p t h with t2 | ⟨t2, t3⟩
      · have t2 : (Nat.beq a k && Nat.beq b j) = true := t2
        rw [Bool.and_eq_true] at t2
        exact ⟨Nat.eq_of_beq_eq_true t2.1, Nat.eq_of_beq_eq_true t2.2⟩
      · exact ⟨Nat.eq_of_beq_eq_true t2, t3⟩
    · have e : tabE k = .inr [] := by
        unfold tabE
        rw [gd_big _ mpL _ (by have : mpL.length = 9 := rfl; omega)]
        rfl
      rw [e] at h
      cases h
theorem StM_w {s I : Nat → Nat → Int32} {k j a b : Nat} {x : Int32} (h : StM s I) (hk : mpM k j = some (a, b)) : StM (rw2 s a b x) (rw2 I k j x) := fun k' j' a' b' h' => by
  obtain ⟨rfl, rfl⟩ := mpM_id hk
  obtain ⟨rfl, rfl⟩ := mpM_id h'
  by_cases e : a' = a ∧ b' = b
  · obtain ⟨rfl, rfl⟩ := e
    rw [rw2_on, rw2_on]
  · rw [rw2_off e, rw2_off e]
    exact h _ _ _ _ h'
