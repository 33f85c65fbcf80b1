/-! places that the class has not; the model's half under a change of the class's places -/
theorem mpC_big {k j a b : Nat} (h : 3000 ≤ k) (hk : mpC k j = some (a, b)) : a = k ∧ b = j ∧ k % 4 < 2 := by
  unfold mpC isC mp at hk
  rw [show Nat.ble 1000 k = true from Nat.ble_eq.mpr (by omega), Bool.or_true, cond_true, blt_f (by omega), blt_f (by omega), cond_false, cond_false] at hk
  by_cases g : k < 8000
  · rw [blt_t g, cond_true] at hk
    have h4 : k % 4 = 0 ∨ k % 4 = 1 ∨ k % 4 = 2 ∨ k % 4 = 3 := by omega
    rcases h4 with h4 | h4 | h4 | h4
    · rw [h4] at hk
      injection hk with hk
      injection hk with q1 q2
      exact ⟨q1.symm, q2.symm, by omega⟩
    · rw [h4] at hk
      injection hk with hk
      injection hk with q1 q2
      exact ⟨q1.symm, q2.symm, by omega⟩
    · rw [h4] at hk
      cases hk
    · rw [h4] at hk
      cases hk
  · rw [blt_f (by omega), cond_false] at hk
    cases hk
theorem mpC_none {k j a b : Nat} (hk : mpC k j = some (a, b)) : ∀ c, c = 116 ∨ c = 117 ∨ c = 118 → a ≠ c := by
  have key : ∀ c, c = 116 ∨ c = 117 ∨ c = 118 → a ≠ c := fun c hc e => by
    subst e
    have ei := ic_ok hk
    have e2 : ic a b = (1000 + 2 * b, a - 107) := by rcases hc with rfl | rfl | rfl <;> rfl
    rw [e2] at ei
    injection ei with q1 q2
    subst q1
    by_cases g : b < 1000
    · unfold mpC isC mp at hk
      rw [show Nat.ble 1000 (1000 + 2 * b) = true from Nat.ble_eq.mpr (by omega), Bool.or_true, cond_true, blt_f (by omega), blt_t (by omega), cond_false, cond_true, show (1000 + 2 * b) % 2 = 0 by omega] at hk
      have h10 : j = 9 ∨ j = 10 ∨ j = 11 := by omega
      rcases h10 with rfl | rfl | rfl <;> cases hk
    · have := (mpC_big (by omega) hk).1
      omega
  exact key
theorem mpC_no {k j a b : Nat} (hk : mpC k j = some (a, b)) : a ≠ 117 ∧ a ≠ 118 := ⟨mpC_none hk 117 (Or.inr (Or.inl rfl)), mpC_none hk 118 (Or.inr (Or.inr rfl))⟩
theorem StM_s {s s' I : Nat → Nat → Int32} (h : StM s I) (h1 : ∀ k, isC k = false → s' k = s k) : StM s' I := fun k j a b hk => by
  have hc : isC k = false := by
    unfold mpM at hk
    cases hc : isC k with
    | true => rw [hc] at hk; cases hk
    | false => rfl
  obtain ⟨rfl, rfl⟩ := mpM_id hk
  rw [h1 a hc]
  exact h _ _ _ _ hk
theorem StC_116 {s s' I : Nat → Nat → Int32} (h : StC s I) (h1 : ∀ a, a ≠ 116 → s' a = s a) : StC s' I := fun k j a b hk => by
  rw [h1 a (mpC_none hk 116 (Or.inl rfl))]
  exact h _ _ _ _ hk
