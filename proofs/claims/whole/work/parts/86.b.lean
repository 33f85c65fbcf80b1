/-! the class's places, one to one -/
def asc : List (Nat × Nat) → Nat → Option Nat
  | [], _ => none
  | q :: l, a => bif Nat.beq q.1 a then some q.2 else asc l a
def rowsT : List (Nat × Nat) := [(1, 1), (10, 10), (14, 14), (15, 15), (95, 95), (96, 96), (100, 2), (101, 3), (102, 4), (103, 5), (104, 6), (105, 7), (106, 8), (112, 78), (113, 79), (114, 81), (115, 82), (119, 86)]
def fld99 : List (Nat × Nat) := [(0, 100), (1, 101), (2, 102), (4, 104), (10, 110), (31, 114), (30, 3), (13, 5), (19, 11), (27, 901), (22, 8003), (25, 8004), (32, 8400), (39, 8401), (37, 8404), (38, 8405), (33, 8500), (34, 8501), (35, 8502), (36, 8503)]
/-- the class's place of a cell of the state -/
def ic (a b : Nat) : Nat × Nat := bif Nat.ble 3000 a then (a, b) else match asc rowsT a with
  | some k => (k, b)
  | none => bif Nat.beq a 99 then (match asc fld99 b with | some z => (z / 100, z % 100) | none => (0, 0))
    else bif Nat.beq a 111 then (1001 + 2 * (b / 16), b % 16)
    else bif Nat.beq a 122 then (88 + 2 * (b / 40), b % 40)
    else bif Nat.beq a 120 then (87 + 2 * b, 0)
    else bif Nat.beq a 121 then (87 + 2 * b, 1)
    else (1000 + 2 * b, a - 107)
theorem ctab : ∀ k, k < 99 → rowOk (fun j q => decide (ic q.1 q.2 = (k, j))) (fun a => decide (asc rowsT a = some k) && Nat.blt a 3000) (tabE k) = true := by decide +kernel
theorem ic_ok {k j a b : Nat} (h : mpC k j = some (a, b)) : ic a b = (k, j) := by
  unfold mpC at h
  cases hc : isC k with
  | false => rw [hc] at h; cases h
  | true =>
    rw [hc, cond_true] at h
    rcases Nat.lt_or_ge k 99 with hk | hk
    · rw [mp_E (by omega)] at h
      rcases rowOk_p (ctab k hk) h with t | ⟨t, rfl⟩
      · exact of_decide_eq_true t
      · have t : (decide (asc rowsT a = some k) && Nat.blt a 3000) = true := t
        rw [Bool.and_eq_true] at t
        have t1 := of_decide_eq_true t.1
        have t2 : a < 3000 := Nat.le_of_ble_eq_true t.2
        unfold ic
        rw [show Nat.ble 3000 a = false from Bool.eq_false_iff.mpr (fun z => by have := Nat.le_of_ble_eq_true z; omega), cond_false, t1]
    · have hk2 : 1000 ≤ k := by
        unfold isC at hc
        rw [blt_f (by omega), Bool.false_or] at hc
        exact Nat.le_of_ble_eq_true hc
      unfold mp at h
      rw [blt_f (by omega), cond_false] at h
      by_cases h2 : k < 3000
      · rw [blt_t h2, cond_true] at h
        cases hb : Nat.beq (k % 2) 0 with
        | true =>
          have hb2 := Nat.eq_of_beq_eq_true hb
          rw [hb, cond_true] at h
          match j, h with
          | 0, h =>
            injection h with h; injection h with h3 h4
            subst h3 h4
            show (1000 + 2 * ((k - 1000) / 2), 0) = (k, 0)
            rw [show 1000 + 2 * ((k - 1000) / 2) = k by omega]
          | 1, h =>
            injection h with h; injection h with h3 h4
            subst h3 h4
            show (1000 + 2 * ((k - 1000) / 2), 1) = (k, 1)
            rw [show 1000 + 2 * ((k - 1000) / 2) = k by omega]
          | 2, h =>
            injection h with h; injection h with h3 h4
            subst h3 h4
            show (1000 + 2 * ((k - 1000) / 2), 2) = (k, 2)
            rw [show 1000 + 2 * ((k - 1000) / 2) = k by omega]
          | 3, h =>
            injection h with h; injection h with h3 h4
            subst h3 h4
            show (1000 + 2 * ((k - 1000) / 2), 3) = (k, 3)
            rw [show 1000 + 2 * ((k - 1000) / 2) = k by omega]
          | _ + 4, h => cases h
        | false =>
          have hb2 : k % 2 ≠ 0 := fun z => by rw [z] at hb; cases hb
          rw [hb, cond_false] at h
          cases hj : Nat.blt j 16 with
          | false => rw [hj] at h; cases h
          | true =>
            have hj2 : j < 16 := Nat.le_of_ble_eq_true hj
            rw [hj, cond_true] at h
            injection h with h; injection h with h3 h4
            subst h3
            show (1001 + 2 * (b / 16), b % 16) = (k, j)
            rw [show b / 16 = (k - 1000) / 2 by omega, show b % 16 = j by omega, show 1001 + 2 * ((k - 1000) / 2) = k by omega]
      · rw [blt_f (by omega), cond_false] at h
        have e : ic k j = (k, j) := by
          unfold ic
          rw [show Nat.ble 3000 k = true from Nat.ble_eq.mpr (by omega), cond_true]
        by_cases h4 : k < 8000
        · rw [blt_t h4, cond_true] at h
          revert h
          generalize k % 4 = r
          intro h
          match r, h with
          | 0, h => injection h with h; injection h with h3 h4; subst h3 h4; exact e
          | 1, h => injection h with h; injection h with h3 h4; subst h3 h4; exact e
          | _ + 2, h => cases h
        · rw [blt_f (by omega), cond_false] at h
          cases h
theorem StC_w {s I : Nat → Nat → Int32} {k j a b : Nat} {x : Int32} (h : StC s I) (hk : mpC k j = some (a, b)) : StC (rw2 s a b x) (rw2 I k j x) := fun k' j' a' b' h' => by
  have e1 := ic_ok hk
  have e2 := ic_ok h'
  by_cases e : k' = k ∧ j' = j
  · obtain ⟨rfl, rfl⟩ := e
    rw [hk] at h'
    injection h' with h'
    injection h' with h3 h4
    subst h3 h4
    rw [rw2_on, rw2_on]
  · have e3 : ¬ (a' = a ∧ b' = b) := fun z => e (by
      rw [z.1, z.2, e1] at e2
      injection e2 with p q
      exact ⟨p.symm, q.symm⟩)
    rw [rw2_off e, rw2_off e3]
    exact h _ _ _ _ h'
theorem StM_o {s I I' : Nat → Nat → Int32} (h : StM s I) (e : ∀ k, isC k = false → I' k = I k) : StM s I' := fun k j a b hk => by
  have hc : isC k = false := by
    unfold mpM at hk
    cases hc : isC k with
    | true => rw [hc] at hk; cases hk
    | false => rfl
  rw [e k hc]
  exact h _ _ _ _ hk
theorem StC_o {s I I' : Nat → Nat → Int32} (h : StC s I) (e : ∀ k, isC k = true → I' k = I k) : StC s I' := fun k j a b hk => by
  have hc : isC k = true := by
    unfold mpC at hk
    cases hc : isC k with
    | false => rw [hc] at hk; cases hk
    | true => rfl
  rw [e k hc]
  exact h _ _ _ _ hk
