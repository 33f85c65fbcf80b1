/-! rules: where they lie, what they raise -/
theorem blt_f {a b : Nat} (h : b ≤ a) : Nat.blt a b = false := by
  rw [Bool.eq_false_iff]
  intro z
  have : a + 1 ≤ b := Nat.le_of_ble_eq_true z
  omega
theorem blt_t {a b : Nat} (h : a < b) : Nat.blt a b = true := Nat.ble_eq_true_of_le h
theorem rul_o {r : Nat} (h : r < 1000) : isO (1000 + 2 * r) 7 = true := by
  unfold isO kd
  rw [blt_f (by omega), blt_t (by omega), show (1000 + 2 * r) % 2 = 0 by omega]
  rfl
theorem rul_a {r : Nat} (h : r < 1000) : isA (1001 + 2 * r) 0 = true := by
  unfold isA kd
  rw [blt_f (by omega), blt_t (by omega), show (1001 + 2 * r) % 2 = 1 by omega]
  rfl
theorem rul_l {r : Nat} (N : Nat → Nat) (h : r < 999) : alen N (1001 + 2 * r) = 16 := by
  unfold alen slen
  rw [blt_t (by omega), blt_f (by omega)]
  rfl
theorem rul_m {r : Nat} (h : r < 1000) : mp (1000 + 2 * r) 0 = some (107, r) ∧ mp (1000 + 2 * r) 1 = some (108, r) ∧ mp (1000 + 2 * r) 2 = some (109, r) ∧ mp (1000 + 2 * r) 3 = some (110, r) := by
  have e : (1000 + 2 * r - 1000) / 2 = r := by omega
  have e2 : (1000 + 2 * r) % 2 = 0 := by omega
  refine ⟨?_, ?_, ?_, ?_⟩
  · unfold mp
    rw [blt_f (by omega), blt_t (by omega), e2, e]
    rfl
  · unfold mp
    rw [blt_f (by omega), blt_t (by omega), e2, e]
    rfl
  · unfold mp
    rw [blt_f (by omega), blt_t (by omega), e2, e]
    rfl
  · unfold mp
    rw [blt_f (by omega), blt_t (by omega), e2, e]
    rfl
theorem rul_t {r : Nat} (h : r < 999) {j : Nat} (hj : j < 16) : mp (1001 + 2 * r) j = some (111, 16 * r + j) := by
  unfold mp
  rw [blt_f (by omega), blt_t (by omega), blt_t hj, show (1001 + 2 * r) % 2 = 1 by omega, show (1001 + 2 * r - 1000) / 2 = r by omega]
  rfl
