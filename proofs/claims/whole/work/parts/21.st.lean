/-! where the state lies: the place of s (sigma) for each place of the memory that holds state -/
def mpL : List (List ((List (Option (Nat × Nat))) ⊕ (List Nat))) := [[.inl [none, none, none, some (99, 30), none, some (99, 13), none, none, none, none, none, some (99, 19), none, none, none], .inl [some (99, 0), some (99, 1), some (99, 2), some (1, 3), some (99, 4), none, none, none, none, none, some (99, 10), none, none, none, some (99, 31), some (1, 15)], .inr [100], .inr [101], .inr [102], .inr [103], .inr [104], .inr [105], .inr [106], .inl [none, some (99, 27), none, none, none, none, none, none], .inr [10], .inr [], .inr [], .inr [], .inl [some (14, 0), none, some (14, 2), some (14, 3), none], .inr [15]], [.inr [], .inr [], .inr [], .inr [], .inr [], .inr [], .inr [], .inr [], .inr [], .inr [], .inr [], .inr [], .inr [], .inr [], .inr [], .inr []], [.inr [], .inr [], .inr [], .inr [], .inr [], .inr [], .inr [], .inr [], .inr [], .inr [], .inr [], .inr [], .inr [], .inr [], .inr [], .inr []], [.inr [], .inr [], .inr [], .inr [], .inr [], .inr [], .inr [], .inr [], .inr [], .inr [], .inr [], .inr [], .inr [], .inr [], .inr [], .inr []], [.inr [], .inr [], .inr [], .inr [], .inr [], .inr [], .inr [], .inr [], .inr [], .inr [], .inr [], .inr [], .inr [], .inr [], .inr [112], .inr [113]], [.inl [none, none, none, some (99, 22), some (99, 25), none, none, none], .inr [114], .inr [115], .inr [], .inl [some (99, 32), some (99, 39), none, none, some (99, 37), some (99, 38)], .inr [99, 33, 4], .inr [119], .inl [some (120, 0), some (121, 0), none], .inr [122, 0, 40], .inl [some (120, 1), some (121, 1), none], .inr [122, 40, 40], .inl [some (120, 2), some (121, 2), none], .inr [122, 80, 40], .inl [some (120, 3), some (121, 3), none], .inr [122, 120, 40], .inl [none, some (95, 1), some (95, 2), none, none]], [.inr [96], .inr [], .inr [], .inl [some (99, 0), some (99, 1), some (99, 2), some (99, 3), some (99, 4), none, none, none, none, none, some (99, 10), none, none, some (99, 13), none, none, none, none, none, some (99, 19), none, none, some (99, 22), none, none, some (99, 25), none, some (99, 27), none, none, some (99, 30), some (99, 31), some (99, 32), some (99, 33), some (99, 34), some (99, 35), some (99, 36), some (99, 37), some (99, 38), some (99, 39), none, none, none, none, none, none, none, none, none, none, none, none, none, none, none, none, none, none, none, none, none, none, none], .inr [100], .inr [101], .inr [102], .inr [103], .inr [104], .inr [105], .inr [106], .inr [107], .inr [108], .inr [109], .inr [110], .inr [111]], [.inr [112], .inr [113], .inr [114], .inr [115], .inr [116], .inr [117], .inr [118], .inr [119], .inr [120], .inr [121], .inr [122], .inr [], .inr [], .inr [], .inr [], .inr []], [.inr [], .inr [], .inr [], .inr [], .inr []]]
def mp (k j : Nat) : Option (Nat × Nat) := bif Nat.blt k 1000 then (match (mpL.getD (k / 16) []).getD (k % 16) (.inr []) with
    | .inl l => l.getD j none
    | .inr [] => none
    | .inr [a] => some (a, j)
    | .inr [_, _] => none
    | .inr (a :: o :: n :: _) => bif Nat.blt j n then some (a, o + j) else none)
  else bif Nat.blt k 3000 then (bif Nat.beq (k % 2) 0 then (match j with
      | 0 => some (107, (k - 1000) / 2)
      | 1 => some (108, (k - 1000) / 2)
      | 2 => some (109, (k - 1000) / 2)
      | 3 => some (110, (k - 1000) / 2)
      | _ => none) else bif Nat.blt j 16 then some (111, 16 * ((k - 1000) / 2) + j) else none)
  else bif Nat.blt k 8000 then (match k % 4 with
      | 0 => some (k, j)
      | 1 => some (k, j)
      | _ => none) else none
/-- I holds the state s -/
def St (s : Nat → Nat → Int32) (I : Nat → Nat → Int32) : Prop := ∀ k j a b, mp k j = some (a, b) → I k j = s a b
theorem XP_geti {X : hX} {s I : Nat → Nat → Int32} {d pc n k a b : Nat} {C : List Instr} {ls r : List Value} {M2 : (Nat → Nat → Int64) × (Nat → Nat → Option Nat) × (Nat → Nat) × (Nat × Nat × Nat × Nat × Nat)} {Q : Option Value → hM → Prop} (hS : St s I) (hC : C.getD pc .nop = .getfield n)
    (hk : (isO k (n / 64) && (Nat.beq (fk (n / 64) (n % 64)) 0 || Nat.beq (fk (n / 64) (n % 64)) 2)) = true) (hm : mp k (n % 64) = some (a, b)) (kk : XP X d C (pc + 1) ls (.int (s a b) :: r) (I, M2) Q) : XP X d C pc ls (.ref k :: r) (I, M2) Q := by
  refine XP_s (M' := (I, M2)) ?_ kk
  rw [hC]
  show (bif (isO k (n / 64) && (Nat.beq (fk (n / 64) (n % 64)) 0 || Nat.beq (fk (n / 64) (n % 64)) 2)) then _ else _) = _
  rw [hk, cond_true, ← hS _ _ _ _ hm]
theorem inB_nI {j n : Nat} (h : j < n) (hn : n < 2147483648) : inB (nI j) n = true := by
  unfold inB
  rw [nI_toInt (by omega)]
  simp
  omega
/-- a number of a row of state, at a counted place -/
theorem XP_iald {X : hX} {s I : Nat → Nat → Int32} {d pc n k a b j : Nat} {C : List Instr} {ls r : List Value} {J : Nat → Nat → Int64} {R : Nat → Nat → Option Nat} {N : Nat → Nat} {G : hG} {Q : Option Value → hM → Prop} (hS : St s I) (hC : C.getD pc .nop = .iaload) (hA : isA k 0 = true) (hj : j < n) (hn : alen N k = n) (h31 : n < 2147483648)
    (hm : mp k j = some (a, b)) (kk : XP X d C (pc + 1) ls (.int (s a b) :: r) (I, J, R, N, G) Q) : XP X d C pc ls (.int (nI j) :: .ref k :: r) (I, J, R, N, G) Q := by
  refine XP_s (M' := (I, J, R, N, G)) ?_ kk
  rw [hC]
  show (bif (isA k 0 && inB (nI j) (alen N k)) then _ else _) = _
  rw [hA, hn, inB_nI hj h31, Bool.and_true, cond_true, ← hS _ _ _ _ hm]
  show some (pc + 1, ls, Value.int (I k (nI j).toNatClampNeg) :: r, _) = _
  rw [nI_clamp (by omega)]
/-- a number of any row -/
theorem XP_iraw {X : hX} {I : Nat → Nat → Int32} {d pc n k j : Nat} {C : List Instr} {ls r : List Value} {J : Nat → Nat → Int64} {R : Nat → Nat → Option Nat} {N : Nat → Nat} {G : hG} {Q : Option Value → hM → Prop} (hC : C.getD pc .nop = .iaload) (hA : isA k 0 = true) (hj : j < n) (hn : alen N k = n) (h31 : n < 2147483648)
    (kk : XP X d C (pc + 1) ls (.int (I k j) :: r) (I, J, R, N, G) Q) : XP X d C pc ls (.int (nI j) :: .ref k :: r) (I, J, R, N, G) Q := by
  refine XP_s (M' := (I, J, R, N, G)) ?_ kk
  rw [hC]
  show (bif (isA k 0 && inB (nI j) (alen N k)) then _ else _) = _
  rw [hA, hn, inB_nI hj h31, Bool.and_true, cond_true]
  show some (pc + 1, ls, Value.int (I k (nI j).toNatClampNeg) :: r, _) = _
  rw [nI_clamp (by omega)]
theorem XP_iast {X : hX} {I : Nat → Nat → Int32} {d pc n k j : Nat} {x : Int32} {C : List Instr} {ls r : List Value} {J : Nat → Nat → Int64} {R : Nat → Nat → Option Nat} {N : Nat → Nat} {G : hG} {Q : Option Value → hM → Prop} (hC : C.getD pc .nop = .iastore) (hA : isA k 0 = true) (hj : j < n) (hn : alen N k = n) (h31 : n < 2147483648)
    (kk : XP X d C (pc + 1) ls r (rw2 I k j x, J, R, N, G) Q) : XP X d C pc ls (.int x :: .int (nI j) :: .ref k :: r) (I, J, R, N, G) Q := by
  refine XP_s (M' := (rw2 I k j x, J, R, N, G)) ?_ kk
  rw [hC]
  show (bif (isA k 0 && inB (nI j) (alen N k)) then _ else _) = _
  rw [hA, hn, inB_nI hj h31, Bool.and_true, cond_true]
  show some (pc + 1, ls, r, (rw2 I k (nI j).toNatClampNeg x, _)) = _
  rw [nI_clamp (by omega)]
theorem XP_idiv {X : hX} {d pc : Nat} {C : List Instr} {ls r : List Value} {M : hM} {x y : Int32} {Q : Option Value → hM → Prop} (hC : C.getD pc .nop = .idiv) (hy : ¬ y = 0) (kk : XP X d C (pc + 1) ls (.int (x / y) :: r) M Q) : XP X d C pc ls (.int y :: .int x :: r) M Q := by
  refine XP_s (M' := M) ?_ kk
  rw [hC]
  simp [sstep, iop, hy]
theorem XP_irem {X : hX} {d pc : Nat} {C : List Instr} {ls r : List Value} {M : hM} {x y : Int32} {Q : Option Value → hM → Prop} (hC : C.getD pc .nop = .irem) (hy : ¬ y = 0) (kk : XP X d C (pc + 1) ls (.int (x - x / y * y) :: r) M Q) : XP X d C pc ls (.int y :: .int x :: r) M Q := by
  refine XP_s (M' := M) ?_ kk
  rw [hC]
  simp [sstep, iop, hy]
theorem b2i_01 (P : Prop) [Decidable P] : (decide (b2i P = 0) || decide (b2i P = 1)) = true := by
  unfold b2i
  split <;> decide
theorem b2i_ne (P : Prop) [Decidable P] : b2i P = 0 ↔ ¬ P := by
  unfold b2i
  split <;> simp_all
