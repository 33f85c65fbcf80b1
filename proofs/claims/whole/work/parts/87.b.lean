/-! reads under one half of the state -/
theorem XP_getiM {X : hX} {s I : Nat → Nat → Int32} {d pc n k a b : Nat} {C : List Instr} {ls r : List Value} {M2 : (Nat → Nat → Int64) × (Nat → Nat → Option Nat) × (Nat → Nat) × (Nat × Nat × Nat × Nat × Nat)} {Q : Option Value → hM → Prop} (hS : StM s I) (hC : C.getD pc .nop = .getfield n)
    (hk : (isO k (n / 64) && (Nat.beq (fk (n / 64) (n % 64)) 0 || Nat.beq (fk (n / 64) (n % 64)) 2)) = true) (hm : mpM k (n % 64) = some (a, b)) (kk : XP X d C (pc + 1) ls (.int (s a b) :: r) (I, M2) Q) : XP X d C pc ls (.ref k :: r) (I, M2) Q := by
  refine XP_s (M' := (I, M2)) ?_ kk
  rw [hC]
  show (bif (isO k (n / 64) && (Nat.beq (fk (n / 64) (n % 64)) 0 || Nat.beq (fk (n / 64) (n % 64)) 2)) then _ else _) = _
  rw [hk, cond_true, ← hS _ _ _ _ hm]
theorem XP_ialdM {X : hX} {s I : Nat → Nat → Int32} {d pc n k a b j : Nat} {C : List Instr} {ls r : List Value} {J : Nat → Nat → Int64} {R : Nat → Nat → Option Nat} {N : Nat → Nat} {G : hG} {Q : Option Value → hM → Prop} (hS : StM s I) (hC : C.getD pc .nop = .iaload) (hA : isA k 0 = true) (hj : j < n) (hn : alen N k = n) (h31 : n < 2147483648)
    (hm : mpM k j = some (a, b)) (kk : XP X d C (pc + 1) ls (.int (s a b) :: r) (I, J, R, N, G) Q) : XP X d C pc ls (.int (nI j) :: .ref k :: r) (I, J, R, N, G) Q := by
  refine XP_s (M' := (I, J, R, N, G)) ?_ kk
  rw [hC]
  show (bif (isA k 0 && inB (nI j) (alen N k)) then _ else _) = _
  rw [hA, hn, inB_nI hj h31, Bool.and_true, cond_true, ← hS _ _ _ _ hm]
  show some (pc + 1, ls, Value.int (I k (nI j).toNatClampNeg) :: r, _) = _
  rw [nI_clamp (by omega)]
theorem XP_getiC {X : hX} {s I : Nat → Nat → Int32} {d pc n k a b : Nat} {C : List Instr} {ls r : List Value} {M2 : (Nat → Nat → Int64) × (Nat → Nat → Option Nat) × (Nat → Nat) × (Nat × Nat × Nat × Nat × Nat)} {Q : Option Value → hM → Prop} (hS : StC s I) (hC : C.getD pc .nop = .getfield n)
    (hk : (isO k (n / 64) && (Nat.beq (fk (n / 64) (n % 64)) 0 || Nat.beq (fk (n / 64) (n % 64)) 2)) = true) (hm : mpC k (n % 64) = some (a, b)) (kk : XP X d C (pc + 1) ls (.int (s a b) :: r) (I, M2) Q) : XP X d C pc ls (.ref k :: r) (I, M2) Q := by
  refine XP_s (M' := (I, M2)) ?_ kk
  rw [hC]
  show (bif (isO k (n / 64) && (Nat.beq (fk (n / 64) (n % 64)) 0 || Nat.beq (fk (n / 64) (n % 64)) 2)) then _ else _) = _
  rw [hk, cond_true, ← hS _ _ _ _ hm]
theorem XP_ialdC {X : hX} {s I : Nat → Nat → Int32} {d pc n k a b j : Nat} {C : List Instr} {ls r : List Value} {J : Nat → Nat → Int64} {R : Nat → Nat → Option Nat} {N : Nat → Nat} {G : hG} {Q : Option Value → hM → Prop} (hS : StC s I) (hC : C.getD pc .nop = .iaload) (hA : isA k 0 = true) (hj : j < n) (hn : alen N k = n) (h31 : n < 2147483648)
    (hm : mpC k j = some (a, b)) (kk : XP X d C (pc + 1) ls (.int (s a b) :: r) (I, J, R, N, G) Q) : XP X d C pc ls (.int (nI j) :: .ref k :: r) (I, J, R, N, G) Q := by
  refine XP_s (M' := (I, J, R, N, G)) ?_ kk
  rw [hC]
  show (bif (isA k 0 && inB (nI j) (alen N k)) then _ else _) = _
  rw [hA, hn, inB_nI hj h31, Bool.and_true, cond_true, ← hS _ _ _ _ hm]
  show some (pc + 1, ls, Value.int (I k (nI j).toNatClampNeg) :: r, _) = _
  rw [nI_clamp (by omega)]
/-- between the class's call and the model's: the class holds s', the model still s -/
def Mid (s s' : Nat → Nat → Int32) (R : Nat → Nat → Option Nat) (N : Nat → Nat) (I : Nat → Nat → Int32) (J : Nat → Nat → Int64) : Prop := StC s' I ∧ StM s I ∧ Wf s' ∧ Lk s' R N ∧ Cch s' I J ∧ iN 0 1000000 (s' 1 15) ∧ wN (s' 1 15) ≤ wN (s 1 15) + 20
