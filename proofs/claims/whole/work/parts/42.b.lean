/-! many steps at once; branches on counted numbers; longs -/
def stepN (X : hX) (C : List Instr) : Nat → hC → Option hC
  | 0, q => some q
  | n + 1, (pc, ls, st, M) => match sstep X (C.getD pc .nop) pc ls st M with
    | some q => stepN X C n q
    | none => none
theorem XP_n {X : hX} {d : Nat} {C : List Instr} {Q : Option Value → hM → Prop} : ∀ (n : Nat) {pc : Nat} {ls st : List Value} {M : hM} {pc' : Nat} {ls' st' : List Value} {M' : hM}, stepN X C n (pc, ls, st, M) = some (pc', ls', st', M') → XP X d C pc' ls' st' M' Q → XP X d C pc ls st M Q
  | 0, _, _, _, _, _, _, _, _, h, k => by cases h; exact k
  | n + 1, pc, ls, st, M, _, _, _, _, h, k => by
    unfold stepN at h
    cases h1 : sstep X (C.getD pc .nop) pc ls st M with
    | none => rw [h1] at h; cases h
    | some q =>
      rw [h1] at h
      obtain ⟨pc1, ls1, st1, M1⟩ := q
      exact XP_s h1 (XP_n n h k)
theorem nI_addE {x y : Int32} {a b : Nat} (hx : x = nI a) (hy : y = nI b) : x + y = nI (a + b) := by rw [hx, hy, nI_add]
theorem nI_mulE {x y : Int32} {a b : Nat} (hx : x = nI a) (hy : y = nI b) : x * y = nI (a * b) := by rw [hx, hy, nI_mul]
theorem nI_subE {x y : Int32} {a b : Nat} (hx : x = nI a) (hy : y = nI b) (h : b ≤ a) : x - y = nI (a - b) := by rw [hx, hy, nI_sub h]
theorem nI_decE {x : Int32} {a : Nat} (hx : x = nI a) (h : 1 ≤ a) : x + cI (-1) = nI (a - 1) := by
  subst hx
  show nI a + -(nI 1) = _
  rw [← nI_sub h, Int32.sub_eq_add_neg]
theorem lN_addE {x y : Int64} {a b : Nat} (hx : x = lN a) (hy : y = lN b) : x + y = lN (a + b) := by rw [hx, hy, lN_add]
theorem lN_mulE {x y : Int64} {a b : Nat} (hx : x = lN a) (hy : y = lN b) : x * y = lN (a * b) := by rw [hx, hy, lN_mul]
theorem lN_subE {x y : Int64} {a b : Nat} (hx : x = lN a) (hy : y = lN b) (h : b ≤ a) : x - y = lN (a - b) := by rw [hx, hy, lN_sub h]
theorem nI_lE {x : Int32} {a : Nat} (hx : x = nI a) (h : a < 2147483648) : x.toInt64 = lN a := by rw [hx, nI_l h]
theorem lN_iE {x : Int64} {a : Nat} (hx : x = lN a) : x.toInt32 = nI a := by rw [hx, lN_i]
abbrev cdN (c : Jvm.ClassFile.Cond) (x y : Nat) : Prop := match c with
  | .eq => x = y
  | .ne => ¬ x = y
  | .lt => x < y
  | .ge => y ≤ x
  | .gt => y < x
  | .le => x ≤ y
abbrev ncdN (c : Jvm.ClassFile.Cond) (x y : Nat) : Prop := match c with
  | .eq => ¬ x = y
  | .ne => x = y
  | .lt => y ≤ x
  | .ge => x < y
  | .gt => x ≤ y
  | .le => y < x
abbrev cdD (c : Jvm.ClassFile.Cond) (x y : Int32) : Prop := match c with
  | .eq => x = y
  | .ne => ¬ x = y
  | .lt => x < y
  | .ge => y ≤ x
  | .gt => y < x
  | .le => x ≤ y
abbrev ncdD (c : Jvm.ClassFile.Cond) (x y : Int32) : Prop := match c with
  | .eq => ¬ x = y
  | .ne => x = y
  | .lt => y ≤ x
  | .ge => x < y
  | .gt => x ≤ y
  | .le => y < x
abbrev cdL (c : Jvm.ClassFile.Cond) (x y : Int64) : Prop := match c with
  | .eq => x = y
  | .ne => ¬ x = y
  | .lt => x < y
  | .ge => y ≤ x
  | .gt => y < x
  | .le => x ≤ y
abbrev ncdL (c : Jvm.ClassFile.Cond) (x y : Int64) : Prop := match c with
  | .eq => ¬ x = y
  | .ne => x = y
  | .lt => y ≤ x
  | .ge => x < y
  | .gt => x ≤ y
  | .le => y < x
theorem cndB_t {c : Jvm.ClassFile.Cond} {x y : Int32} : cndB c x y = true → cdD c x y := by
  cases c <;> exact of_decide_eq_true
theorem cndB_f {c : Jvm.ClassFile.Cond} {x y : Int32} : cndB c x y = false → ncdD c x y := by
  intro h
  cases c
  all_goals (have h := of_decide_eq_false h)
  · exact h
  · exact Classical.not_not.mp h
  · exact Int32.not_lt.mp h
  · exact Int32.not_le.mp h
  · exact Int32.not_lt.mp h
  · exact Int32.not_le.mp h
theorem cdD_N {c : Jvm.ClassFile.Cond} {x y : Nat} (hx : x < 2147483648) (hy : y < 2147483648) : cdD c (nI x) (nI y) → cdN c x y := by
  cases c
  · exact (nI_eq hx hy).mp
  · exact fun h z => h (by rw [z])
  · exact (nI_ltI hx hy).mp
  · exact (nI_leI hy hx).mp
  · exact (nI_ltI hy hx).mp
  · exact (nI_leI hx hy).mp
theorem ncdD_N {c : Jvm.ClassFile.Cond} {x y : Nat} (hx : x < 2147483648) (hy : y < 2147483648) : ncdD c (nI x) (nI y) → ncdN c x y := by
  cases c
  · exact fun h z => h (by rw [z])
  · exact (nI_eq hx hy).mp
  · exact (nI_leI hy hx).mp
  · exact (nI_ltI hx hy).mp
  · exact (nI_leI hx hy).mp
  · exact (nI_ltI hy hx).mp
theorem XP_bif {X : hX} {d : Nat} {C : List Instr} {a b : Nat} {ls st : List Value} {M : hM} {Q : Option Value → hM → Prop} {P P' : Prop} {z : Bool} (e1 : z = true → P) (e2 : z = false → P') (h1 : P → XP X d C a ls st M Q) (h2 : P' → XP X d C b ls st M Q) : XP X d C (bif z then a else b) ls st M Q := by
  cases z with
  | true => exact h1 (e1 rfl)
  | false => exact h2 (e2 rfl)
theorem XP_icD {X : hX} {d : Nat} {C : List Instr} {pc : Nat} {ls r : List Value} {M : hM} {Q : Option Value → hM → Prop} {c : Jvm.ClassFile.Cond} {t : Int} {x y : Int32} (hC : C.getD pc .nop = .if_icmp c t) (h1 : cdD c x y → XP X d C t.toNat ls r M Q) (h2 : ncdD c x y → XP X d C (pc + 1) ls r M Q) : XP X d C pc ls (.int y :: .int x :: r) M Q := by
  refine XP_s (M' := M) (pc' := bif cndB c x y then t.toNat else pc + 1) (ls' := ls) (st' := r) (by rw [hC]; rfl) ?_
  exact XP_bif cndB_t cndB_f h1 h2
theorem XP_icN {X : hX} {d : Nat} {C : List Instr} {pc : Nat} {ls r : List Value} {M : hM} {Q : Option Value → hM → Prop} {c : Jvm.ClassFile.Cond} {t : Int} {x y : Nat} (hC : C.getD pc .nop = .if_icmp c t) (hx : x < 2147483648) (hy : y < 2147483648) (h1 : cdN c x y → XP X d C t.toNat ls r M Q) (h2 : ncdN c x y → XP X d C (pc + 1) ls r M Q) : XP X d C pc ls (.int (nI y) :: .int (nI x) :: r) M Q :=
  XP_icD hC (fun h => h1 (cdD_N hx hy h)) (fun h => h2 (ncdD_N hx hy h))
theorem XP_ifD {X : hX} {d : Nat} {C : List Instr} {pc : Nat} {ls r : List Value} {M : hM} {Q : Option Value → hM → Prop} {c : Jvm.ClassFile.Cond} {t : Int} {x : Int32} (hC : C.getD pc .nop = .ifCond c t) (h1 : cdD c x 0 → XP X d C t.toNat ls r M Q) (h2 : ncdD c x 0 → XP X d C (pc + 1) ls r M Q) : XP X d C pc ls (.int x :: r) M Q := by
  refine XP_s (M' := M) (pc' := bif cndB c x 0 then t.toNat else pc + 1) (ls' := ls) (st' := r) (by rw [hC]; rfl) ?_
  exact XP_bif cndB_t cndB_f h1 h2
theorem XP_ifN {X : hX} {d : Nat} {C : List Instr} {pc : Nat} {ls r : List Value} {M : hM} {Q : Option Value → hM → Prop} {c : Jvm.ClassFile.Cond} {t : Int} {x : Nat} (hC : C.getD pc .nop = .ifCond c t) (hx : x < 2147483648) (h1 : cdN c x 0 → XP X d C t.toNat ls r M Q) (h2 : ncdN c x 0 → XP X d C (pc + 1) ls r M Q) : XP X d C pc ls (.int (nI x) :: r) M Q :=
  XP_ifD hC (fun h => h1 (cdD_N hx (y := 0) (by omega) (nI_0 ▸ h))) (fun h => h2 (ncdD_N hx (y := 0) (by omega) (nI_0 ▸ h)))
theorem lc_eq {x y : Int64} {c : Jvm.ClassFile.Cond} : (cndB c (lg_cmp x y) 0 = true → cdL c x y) ∧ (cndB c (lg_cmp x y) 0 = false → ncdL c x y) := by
  unfold lg_cmp
  by_cases h1 : x < y
  · have h2 : ¬ x = y := fun z => by rw [z] at h1; exact Int64.lt_irrefl h1
    have h3 := Int64.le_of_lt h1
    have h5 : ¬ y < x := Int64.not_lt.mpr h3
    have h6 : ¬ y ≤ x := Int64.not_le.mpr h1
    cases c <;> simp [cndB, h1, h2, h3, h5, h6]
  · by_cases h2 : x = y
    · subst h2
      cases c <;> simp [cndB]
    · have h3 : y < x := Int64.not_le.mp (fun z => (Int64.lt_or_eq_of_le z).elim h1 h2)
      have h4 := Int64.le_of_lt h3
      have h6 : ¬ x ≤ y := Int64.not_le.mpr h3
      cases c <;> simp [cndB, h1, h2, h3, h4, h6]
theorem XP_lcD {X : hX} {d : Nat} {C : List Instr} {pc : Nat} {ls r : List Value} {M : hM} {Q : Option Value → hM → Prop} {c : Jvm.ClassFile.Cond} {t : Int} {x y : Int64} (hC : C.getD pc .nop = .lcmp) (hC2 : C.getD (pc + 1) .nop = .ifCond c t) (h1 : cdL c x y → XP X d C t.toNat ls r M Q) (h2 : ncdL c x y → XP X d C (pc + 1 + 1) ls r M Q) : XP X d C pc ls (.long y :: .long x :: r) M Q := by
  refine XP_s (M' := M) (pc' := pc + 1) (ls' := ls) (st' := .int (lg_cmp x y) :: r) (by rw [hC]; rfl) ?_
  refine XP_s (M' := M) (pc' := bif cndB c (lg_cmp x y) 0 then t.toNat else pc + 1 + 1) (ls' := ls) (st' := r) (by rw [hC2]; rfl) ?_
  exact XP_bif lc_eq.1 lc_eq.2 h1 h2
theorem cdL_N {c : Jvm.ClassFile.Cond} {x y : Nat} (hx : x < 9223372036854775808) (hy : y < 9223372036854775808) : cdL c (lN x) (lN y) → cdN c x y := by
  cases c
  · exact (pk_lEQ hx hy).mp
  · exact fun h z => h (by rw [z])
  · exact (pk_lLT hx hy).mp
  · exact (pk_lLE hy hx).mp
  · exact (pk_lLT hy hx).mp
  · exact (pk_lLE hx hy).mp
theorem ncdL_N {c : Jvm.ClassFile.Cond} {x y : Nat} (hx : x < 9223372036854775808) (hy : y < 9223372036854775808) : ncdL c (lN x) (lN y) → ncdN c x y := by
  cases c
  · exact fun h z => h (by rw [z])
  · exact (pk_lEQ hx hy).mp
  · exact (pk_lLE hy hx).mp
  · exact (pk_lLT hx hy).mp
  · exact (pk_lLE hx hy).mp
  · exact (pk_lLT hy hx).mp
theorem XP_lcN {X : hX} {d : Nat} {C : List Instr} {pc : Nat} {ls r : List Value} {M : hM} {Q : Option Value → hM → Prop} {c : Jvm.ClassFile.Cond} {t : Int} {x y : Nat} (hC : C.getD pc .nop = .lcmp) (hC2 : C.getD (pc + 1) .nop = .ifCond c t) (hx : x < 9223372036854775808) (hy : y < 9223372036854775808) (h1 : cdN c x y → XP X d C t.toNat ls r M Q) (h2 : ncdN c x y → XP X d C (pc + 1 + 1) ls r M Q) : XP X d C pc ls (.long (lN y) :: .long (lN x) :: r) M Q :=
  XP_lcD hC hC2 (fun h => h1 (cdL_N hx hy h)) (fun h => h2 (ncdL_N hx hy h))
theorem XP_idivN {X : hX} {d pc : Nat} {C : List Instr} {ls r : List Value} {M : hM} {a b : Nat} {Q : Option Value → hM → Prop} (hC : C.getD pc .nop = .idiv) (ha : a < 2147483648) (h0 : 0 < b) (hb : b < 2147483648) (kk : XP X d C (pc + 1) ls (.int (nI (a / b)) :: r) M Q) : XP X d C pc ls (.int (nI b) :: .int (nI a) :: r) M Q := by
  refine XP_idiv hC (nI_ne0 h0 hb) ?_
  rw [pk_div ha h0 hb]
  exact kk
theorem XP_iremN {X : hX} {d pc : Nat} {C : List Instr} {ls r : List Value} {M : hM} {a b : Nat} {Q : Option Value → hM → Prop} (hC : C.getD pc .nop = .irem) (ha : a < 2147483648) (h0 : 0 < b) (hb : b < 2147483648) (kk : XP X d C (pc + 1) ls (.int (nI (a % b)) :: r) M Q) : XP X d C pc ls (.int (nI b) :: .int (nI a) :: r) M Q := by
  refine XP_irem hC (nI_ne0 h0 hb) ?_
  rw [pk_rem ha h0 hb]
  exact kk
theorem XP_ldiv {X : hX} {d pc : Nat} {C : List Instr} {ls r : List Value} {M : hM} {x y : Int64} {Q : Option Value → hM → Prop} (hC : C.getD pc .nop = .ldiv) (hy : ¬ y = 0) (kk : XP X d C (pc + 1) ls (.long (x / y) :: r) M Q) : XP X d C pc ls (.long y :: .long x :: r) M Q := by
  refine XP_s (M' := M) ?_ kk
  rw [hC]
  simp [sstep, lop, hy]
theorem XP_lrem {X : hX} {d pc : Nat} {C : List Instr} {ls r : List Value} {M : hM} {x y : Int64} {Q : Option Value → hM → Prop} (hC : C.getD pc .nop = .lrem) (hy : ¬ y = 0) (kk : XP X d C (pc + 1) ls (.long (x - x / y * y) :: r) M Q) : XP X d C pc ls (.long y :: .long x :: r) M Q := by
  refine XP_s (M' := M) ?_ kk
  rw [hC]
  simp [sstep, lop, hy]
theorem lN_nz {b : Nat} (h0 : 0 < b) (hb : b < 9223372036854775808) : ¬ lN b = 0 := fun z => by
  have : lN b = lN 0 := z
  rw [pk_lEQ hb (by omega)] at this
  omega
theorem XP_ldivN {X : hX} {d pc : Nat} {C : List Instr} {ls r : List Value} {M : hM} {a b : Nat} {Q : Option Value → hM → Prop} (hC : C.getD pc .nop = .ldiv) (ha : a < 9223372036854775808) (h0 : 0 < b) (hb : b < 9223372036854775808) (kk : XP X d C (pc + 1) ls (.long (lN (a / b)) :: r) M Q) : XP X d C pc ls (.long (lN b) :: .long (lN a) :: r) M Q := by
  refine XP_ldiv hC (lN_nz h0 hb) ?_
  rw [pk_lDiv ha h0 hb]
  exact kk
theorem XP_lremN {X : hX} {d pc : Nat} {C : List Instr} {ls r : List Value} {M : hM} {a b : Nat} {Q : Option Value → hM → Prop} (hC : C.getD pc .nop = .lrem) (ha : a < 9223372036854775808) (h0 : 0 < b) (hb : b < 9223372036854775808) (kk : XP X d C (pc + 1) ls (.long (lN (a % b)) :: r) M Q) : XP X d C pc ls (.long (lN b) :: .long (lN a) :: r) M Q := by
  refine XP_lrem hC (lN_nz h0 hb) ?_
  rw [pk_lRem ha h0 hb]
  exact kk
theorem XP_braw {X : hX} {I : Nat → Nat → Int32} {d pc n k j : Nat} {C : List Instr} {ls r : List Value} {J : Nat → Nat → Int64} {R : Nat → Nat → Option Nat} {N : Nat → Nat} {G : hG} {Q : Option Value → hM → Prop} (hC : C.getD pc .nop = .baload) (hA : isA k 2 = true) (hj : j < n) (hn : alen N k = n) (h31 : n < 2147483648)
    (kk : XP X d C (pc + 1) ls (.int (I k j) :: r) (I, J, R, N, G) Q) : XP X d C pc ls (.int (nI j) :: .ref k :: r) (I, J, R, N, G) Q := by
  refine XP_s (M' := (I, J, R, N, G)) ?_ kk
  rw [hC]
  show (bif (isA k 2 && inB (nI j) (alen N k)) then _ else _) = _
  rw [hA, hn, inB_nI hj h31, Bool.and_true, cond_true]
  show some (pc + 1, ls, Value.int (I k (nI j).toNatClampNeg) :: r, _) = _
  rw [nI_clamp (by omega)]
theorem XP_lraw {X : hX} {I : Nat → Nat → Int32} {d pc n k j : Nat} {C : List Instr} {ls r : List Value} {J : Nat → Nat → Int64} {R : Nat → Nat → Option Nat} {N : Nat → Nat} {G : hG} {Q : Option Value → hM → Prop} (hC : C.getD pc .nop = .laload) (hA : isA k 1 = true) (hj : j < n) (hn : alen N k = n) (h31 : n < 2147483648)
    (kk : XP X d C (pc + 1) ls (.long (J k j) :: r) (I, J, R, N, G) Q) : XP X d C pc ls (.int (nI j) :: .ref k :: r) (I, J, R, N, G) Q := by
  refine XP_s (M' := (I, J, R, N, G)) ?_ kk
  rw [hC]
  show (bif (isA k 1 && inB (nI j) (alen N k)) then _ else _) = _
  rw [hA, hn, inB_nI hj h31, Bool.and_true, cond_true]
  show some (pc + 1, ls, Value.long (J k (nI j).toNatClampNeg) :: r, _) = _
  rw [nI_clamp (by omega)]
theorem XP_last {X : hX} {I : Nat → Nat → Int32} {d pc n k j : Nat} {x : Int64} {C : List Instr} {ls r : List Value} {J : Nat → Nat → Int64} {R : Nat → Nat → Option Nat} {N : Nat → Nat} {G : hG} {Q : Option Value → hM → Prop} (hC : C.getD pc .nop = .lastore) (hA : isA k 1 = true) (hj : j < n) (hn : alen N k = n) (h31 : n < 2147483648)
    (kk : XP X d C (pc + 1) ls r (I, rw2 J k j x, R, N, G) Q) : XP X d C pc ls (.long x :: .int (nI j) :: .ref k :: r) (I, J, R, N, G) Q := by
  refine XP_s (M' := (I, rw2 J k j x, R, N, G)) ?_ kk
  rw [hC]
  show (bif (isA k 1 && inB (nI j) (alen N k)) then _ else _) = _
  rw [hA, hn, inB_nI hj h31, Bool.and_true, cond_true]
  show some (pc + 1, ls, r, (I, rw2 J k (nI j).toNatClampNeg x, _)) = _
  rw [nI_clamp (by omega)]
theorem XP_bast {X : hX} {I : Nat → Nat → Int32} {d pc n k j : Nat} {x : Int32} {C : List Instr} {ls r : List Value} {J : Nat → Nat → Int64} {R : Nat → Nat → Option Nat} {N : Nat → Nat} {G : hG} {Q : Option Value → hM → Prop} (hC : C.getD pc .nop = .bastore) (hA : isA k 2 = true) (hj : j < n) (hn : alen N k = n) (h31 : n < 2147483648) (h01 : (decide (x = 0) || decide (x = 1)) = true)
    (kk : XP X d C (pc + 1) ls r (rw2 I k j x, J, R, N, G) Q) : XP X d C pc ls (.int x :: .int (nI j) :: .ref k :: r) (I, J, R, N, G) Q := by
  refine XP_s (M' := (rw2 I k j x, J, R, N, G)) ?_ kk
  rw [hC]
  show (bif (isA k 2 && inB (nI j) (alen N k) && (decide (x = 0) || decide (x = 1))) then _ else _) = _
  rw [hA, hn, inB_nI hj h31, h01]
  show some (pc + 1, ls, r, (rw2 I k (nI j).toNatClampNeg x, _)) = _
  rw [nI_clamp (by omega)]
theorem XP_putz {X : hX} {I : Nat → Nat → Int32} {d pc n k : Nat} {x : Int32} {C : List Instr} {ls r : List Value} {J : Nat → Nat → Int64} {R : Nat → Nat → Option Nat} {N : Nat → Nat} {G : hG} {Q : Option Value → hM → Prop} (hC : C.getD pc .nop = .putstatic n) (hk : (isO k (n / 64) && Nat.beq (fk (n / 64) (n % 64)) 2) = true) (h01 : (decide (x = 0) || decide (x = 1)) = true)
    (kk : XP X d C (pc + 1) ls r (rw2 I k (n % 64) x, J, R, N, G) Q) : XP X d C pc ls (.int x :: .ref k :: r) (I, J, R, N, G) Q := by
  refine XP_s (M' := (rw2 I k (n % 64) x, J, R, N, G)) ?_ kk
  rw [hC]
  show (bif (isO k (n / 64) && Nat.beq (fk (n / 64) (n % 64)) 2 && (decide (x = 0) || decide (x = 1))) then _ else _) = _
  rw [hk, h01]
  rfl
theorem St_rwp {s I : Nat → Nat → Int32} {k j : Nat} {x : Int32} (h : St s I) (hm : mp k j = none) : St s (rw2 I k j x) := fun k' j' a b hk => by
  by_cases e : k' = k
  · subst e
    by_cases e2 : j' = j
    · subst e2
      rw [hm] at hk
      cases hk
    · rw [rw2_nj _ _ _ e2]
      exact h _ _ _ _ hk
  · rw [congrFun (rw2_ne _ _ _ e) j']
    exact h _ _ _ _ hk
