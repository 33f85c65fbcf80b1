/-! the class's texts worked off -/
theorem XP_getr {X : hX} {d pc n k a : Nat} {C : List Instr} {ls r : List Value} {I : Nat → Nat → Int32} {J : Nat → Nat → Int64} {R : Nat → Nat → Option Nat} {N : Nat → Nat} {G : hG} {Q : Option Value → hM → Prop} (hC : C.getD pc .nop = .fload n)
    (hk : (isO k (n / 64) && Nat.beq (fk (n / 64) (n % 64)) 3) = true) (hv : Rx R k (n % 64) = some a) (kk : XP X d C (pc + 1) ls (.ref a :: r) (I, J, Rx R, N, G) Q) : XP X d C pc ls (.ref k :: r) (I, J, Rx R, N, G) Q := by
  refine XP_s (M' := (I, J, Rx R, N, G)) ?_ kk
  rw [hC]
  show (bif (isO k (n / 64) && Nat.beq (fk (n / 64) (n % 64)) 3) then some (pc + 1, ls, va_rf (Rx R k (n % 64)) :: r, (I, J, Rx R, N, G)) else none) = _
  rw [hk, cond_true, hv]
  rfl
theorem XP_getw {X : hX} {d pc n k : Nat} {C : List Instr} {ls r : List Value} {I : Nat → Nat → Int32} {J : Nat → Nat → Int64} {R : Nat → Nat → Option Nat} {N : Nat → Nat} {G : hG} {Q : Option Value → hM → Prop} (hC : C.getD pc .nop = .getfield n)
    (hk : (isO k (n / 64) && (Nat.beq (fk (n / 64) (n % 64)) 0 || Nat.beq (fk (n / 64) (n % 64)) 2)) = true) (kk : XP X d C (pc + 1) ls (.int (I k (n % 64)) :: r) (I, J, R, N, G) Q) : XP X d C pc ls (.ref k :: r) (I, J, R, N, G) Q := by
  refine XP_s (M' := (I, J, R, N, G)) ?_ kk
  rw [hC]
  show (bif (isO k (n / 64) && (Nat.beq (fk (n / 64) (n % 64)) 0 || Nat.beq (fk (n / 64) (n % 64)) 2)) then _ else _) = _
  rw [hk, cond_true]
theorem XP_len {X : hX} {d pc n k : Nat} {C : List Instr} {ls r : List Value} {I : Nat → Nat → Int32} {J : Nat → Nat → Int64} {R : Nat → Nat → Option Nat} {N : Nat → Nat} {G : hG} {Q : Option Value → hM → Prop} (hC : C.getD pc .nop = .arraylength)
    (hk : isA k 0 = true) (hn : alen N k = n) (kk : XP X d C (pc + 1) ls (.int (nI n) :: r) (I, J, R, N, G) Q) : XP X d C pc ls (.ref k :: r) (I, J, R, N, G) Q := by
  refine XP_s (M' := (I, J, R, N, G)) ?_ kk
  rw [hC]
  unfold isA at hk
  show (match kd k with
      | .inr _ => some (pc + 1, ls, Value.int (nI (alen N k)) :: r, (I, J, R, N, G))
      | .inl _ => none) = _
  revert hk
  cases kd k with
  | inl c => intro h; cases h
  | inr c => intro _; rw [hn]
theorem XP_neg {X : hX} {d : Nat} {C : List Instr} {a b : Nat} {ls st : List Value} {M : hM} {Q : Option Value → hM → Prop} {x : Nat} (hx : x < 2147483648) (h : XP X d C b ls st M Q) : XP X d C (bif cndB .lt (nI x) 0 then a else b) ls st M Q :=
  XP_dlt (y := 0) hx (by omega) (fun z => absurd z (by omega)) (fun _ => h)
theorem XP_pos {X : hX} {d : Nat} {C : List Instr} {a b : Nat} {ls st : List Value} {M : hM} {Q : Option Value → hM → Prop} {x : Nat} (hx : x < 2147483648) (h0 : 0 < x) (h : XP X d C b ls st M Q) : XP X d C (bif cndB .le (nI x) 0 then a else b) ls st M Q :=
  XP_dle (y := 0) hx (by omega) (fun z => absurd z (by omega)) (fun _ => h)
theorem XP_tab {X : hX} {d pc : Nat} {C : List Instr} {ls r : List Value} {M : hM} {Q : Option Value → hM → Prop} (x lo hi t : Nat) {d' lo' hi' : Int} {ts : Array Int} (hC : C.getD pc .nop = .tableswitch d' lo' hi' ts) (hx : x < 2147483648) (hl : lo' = (lo : Int)) (hh : hi' = (hi : Int)) (h1 : lo ≤ x) (h2 : x ≤ hi) (ht : (ts.toList.getD (x - lo) 0).toNat = t) (kk : XP X d C t ls r M Q) : XP X d C pc ls (.int (nI x) :: r) M Q := by
  refine XP_s (M' := M) ?_ kk
  rw [hC]
  show some (if (nI x).toInt < lo' ∨ hi' < (nI x).toInt then d'.toNat else (ts.toList.getD ((nI x).toInt - lo').toNat 0).toNat, ls, r, M) = _
  rw [nI_toInt (by omega), hl, hh, if_neg (by omega), show ((x : Int) - lo).toNat = x - lo by omega, ht]
theorem XP_tabD {X : hX} {d pc : Nat} {C : List Instr} {ls r : List Value} {M : hM} {Q : Option Value → hM → Prop} (x lo hi t : Nat) {d' lo' hi' : Int} {ts : Array Int} (hC : C.getD pc .nop = .tableswitch d' lo' hi' ts) (hx : x < 2147483648) (hl : lo' = (lo : Int)) (hh : hi' = (hi : Int)) (h1 : x < lo ∨ hi < x) (ht : d'.toNat = t) (kk : XP X d C t ls r M Q) : XP X d C pc ls (.int (nI x) :: r) M Q := by
  refine XP_s (M' := M) ?_ kk
  rw [hC]
  show some (if (nI x).toInt < lo' ∨ hi' < (nI x).toInt then d'.toNat else (ts.toList.getD ((nI x).toInt - lo').toNat 0).toNat, ls, r, M) = _
  rw [nI_toInt (by omega), hl, hh, if_pos (by omega), ht]
/-- a sign of the model's text, as the class writes it -/
def trS (c : Nat) : Nat := if 100000 ≤ c then c - 100000 else if c < 11 then c + 10000 else c + 9999
/-- a text of the class: object o, its signs, stack and names -/
def TxL (R : Nat → Nat → Option Nat) (N : Nat → Nat) (o sg sk nl L : Nat) : Prop := (isO o 9 && true) = true ∧ Rx R o 0 = some sg ∧ Rx R o 3 = some sk ∧ Rx R o 4 = some nl ∧ isA sg 0 = true ∧ isA sk 0 = true ∧ isA nl 0 = true ∧ alen N sg = L ∧ alen N sk = L ∧ alen N nl = 6 ∧ sg ≠ sk ∧ nl ≠ sk ∧ nl ≠ sg ∧ L ≤ 200
theorem v_take (X : hX) (d : Nat) {J : Nat → Nat → Int64} {R : Nat → Nat → Option Nat} {N : Nat → Nat} {G : hG} {o sg sk nl L : Nat} (hT : TxL R N o sg sk nl L) {I : Nat → Nat → Int32} {fr : Value} {te : Int32} {Q : Option Value → hM → Prop} {h tk : Nat} {a b : Int32} {x6 : Int32} {x4 w5 w7 w8 w9 : Value} (h1 : 1 ≤ tk) (h2 : tk ≤ h) (hL : h ≤ L) (ha : I sk (h - tk) = a) (hb : I sk (h - 1) = b)
    (kk : XP X d k_Text_value 63 [.ref o, fr, .int te, .int (nI (h - tk)), x4, w5, .int x6, .int (nI tk), .int a, .int b] [] (I, J, Rx R, N, G) Q) : XP X d k_Text_value 33 [.ref o, fr, .int te, .int (nI h), x4, w5, .int x6, w7, w8, w9] [.int (nI tk)] (I, J, Rx R, N, G) Q := by
  obtain ⟨to9, tr0, tr3, tr4, ta0, ta3, ta4, tl0, tl3, tl4, tn1, tn2, tn3, tle⟩ := hT
  subst ha hb
  refine XP_s rfl ?_
  refine XP_s rfl ?_
  refine XP_s rfl ?_
  refine XP_s rfl ?_
  rw [nI_sub h2]
  refine XP_s rfl ?_
  show XP X d k_Text_value 38 [.ref o, fr, .int te, .int (nI (h - tk)), x4, w5, .int x6, .int (nI tk), w8, w9] [] (I, J, Rx R, N, G) Q
  refine XP_s rfl ?_
  refine XP_s rfl ?_
  refine XP_neg (x := h - tk) (by omega) ?_
  refine XP_s rfl ?_
  refine XP_s rfl ?_
  refine XP_s rfl ?_
  refine XP_s rfl ?_
  refine XP_getr rfl to9 tr3 ?_
  refine XP_len rfl ta3 tl3 ?_
  rw [nI_add, Nat.sub_add_cancel h2]
  refine XP_s rfl ?_
  refine XP_dle (by omega) (by omega) (fun _ => ?_) (fun z => absurd z (by omega))
  refine XP_s rfl ?_
  refine XP_getr rfl to9 tr3 ?_
  refine XP_s rfl ?_
  refine XP_irawE (h - tk) rfl rfl ta3 tl3 (by omega) (by omega) ?_
  refine XP_s rfl ?_
  show XP X d k_Text_value 54 [.ref o, fr, .int te, .int (nI (h - tk)), x4, w5, .int x6, .int (nI tk), .int (I sk (h - tk)), w9] [] (I, J, Rx R, N, G) Q
  refine XP_s rfl ?_
  refine XP_getr rfl to9 tr3 ?_
  refine XP_s rfl ?_
  refine XP_s rfl ?_
  refine XP_s rfl ?_
  refine XP_s rfl ?_
  refine XP_s rfl ?_
  refine XP_irawE (h - 1) (by rw [cI_1, nI_add, Nat.sub_add_cancel h2, nI_sub (by omega)]) rfl ta3 tl3 (by omega) (by omega) ?_
  refine XP_s rfl ?_
  exact kk
theorem v_put (X : hX) (d : Nat) {J : Nat → Nat → Int64} {R : Nat → Nat → Option Nat} {N : Nat → Nat} {G : hG} {o sg sk nl L : Nat} (hT : TxL R N o sg sk nl L) {I : Nat → Nat → Int32} {fr : Value} {te : Int32} {Q : Option Value → hM → Prop} {h k : Nat} {x : Int32} {w5 w7 w8 w9 : Value} (hh : h < L)
    (kk : XP X d k_Text_value 4 [.ref o, fr, .int te, .int (nI (h + 1)), .int (nI (k + 1)), w5, .int x, w7, w8, w9] [] (rw2 I sk h x, J, Rx R, N, G) Q) : XP X d k_Text_value 138 [.ref o, fr, .int te, .int (nI h), .int (nI k), w5, .int x, w7, w8, w9] [] (I, J, Rx R, N, G) Q := by
  obtain ⟨to9, tr0, tr3, tr4, ta0, ta3, ta4, tl0, tl3, tl4, tn1, tn2, tn3, tle⟩ := hT
  refine XP_s rfl ?_
  refine XP_s rfl ?_
  refine XP_neg (by omega) ?_
  refine XP_s rfl ?_
  refine XP_s rfl ?_
  refine XP_getr rfl to9 tr3 ?_
  refine XP_len rfl ta3 tl3 ?_
  refine XP_s rfl ?_
  refine XP_dlt (by omega) (by omega) (fun _ => ?_) (fun z => absurd z (by omega))
  refine XP_s rfl ?_
  refine XP_getr rfl to9 tr3 ?_
  refine XP_s rfl ?_
  refine XP_s rfl ?_
  refine XP_s rfl ?_
  refine XP_iastE h rfl rfl ta3 tl3 hh (by omega) ?_
  refine XP_s rfl ?_
  refine XP_s rfl ?_
  rw [← nI_1, ← nI_1] at kk
  exact kk
theorem v_head (X : hX) (d : Nat) {J : Nat → Nat → Int64} {R : Nat → Nat → Option Nat} {N : Nat → Nat} {G : hG} {o sg sk nl L : Nat} (hT : TxL R N o sg sk nl L) {I : Nat → Nat → Int32} {fr : Value} {te : Int32} {Q : Option Value → hM → Prop} {k e c : Nat} {x3 w5 w6 w7 w8 w9 : Value} (hk : k < e) (he : e ≤ L) (hc : I sg k = nI c)
    (kk : XP X d k_Text_value 21 [.ref o, fr, .int (nI e), x3, .int (nI k), .int (nI c), .int (nI c), w7, w8, w9] [] (I, J, Rx R, N, G) Q) : XP X d k_Text_value 4 [.ref o, fr, .int (nI e), x3, .int (nI k), w5, w6, w7, w8, w9] [] (I, J, Rx R, N, G) Q := by
  obtain ⟨to9, tr0, tr3, tr4, ta0, ta3, ta4, tl0, tl3, tl4, tn1, tn2, tn3, tle⟩ := hT
  refine XP_s rfl ?_
  refine XP_s rfl ?_
  refine XP_s rfl ?_
  refine XP_dle (by omega) (by omega) (fun h => absurd h (by omega)) (fun _ => ?_)
  refine XP_s rfl ?_
  refine XP_s rfl ?_
  refine XP_neg (by omega) ?_
  refine XP_s rfl ?_
  refine XP_s rfl ?_
  refine XP_getr rfl to9 tr0 ?_
  refine XP_len rfl ta0 tl0 ?_
  refine XP_s rfl ?_
  refine XP_dle (by omega) (by omega) (fun h => absurd h (by omega)) (fun _ => ?_)
  refine XP_s rfl ?_
  refine XP_getr rfl to9 tr0 ?_
  refine XP_s rfl ?_
  refine XP_irawE k rfl rfl ta0 tl0 (by omega) (by omega) ?_
  rw [hc]
  refine XP_s rfl ?_
  refine XP_s rfl ?_
  refine XP_s rfl ?_
  exact kk
theorem v_num (X : hX) (d : Nat) {M : hM} {v : Nat} {q0 fr tt x3 x4 w6 w7 w8 w9 : Value} {Q : Option Value → hM → Prop} (hv : v < 10000)
    (kk : XP X d k_Text_value 138 [q0, fr, tt, x3, x4, .int (nI v), w6, w7, w8, w9] [] M Q) : XP X d k_Text_value 21 [q0, fr, tt, x3, x4, .int (nI v), w6, w7, w8, w9] [] M Q := by
  refine XP_s rfl ?_
  refine XP_s rfl ?_
  refine XP_s rfl ?_
  rw [cI_10010]
  refine XP_dlt (x := v) (y := 10010) (by omega) (by omega) (fun _ => ?_) (fun h => absurd h (by omega))
  refine XP_s rfl ?_
  refine XP_s rfl ?_
  refine XP_s rfl ?_
  rw [cI_10000]
  exact XP_dlt (x := v) (y := 10000) (by omega) (by omega) (fun _ => kk) (fun h => absurd h (by omega))
theorem v_name (X : hX) (d : Nat) {J : Nat → Nat → Int64} {R : Nat → Nat → Option Nat} {N : Nat → Nat} {G : hG} {o sg sk nl L : Nat} (hT : TxL R N o sg sk nl L) {I : Nat → Nat → Int32} {fr : Value} {te : Int32} {Q : Option Value → hM → Prop} {c v : Nat} {x : Int32} {x3 x4 w6 w7 w8 w9 : Value} (hc : c < 6) (hv : v = c + 10000) (hx : I nl c = x)
    (kk : XP X d k_Text_value 138 [.ref o, fr, .int te, x3, x4, .int (nI v), .int x, w7, w8, w9] [] (I, J, Rx R, N, G) Q) : XP X d k_Text_value 21 [.ref o, fr, .int te, x3, x4, .int (nI v), w6, w7, w8, w9] [] (I, J, Rx R, N, G) Q := by
  obtain ⟨to9, tr0, tr3, tr4, ta0, ta3, ta4, tl0, tl3, tl4, tn1, tn2, tn3, tle⟩ := hT
  refine XP_s rfl ?_
  refine XP_s rfl ?_
  refine XP_s rfl ?_
  rw [cI_10010]
  refine XP_dlt (x := v) (y := 10010) (by omega) (by omega) (fun _ => ?_) (fun h => absurd h (by omega))
  refine XP_s rfl ?_
  refine XP_s rfl ?_
  refine XP_s rfl ?_
  rw [cI_10000]
  refine XP_dlt (x := v) (y := 10000) (by omega) (by omega) (fun h => absurd h (by omega)) (fun _ => ?_)
  refine XP_s rfl ?_
  refine XP_s rfl ?_
  refine XP_s rfl ?_
  rw [cI_10006]
  refine XP_dle (x := 10006) (by omega) (by omega) (fun h => absurd h (by omega)) (fun _ => ?_)
  refine XP_s rfl ?_
  refine XP_getr rfl to9 tr4 ?_
  refine XP_s rfl ?_
  refine XP_s rfl ?_
  refine XP_s rfl ?_
  refine XP_irawE c (by rw [hv, cI_10000, nI_sub (by omega), Nat.add_sub_cancel]) rfl ta4 tl4 hc (by omega) ?_
  rw [hx]
  refine XP_s rfl ?_
  exact kk
/-- how many a sign takes -/
theorem v_tk (X : hX) (d : Nat) {M : hM} {v : Nat} {q0 fr tt x3 x4 w6 w7 w8 w9 : Value} {Q : Option Value → hM → Prop} (hv : 10010 ≤ v) (h31 : v < 2147483648)
    (kk : XP X d k_Text_value 33 [q0, fr, tt, x3, x4, .int (nI v), w6, w7, w8, w9] [.int (nI (if v = 10012 ∨ v = 10018 then 1 else 2))] M Q) : XP X d k_Text_value 21 [q0, fr, tt, x3, x4, .int (nI v), w6, w7, w8, w9] [] M Q := by
  refine XP_s rfl ?_
  refine XP_s rfl ?_
  refine XP_s rfl ?_
  rw [cI_10010]
  refine XP_dlt (x := v) (y := 10010) (by omega) (by omega) (fun h => absurd h (by omega)) (fun _ => ?_)
  refine XP_s rfl ?_
  refine XP_s rfl ?_
  refine XP_s rfl ?_
  rw [cI_10012]
  refine XP_deq (x := v) (y := 10012) (by omega) (by omega) (fun h => ?_) (fun h => ?_)
  · rw [if_pos (Or.inl h)] at kk
    refine XP_s rfl ?_
    refine XP_s rfl ?_
    exact kk
  · refine XP_s rfl ?_
    refine XP_s rfl ?_
    refine XP_s rfl ?_
    rw [cI_10018]
    refine XP_dne (x := v) (y := 10018) (by omega) (by omega) (fun h' => ?_) (fun h' => ?_)
    · rw [if_neg (by omega)] at kk
      refine XP_s rfl ?_
      exact kk
    · rw [if_pos (Or.inr h')] at kk
      refine XP_s rfl ?_
      refine XP_s rfl ?_
      exact kk
theorem v_not (X : hX) (d : Nat) {M : hM} {a b : Int32} {q0 fr tt x3 x4 w6 w7 : Value} {Q : Option Value → hM → Prop}
    (kk : XP X d k_Text_value 138 [q0, fr, tt, x3, x4, .int (nI 10012), .int (b2i (a = 0)), w7, .int a, .int b] [] M Q) : XP X d k_Text_value 63 [q0, fr, tt, x3, x4, .int (nI 10012), w6, w7, .int a, .int b] [] M Q := by
  refine XP_s rfl ?_
  refine XP_tab 10012 10010 10017 83 rfl (by omega) rfl rfl (by omega) (by omega) rfl ?_
  refine XP_s rfl ?_
  refine XP_s rfl ?_
  refine XP_dec (fun h => ?_) (fun h => ?_)
  · rw [show b2i (a = 0) = cI 0 by (simp [b2i, h, cI]; rfl)] at kk
    refine XP_s rfl ?_
    refine XP_s rfl ?_
    refine XP_s rfl ?_
    refine XP_s rfl ?_
    exact kk
  · rw [show b2i (a = 0) = cI 1 by (simp_all [b2i, cI]; rfl)] at kk
    refine XP_s rfl ?_
    refine XP_s rfl ?_
    refine XP_s rfl ?_
    refine XP_s rfl ?_
    refine XP_s rfl ?_
    exact kk
theorem v_mns (X : hX) (d : Nat) {M : hM} {a b : Int32} {q0 fr tt x3 x4 w6 w7 : Value} {Q : Option Value → hM → Prop}
    (kk : XP X d k_Text_value 138 [q0, fr, tt, x3, x4, .int (nI 10018), .int (-a), w7, .int a, .int b] [] M Q) : XP X d k_Text_value 63 [q0, fr, tt, x3, x4, .int (nI 10018), w6, w7, .int a, .int b] [] M Q := by
  refine XP_s rfl ?_
  refine XP_tabD 10018 10010 10017 121 rfl (by omega) rfl rfl (by omega) rfl ?_
  refine XP_s rfl ?_
  refine XP_s rfl ?_
  refine XP_s rfl ?_
  refine XP_s rfl ?_
  exact kk
theorem v_two (X : hX) (d : Nat) {M : hM} {c v : Nat} {a b : Int32} {q0 fr tt x3 x4 w6 w7 : Value} {Q : Option Value → hM → Prop} (hc : 11 ≤ c ∧ c ≤ 18 ∧ c ≠ 13) (hv : v = c + 9999)
    (kk : ∀ x, x = two c a b → XP X d k_Text_value 138 [q0, fr, tt, x3, x4, .int (nI v), .int x, w7, .int a, .int b] [] M Q) : XP X d k_Text_value 63 [q0, fr, tt, x3, x4, .int (nI v), w6, w7, .int a, .int b] [] M Q := by
  have h9 : c = 11 ∨ c = 12 ∨ c = 14 ∨ c = 15 ∨ c = 16 ∨ c = 17 ∨ c = 18 := by omega
  rcases h9 with rfl | rfl | rfl | rfl | rfl | rfl | rfl
  · obtain rfl : v = 10010 := by omega
    refine XP_s rfl ?_
    refine XP_tab 10010 10010 10017 65 rfl (by omega) rfl rfl (by omega) (by omega) rfl ?_
    repeat' (first | refine kk _ ?_ | refine XP_dec (fun h => ?_) (fun h => ?_) | refine XP_s rfl ?_)
    all_goals (simp_all [two, b2i, cI, nI_0]; try rfl)
  · obtain rfl : v = 10011 := by omega
    refine XP_s rfl ?_
    refine XP_tab 10011 10010 10017 74 rfl (by omega) rfl rfl (by omega) (by omega) rfl ?_
    repeat' (first | refine kk _ ?_ | refine XP_dec (fun h => ?_) (fun h => ?_) | refine XP_s rfl ?_)
    all_goals (simp_all [two, b2i, cI, nI_0]; try rfl)
  · obtain rfl : v = 10013 := by omega
    refine XP_s rfl ?_
    refine XP_tab 10013 10010 10017 90 rfl (by omega) rfl rfl (by omega) (by omega) rfl ?_
    repeat' (first | refine kk _ ?_ | refine XP_dec (fun h => ?_) (fun h => ?_) | refine XP_s rfl ?_)
    all_goals (simp_all [two, b2i, cI, nI_0]; try rfl)
  · obtain rfl : v = 10014 := by omega
    refine XP_s rfl ?_
    refine XP_tab 10014 10010 10017 98 rfl (by omega) rfl rfl (by omega) (by omega) rfl ?_
    repeat' (first | refine kk _ ?_ | refine XP_dec (fun h => ?_) (fun h => ?_) | refine XP_s rfl ?_)
    all_goals (simp_all [two, b2i, cI, nI_0]; try rfl)
  · obtain rfl : v = 10015 := by omega
    refine XP_s rfl ?_
    refine XP_tab 10015 10010 10017 106 rfl (by omega) rfl rfl (by omega) (by omega) rfl ?_
    repeat' (first | refine kk _ ?_ | refine XP_dec (fun h => ?_) (fun h => ?_) | refine XP_s rfl ?_)
    all_goals (simp_all [two, b2i, cI, nI_0]; try rfl)
  · obtain rfl : v = 10016 := by omega
    refine XP_s rfl ?_
    refine XP_tab 10016 10010 10017 111 rfl (by omega) rfl rfl (by omega) (by omega) rfl ?_
    repeat' (first | refine kk _ ?_ | refine XP_dec (fun h => ?_) (fun h => ?_) | refine XP_s rfl ?_)
    all_goals (simp_all [two, b2i, cI, nI_0]; try rfl)
  · obtain rfl : v = 10017 := by omega
    refine XP_s rfl ?_
    refine XP_tab 10017 10010 10017 116 rfl (by omega) rfl rfl (by omega) (by omega) rfl ?_
    repeat' (first | refine kk _ ?_ | refine XP_dec (fun h => ?_) (fun h => ?_) | refine XP_s rfl ?_)
    all_goals (simp_all [two, b2i, cI, nI_0]; try rfl)
