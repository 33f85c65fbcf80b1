/-! more rules -/
theorem XP_dle {X : hX} {d : Nat} {C : List Instr} {a b : Nat} {ls st : List Value} {M : hM} {Q : Option Value → hM → Prop} {x y : Nat} (hx : x < 2147483648) (hy : y < 2147483648) (h1 : x ≤ y → XP X d C a ls st M Q) (h2 : y < x → XP X d C b ls st M Q) : XP X d C (bif decide (nI x ≤ nI y) then a else b) ls st M Q :=
  XP_dec (fun h => h1 ((nI_leI hx hy).mp h)) (fun h => h2 (Nat.not_le.mp (fun z => h ((nI_leI hx hy).mpr z))))
theorem XP_dlt {X : hX} {d : Nat} {C : List Instr} {a b : Nat} {ls st : List Value} {M : hM} {Q : Option Value → hM → Prop} {x y : Nat} (hx : x < 2147483648) (hy : y < 2147483648) (h1 : x < y → XP X d C a ls st M Q) (h2 : y ≤ x → XP X d C b ls st M Q) : XP X d C (bif decide (nI x < nI y) then a else b) ls st M Q :=
  XP_dec (fun h => h1 ((nI_ltI hx hy).mp h)) (fun h => h2 (Nat.not_lt.mp (fun z => h ((nI_ltI hx hy).mpr z))))
theorem XP_deq {X : hX} {d : Nat} {C : List Instr} {a b : Nat} {ls st : List Value} {M : hM} {Q : Option Value → hM → Prop} {x y : Nat} (hx : x < 2147483648) (hy : y < 2147483648) (h1 : x = y → XP X d C a ls st M Q) (h2 : x ≠ y → XP X d C b ls st M Q) : XP X d C (bif decide (nI x = nI y) then a else b) ls st M Q :=
  XP_dec (fun h => h1 ((nI_eq hx hy).mp h)) (fun h => h2 (fun z => h (by rw [z])))
theorem XP_dne {X : hX} {d : Nat} {C : List Instr} {a b : Nat} {ls st : List Value} {M : hM} {Q : Option Value → hM → Prop} {x y : Nat} (hx : x < 2147483648) (hy : y < 2147483648) (h1 : x ≠ y → XP X d C a ls st M Q) (h2 : x = y → XP X d C b ls st M Q) : XP X d C (bif decide (¬ nI x = nI y) then a else b) ls st M Q :=
  XP_dec (fun h => h1 (fun z => h (by rw [z]))) (fun h => h2 ((nI_eq hx hy).mp (Classical.not_not.mp h)))
/-- a number of a row of state, at a place that is told by an equation -/
theorem XP_ialdE {X : hX} {s I : Nat → Nat → Int32} {d pc n k a b : Nat} (j : Nat) {i : Int32} {C : List Instr} {ls r : List Value} {J : Nat → Nat → Int64} {R : Nat → Nat → Option Nat} {N : Nat → Nat} {G : hG} {Q : Option Value → hM → Prop} (hi : i = nI j) (hS : St s I) (hC : C.getD pc .nop = .iaload) (hA : isA k 0 = true) (hn : alen N k = n) (hj : j < n) (h31 : n < 2147483648)
    (hm : mp k j = some (a, b)) (kk : XP X d C (pc + 1) ls (.int (s a b) :: r) (I, J, R, N, G) Q) : XP X d C pc ls (.int i :: .ref k :: r) (I, J, R, N, G) Q := by
  subst hi
  exact XP_iald hS hC hA hj hn h31 hm kk
theorem XP_irawE {X : hX} {I : Nat → Nat → Int32} {d pc n k : Nat} (j : Nat) {i : Int32} {C : List Instr} {ls r : List Value} {J : Nat → Nat → Int64} {R : Nat → Nat → Option Nat} {N : Nat → Nat} {G : hG} {Q : Option Value → hM → Prop} (hi : i = nI j) (hC : C.getD pc .nop = .iaload) (hA : isA k 0 = true) (hn : alen N k = n) (hj : j < n) (h31 : n < 2147483648)
    (kk : XP X d C (pc + 1) ls (.int (I k j) :: r) (I, J, R, N, G) Q) : XP X d C pc ls (.int i :: .ref k :: r) (I, J, R, N, G) Q := by
  subst hi
  exact XP_iraw hC hA hj hn h31 kk
theorem XP_iastE {X : hX} {I : Nat → Nat → Int32} {d pc n k : Nat} (j : Nat) {i x : Int32} {C : List Instr} {ls r : List Value} {J : Nat → Nat → Int64} {R : Nat → Nat → Option Nat} {N : Nat → Nat} {G : hG} {Q : Option Value → hM → Prop} (hi : i = nI j) (hC : C.getD pc .nop = .iastore) (hA : isA k 0 = true) (hn : alen N k = n) (hj : j < n) (h31 : n < 2147483648)
    (kk : XP X d C (pc + 1) ls r (rw2 I k j x, J, R, N, G) Q) : XP X d C pc ls (.int x :: .int i :: .ref k :: r) (I, J, R, N, G) Q := by
  subst hi
  exact XP_iast hC hA hj hn h31 kk
theorem nI_sub {a b : Nat} (h : b ≤ a) : nI a - nI b = nI (a - b) := pk_sub h
theorem nI_mul (a b : Nat) : nI a * nI b = nI (a * b) := pk_mul a b
theorem upd_at {α : Type} (f : Nat → Int32) (k : Nat) (x : Int32) : upd f k x k = x := pk_us
theorem two_ok {c : Nat} (h : okc c) (h1 : ¬ 100000 ≤ c) (h2 : ¬ c < 11) (h3 : c ≠ 13) (h4 : c ≠ 19) : 11 ≤ c ∧ c ≤ 18 ∧ c ≠ 13 := by
  unfold okc at h
  omega
/-- what the model's stack row holds, one sign later -/
theorem row_step {I : Nat → Nat → Int32} {f : Nat → Int32} {k h j : Nat} {x : Int32} (hI : ∀ i, i < h → I k i = f i) {h' : Nat} (hh : ∀ i, i < h' → i = j ∨ i < h) : ∀ i, i < h' → rw2 I k j x k i = upd f j x i := by
  intro i hi
  by_cases e : i = j
  · subst e
    rw [rw2_at, pk_us]
  · rw [rw2_nj _ _ _ e, pk_un e]
    rcases hh i hi with h1 | h1
    · exact absurd h1 e
    · exact hI i h1
theorem cI_m999 : cI (-999) = -(nI 999) := rfl
theorem cI_m100 : cI (-100) = -(nI 100) := rfl
theorem cI_m14 : cI (-14) = -(nI 14) := rfl
theorem cI_m13 : cI (-13) = -(nI 13) := rfl
theorem cI_m12 : cI (-12) = -(nI 12) := rfl
theorem cI_m11 : cI (-11) = -(nI 11) := rfl
theorem cI_m7 : cI (-7) = -(nI 7) := rfl
theorem cI_m5 : cI (-5) = -(nI 5) := rfl
theorem cI_m4 : cI (-4) = -(nI 4) := rfl
theorem cI_m3 : cI (-3) = -(nI 3) := rfl
theorem cI_m2 : cI (-2) = -(nI 2) := rfl
theorem cI_m1 : cI (-1) = -(nI 1) := rfl
theorem cI_0 : cI 0 = nI 0 := rfl
theorem cI_1 : cI 1 = nI 1 := rfl
theorem cI_2 : cI 2 = nI 2 := rfl
theorem cI_3 : cI 3 = nI 3 := rfl
theorem cI_4 : cI 4 = nI 4 := rfl
theorem cI_5 : cI 5 = nI 5 := rfl
theorem cI_6 : cI 6 = nI 6 := rfl
theorem cI_7 : cI 7 = nI 7 := rfl
theorem cI_8 : cI 8 = nI 8 := rfl
theorem cI_9 : cI 9 = nI 9 := rfl
theorem cI_10 : cI 10 = nI 10 := rfl
theorem cI_11 : cI 11 = nI 11 := rfl
theorem cI_12 : cI 12 = nI 12 := rfl
theorem cI_13 : cI 13 = nI 13 := rfl
theorem cI_14 : cI 14 = nI 14 := rfl
theorem cI_15 : cI 15 = nI 15 := rfl
theorem cI_16 : cI 16 = nI 16 := rfl
theorem cI_17 : cI 17 = nI 17 := rfl
theorem cI_18 : cI 18 = nI 18 := rfl
theorem cI_19 : cI 19 = nI 19 := rfl
theorem cI_20 : cI 20 = nI 20 := rfl
theorem cI_24 : cI 24 = nI 24 := rfl
theorem cI_30 : cI 30 = nI 30 := rfl
theorem cI_31 : cI 31 = nI 31 := rfl
theorem cI_32 : cI 32 = nI 32 := rfl
theorem cI_40 : cI 40 = nI 40 := rfl
theorem cI_41 : cI 41 = nI 41 := rfl
theorem cI_42 : cI 42 = nI 42 := rfl
theorem cI_43 : cI 43 = nI 43 := rfl
theorem cI_45 : cI 45 = nI 45 := rfl
theorem cI_48 : cI 48 = nI 48 := rfl
theorem cI_49 : cI 49 = nI 49 := rfl
theorem cI_50 : cI 50 = nI 50 := rfl
theorem cI_57 : cI 57 = nI 57 := rfl
theorem cI_59 : cI 59 = nI 59 := rfl
theorem cI_60 : cI 60 = nI 60 := rfl
theorem cI_61 : cI 61 = nI 61 := rfl
theorem cI_63 : cI 63 = nI 63 := rfl
theorem cI_97 : cI 97 = nI 97 := rfl
theorem cI_99 : cI 99 = nI 99 := rfl
theorem cI_100 : cI 100 = nI 100 := rfl
theorem cI_122 : cI 122 = nI 122 := rfl
theorem cI_128 : cI 128 = nI 128 := rfl
theorem cI_160 : cI 160 = nI 160 := rfl
theorem cI_200 : cI 200 = nI 200 := rfl
theorem cI_255 : cI 255 = nI 255 := rfl
theorem cI_784 : cI 784 = nI 784 := rfl
theorem cI_833 : cI 833 = nI 833 := rfl
theorem cI_999 : cI 999 = nI 999 := rfl
theorem cI_1000 : cI 1000 = nI 1000 := rfl
theorem cI_1001 : cI 1001 = nI 1001 := rfl
theorem cI_1002 : cI 1002 = nI 1002 := rfl
theorem cI_1003 : cI 1003 = nI 1003 := rfl
theorem cI_1004 : cI 1004 = nI 1004 := rfl
theorem cI_1005 : cI 1005 = nI 1005 := rfl
theorem cI_1006 : cI 1006 = nI 1006 := rfl
theorem cI_1007 : cI 1007 = nI 1007 := rfl
theorem cI_1008 : cI 1008 = nI 1008 := rfl
theorem cI_1009 : cI 1009 = nI 1009 := rfl
theorem cI_1010 : cI 1010 = nI 1010 := rfl
theorem cI_1011 : cI 1011 = nI 1011 := rfl
theorem cI_1200 : cI 1200 = nI 1200 := rfl
theorem cI_2000 : cI 2000 = nI 2000 := rfl
theorem cI_2001 : cI 2001 = nI 2001 := rfl
theorem cI_2002 : cI 2002 = nI 2002 := rfl
theorem cI_9999 : cI 9999 = nI 9999 := rfl
theorem cI_10000 : cI 10000 = nI 10000 := rfl
theorem cI_10006 : cI 10006 = nI 10006 := rfl
theorem cI_10010 : cI 10010 = nI 10010 := rfl
theorem cI_10011 : cI 10011 = nI 10011 := rfl
theorem cI_10012 : cI 10012 = nI 10012 := rfl
theorem cI_10013 : cI 10013 = nI 10013 := rfl
theorem cI_10014 : cI 10014 = nI 10014 := rfl
theorem cI_10015 : cI 10015 = nI 10015 := rfl
theorem cI_10016 : cI 10016 = nI 10016 := rfl
theorem cI_10017 : cI 10017 = nI 10017 := rfl
theorem cI_10018 : cI 10018 = nI 10018 := rfl
theorem cI_99999 : cI 99999 = nI 99999 := rfl
theorem cI_100000 : cI 100000 = nI 100000 := rfl
theorem cI_100009 : cI 100009 = nI 100009 := rfl
theorem cI_100020 : cI 100020 = nI 100020 := rfl
theorem cI_999999 : cI 999999 = nI 999999 := rfl
theorem cL_m4611686018427387904 : cL (-4611686018427387904) = -(lN 4611686018427387904) := rfl
theorem cL_m1 : cL (-1) = -(lN 1) := rfl
theorem cL_0 : cL 0 = lN 0 := rfl
theorem cL_1 : cL 1 = lN 1 := rfl
theorem cL_255 : cL 255 = lN 255 := rfl
theorem cL_1000 : cL 1000 = lN 1000 := rfl
theorem cL_28530 : cL 28530 = lN 28530 := rfl
theorem cL_30064 : cL 30064 = lN 30064 := rfl
theorem cL_48271 : cL 48271 = lN 48271 := rfl
theorem cL_6385252 : cL 6385252 = lN 6385252 := rfl
theorem cL_7237492 : cL 7237492 = lN 7237492 := rfl
theorem cL_1668248436 : cL 1668248436 = lN 1668248436 := rfl
theorem cL_1735552887 : cL 1735552887 = lN 1735552887 := rfl
theorem cL_1751216749 : cL 1751216749 = lN 1751216749 := rfl
theorem cL_1870030194 : cL 1870030194 = lN 1870030194 := rfl
theorem cL_2002873452 : cL 2002873452 = lN 2002873452 := rfl
theorem cL_2036687218 : cL 2036687218 = lN 2036687218 := rfl
theorem cL_2147483647 : cL 2147483647 = lN 2147483647 := rfl
theorem cL_4294967295 : cL 4294967295 = lN 4294967295 := rfl
theorem cL_465558725996 : cL 465558725996 = lN 465558725996 := rfl
theorem cL_108187682958948 : cL 108187682958948 = lN 108187682958948 := rfl
theorem l_M_worth (X : hX) (d : Nat) {s I0 : Nat → Nat → Int32} {J : Nat → Nat → Int64} {R : Nat → Nat → Option Nat} {N : Nat → Nat} {G : hG} (hS0 : St s I0) {t part k0 m : Nat} {q : Nat → Nat} {nm : Nat → Int32} {lo hi : Int32} (ht : s 99 31 = nI t) (ht6 : t < 6) (hp : part < 3) (he1 : s 118 (4 * t + part + 1) = nI (k0 + m)) (hk : k0 + m ≤ 200) (hq : ∀ j, j < k0 + m → s 117 (200 * t + j) = nI (q j)) (hW : WFp q k0 m) (hnm : ∀ j, j < 6 → I0 126 j = nm j) :
    ∀ (n i : Nat) (I : Nat → Nat → Int32) (x4 x5 : Int32) (w : Value), i + n = m → Only [125] I0 I → (∀ j, j < hpN q k0 i → I 125 j = (rpF nm q k0 i).1 j) → x4 = nI (hpN q k0 i) → x5 = nI (k0 + i) →
      XP X (d + 1) k_M_worth 12 [.ref 99, .int (nI part), .int lo, .int hi, .int x4, .int x5, w] [] (I, J, Rx R, N, G) (fun v M' => v = some (.int (bnd lo hi (sW nm q k0 m))) ∧ ∃ I', M' = (I', J, Rx R, N, G) ∧ Only [125] I0 I') := by
  intro n
  induction n with
  | zero =>
    rintro i I _ _ w hi hO hI rfl rfl
    have hS : St s I := St_only hS0 hO (by decide +kernel)
    have him : i = m := by omega
    subst him
    repeat (first
      | refine XP_geti hS rfl rfl rfl ?_
      | refine XP_s rfl ?_)
    refine XP_ialdE (4 * t + part + 1) (by rw [ht]; simp only [cI_m999, cI_m100, cI_m14, cI_m13, cI_m12, cI_m11, cI_m7, cI_m5, cI_m4, cI_m3, cI_m2, cI_m1, cI_0, cI_1, cI_2, cI_3, cI_4, cI_5, cI_6, cI_7, cI_8, cI_9, cI_10, cI_11, cI_12, cI_13, cI_14, cI_15, cI_16, cI_17, cI_18, cI_19, cI_20, cI_24, cI_30, cI_31, cI_32, cI_40, cI_41, cI_42, cI_43, cI_45, cI_48, cI_49, cI_50, cI_57, cI_59, cI_60, cI_61, cI_63, cI_97, cI_99, cI_100, cI_122, cI_128, cI_160, cI_200, cI_255, cI_784, cI_833, cI_999, cI_1000, cI_1001, cI_1002, cI_1003, cI_1004, cI_1005, cI_1006, cI_1007, cI_1008, cI_1009, cI_1010, cI_1011, cI_1200, cI_2000, cI_2001, cI_2002, cI_9999, cI_10000, cI_10006, cI_10010, cI_10011, cI_10012, cI_10013, cI_10014, cI_10015, cI_10016, cI_10017, cI_10018, cI_99999, cI_100000, cI_100009, cI_100020, cI_999999, nI_mul, nI_add]) hS rfl rfl rfl (show _ < 24 by omega) (Nat.le_of_ble_eq_true rfl) rfl ?_
    rw [he1]
    refine XP_s rfl ?_
    refine XP_dle (by omega) (by omega) (fun _ => ?_) (fun h => absurd h (by omega))
    refine XP_s rfl ?_
    refine XP_s rfl ?_
    refine XP_s rfl ?_
    refine XP_irawE 0 rfl rfl rfl rfl (Nat.le_of_ble_eq_true rfl) (Nat.le_of_ble_eq_true rfl) ?_
    rw [hI 0 hW.2]
    refine XP_s rfl ?_
    refine XP_s rfl ?_
    refine XP_dec (fun h => ?_) (fun h => ?_)
    · refine XP_s rfl ?_
      refine XP_s rfl ?_
      refine XP_s rfl ?_
      refine XP_irawE 0 rfl rfl rfl rfl (Nat.le_of_ble_eq_true rfl) (Nat.le_of_ble_eq_true rfl) ?_
      rw [hI 0 hW.2]
      refine XP_s rfl ?_
      refine XP_s rfl ?_
      refine XP_dec (fun h' => ?_) (fun h' => ?_)
      · refine XP_s rfl ?_
        refine XP_s rfl ?_
        refine XP_s rfl ?_
        refine XP_irawE 0 rfl rfl rfl rfl (Nat.le_of_ble_eq_true rfl) (Nat.le_of_ble_eq_true rfl) ?_
        rw [hI 0 hW.2]
        refine XP_ret rfl ⟨?_, I, rfl, hO⟩
        unfold bnd sW
        rw [if_neg (Int32.not_lt.mpr h), if_neg (Int32.not_lt.mpr h')]
      · refine XP_s rfl ?_
        refine XP_s rfl ?_
        refine XP_ret rfl ⟨?_, I, rfl, hO⟩
        unfold bnd sW
        rw [if_neg (Int32.not_lt.mpr h), if_pos (Int32.not_le.mp h')]
    · refine XP_s rfl ?_
      refine XP_s rfl ?_
      refine XP_ret rfl ⟨?_, I, rfl, hO⟩
      unfold bnd sW
      rw [if_pos (Int32.not_le.mp h)]
  | succ n ih =>
    rintro i I _ _ w hi hO hI rfl rfl
    have hS : St s I := St_only hS0 hO (by decide +kernel)
    obtain ⟨hok, hned⟩ := hW.1 i (by omega)
    have hhl := hpN_le q k0 i
    have hqi := hq (k0 + i) (by omega)
    repeat (first
      | refine XP_geti hS rfl rfl rfl ?_
      | refine XP_s rfl ?_)
    refine XP_ialdE (4 * t + part + 1) (by rw [ht]; simp only [cI_m999, cI_m100, cI_m14, cI_m13, cI_m12, cI_m11, cI_m7, cI_m5, cI_m4, cI_m3, cI_m2, cI_m1, cI_0, cI_1, cI_2, cI_3, cI_4, cI_5, cI_6, cI_7, cI_8, cI_9, cI_10, cI_11, cI_12, cI_13, cI_14, cI_15, cI_16, cI_17, cI_18, cI_19, cI_20, cI_24, cI_30, cI_31, cI_32, cI_40, cI_41, cI_42, cI_43, cI_45, cI_48, cI_49, cI_50, cI_57, cI_59, cI_60, cI_61, cI_63, cI_97, cI_99, cI_100, cI_122, cI_128, cI_160, cI_200, cI_255, cI_784, cI_833, cI_999, cI_1000, cI_1001, cI_1002, cI_1003, cI_1004, cI_1005, cI_1006, cI_1007, cI_1008, cI_1009, cI_1010, cI_1011, cI_1200, cI_2000, cI_2001, cI_2002, cI_9999, cI_10000, cI_10006, cI_10010, cI_10011, cI_10012, cI_10013, cI_10014, cI_10015, cI_10016, cI_10017, cI_10018, cI_99999, cI_100000, cI_100009, cI_100020, cI_999999, nI_mul, nI_add]) hS rfl rfl rfl (show _ < 24 by omega) (Nat.le_of_ble_eq_true rfl) rfl ?_
    rw [he1]
    refine XP_s rfl ?_
    refine XP_dle (by omega) (by omega) (fun h => absurd h (by omega)) (fun _ => ?_)
    repeat (first
      | refine XP_geti hS rfl rfl rfl ?_
      | refine XP_s rfl ?_)
    refine XP_ialdE (200 * t + (k0 + i)) (by rw [ht]; simp only [cI_m999, cI_m100, cI_m14, cI_m13, cI_m12, cI_m11, cI_m7, cI_m5, cI_m4, cI_m3, cI_m2, cI_m1, cI_0, cI_1, cI_2, cI_3, cI_4, cI_5, cI_6, cI_7, cI_8, cI_9, cI_10, cI_11, cI_12, cI_13, cI_14, cI_15, cI_16, cI_17, cI_18, cI_19, cI_20, cI_24, cI_30, cI_31, cI_32, cI_40, cI_41, cI_42, cI_43, cI_45, cI_48, cI_49, cI_50, cI_57, cI_59, cI_60, cI_61, cI_63, cI_97, cI_99, cI_100, cI_122, cI_128, cI_160, cI_200, cI_255, cI_784, cI_833, cI_999, cI_1000, cI_1001, cI_1002, cI_1003, cI_1004, cI_1005, cI_1006, cI_1007, cI_1008, cI_1009, cI_1010, cI_1011, cI_1200, cI_2000, cI_2001, cI_2002, cI_9999, cI_10000, cI_10006, cI_10010, cI_10011, cI_10012, cI_10013, cI_10014, cI_10015, cI_10016, cI_10017, cI_10018, cI_99999, cI_100000, cI_100009, cI_100020, cI_999999, nI_mul, nI_add]) hS rfl rfl rfl (show _ < 1200 by omega) (Nat.le_of_ble_eq_true rfl) rfl ?_
    rw [hqi]
    generalize hc : q (k0 + i) = c at hok hned
    have hc7 : c < 2147483648 := by unfold okc at hok; omega
    have hrp : rpF nm q k0 (i + 1) = rsF nm c (rpF nm q k0 i) := by rw [rpF, hc]
    have hhp : hpN q k0 (i + 1) = hsN c (hpN q k0 i) := by rw [hpN, hc]
    have hh := rpF_h nm q k0 i
    repeat (first
      | refine XP_geti hS rfl rfl rfl ?_
      | refine XP_s rfl ?_)
    refine XP_dle (x := 100000) (by omega) (by omega) (fun h1 => ?_) (fun h1 => ?_)
    · -- a number
      have e1 : hsN c (hpN q k0 i) = hpN q k0 i + 1 := by unfold hsN; rw [if_pos h1]
      have e2 : rsF nm c (rpF nm q k0 i) = (upd (rpF nm q k0 i).1 (hpN q k0 i) (nI (c - 100000)), hpN q k0 i + 1) := by unfold rsF; rw [if_pos h1, hh]
      repeat (first
        | refine XP_geti hS rfl rfl rfl ?_
        | refine XP_s rfl ?_)
      refine XP_dle (x := 11) (by omega) (by omega) (fun _ => ?_) (fun h => absurd h (by omega))
      repeat (first
        | refine XP_geti hS rfl rfl rfl ?_
        | refine XP_s rfl ?_)
      refine XP_iastE (hpN q k0 i) rfl rfl rfl rfl (show _ < 200 by omega) (Nat.le_of_ble_eq_true rfl) ?_
      repeat (first
        | refine ih (i + 1) _ _ _ _ (by omega) (hO.tr (Only.rw List.mem_cons_self)) ?_ ?_ ?_
        | refine XP_geti hS rfl rfl rfl ?_
        | refine XP_s rfl ?_)
      · rw [hhp, e1, hrp, e2, cI_100000, nI_sub h1]
        exact row_step hI (fun i' hi' => by omega)
      · rw [hhp, e1]; exact nI_1 _
      · exact nI_1 _
    repeat (first
      | refine XP_geti hS rfl rfl rfl ?_
      | refine XP_s rfl ?_)
    refine XP_dle (x := 11) (by omega) (by omega) (fun h2 => ?_) (fun h2 => ?_)
    · have hc2 : ¬ c < 11 := by omega
      repeat (first
        | refine XP_geti hS rfl rfl rfl ?_
        | refine XP_s rfl ?_)
      refine XP_dne (y := 13) (by omega) (by omega) (fun h3 => ?_) (fun h3 => ?_)
      · repeat (first
          | refine XP_geti hS rfl rfl rfl ?_
          | refine XP_s rfl ?_)
        refine XP_dne (y := 19) (by omega) (by omega) (fun h4 => ?_) (fun h4 => ?_)
        · -- a sign of two
          have e1 : hsN c (hpN q k0 i) = hpN q k0 i - 1 := by unfold hsN; rw [if_neg (by omega), if_neg hc2, if_neg h3, if_neg h4]
          have e2 : rsF nm c (rpF nm q k0 i) = (upd (rpF nm q k0 i).1 (hpN q k0 i - 2) (two c ((rpF nm q k0 i).1 (hpN q k0 i - 2)) ((rpF nm q k0 i).1 (hpN q k0 i - 1))), hpN q k0 i - 1) := by unfold rsF; rw [if_neg (by omega), if_neg hc2, if_neg h3, if_neg h4, hh]
          have e3 : 2 ≤ hpN q k0 i := by
            have : ned c = 2 := by unfold ned; rw [if_neg (by omega), if_neg hc2, if_neg h3, if_neg h4]
            omega
          refine XP_s rfl ?_
          rw [show nI (hpN q k0 i) + cI (-1) = nI (hpN q k0 i - 1) by rw [cI_m1, ← nI_sub (by omega : 1 ≤ hpN q k0 i), Int32.sub_eq_add_neg]]
          refine XP_s rfl ?_
          refine XP_s rfl ?_
          refine XP_s rfl ?_
          refine XP_s rfl ?_
          refine XP_s rfl ?_
          refine XP_s rfl ?_
          refine XP_s rfl ?_
          refine XP_s rfl ?_
          refine XP_s rfl ?_
          refine XP_s rfl ?_
          refine XP_s rfl ?_
          refine XP_irawE (hpN q k0 i - 2) (by rw [cI_1, nI_sub (by omega)]; rfl) rfl rfl rfl (show _ < 200 by omega) (Nat.le_of_ble_eq_true rfl) ?_
          rw [hI _ (by omega)]
          refine XP_s rfl ?_
          refine XP_s rfl ?_
          refine XP_s rfl ?_
          refine XP_irawE (hpN q k0 i - 1) rfl rfl rfl rfl (show _ < 200 by omega) (Nat.le_of_ble_eq_true rfl) ?_
          rw [hI _ (by omega)]
          refine XP_pure (v := .int (two c ((rpF nm q k0 i).1 (hpN q k0 i - 2)) ((rpF nm q k0 i).1 (hpN q k0 i - 1)))) rfl rfl (t_M_two X d (two_ok hok (by omega) hc2 h3 h4) _ _ _) ?_
          refine XP_iastE (hpN q k0 i - 2) (by rw [cI_1, nI_sub (by omega)]; rfl) rfl rfl rfl (show _ < 200 by omega) (Nat.le_of_ble_eq_true rfl) ?_
          repeat (first
            | refine ih (i + 1) _ _ _ _ (by omega) (hO.tr (Only.rw List.mem_cons_self)) ?_ ?_ ?_
            | refine XP_geti hS rfl rfl rfl ?_
            | refine XP_s rfl ?_)
          · rw [hhp, e1, hrp, e2]
            exact row_step hI (fun i' hi' => by omega)
          · rw [hhp, e1]
          · exact nI_1 _
        · -- minus
          subst h4
          have e1 : hsN 19 (hpN q k0 i) = hpN q k0 i := rfl
          have e2 : rsF nm 19 (rpF nm q k0 i) = (upd (rpF nm q k0 i).1 (hpN q k0 i - 1) (-((rpF nm q k0 i).1 (hpN q k0 i - 1))), hpN q k0 i) := by rw [← hh]; rfl
          have e3 : 1 ≤ hpN q k0 i := hned
          refine XP_s rfl ?_
          refine XP_s rfl ?_
          refine XP_s rfl ?_
          refine XP_s rfl ?_
          refine XP_s rfl ?_
          refine XP_s rfl ?_
          refine XP_s rfl ?_
          refine XP_s rfl ?_
          refine XP_s rfl ?_
          refine XP_s rfl ?_
          refine XP_irawE (hpN q k0 i - 1) (by rw [cI_1, nI_sub (by omega)]) rfl rfl rfl (show _ < 200 by omega) (Nat.le_of_ble_eq_true rfl) ?_
          rw [hI _ (by omega)]
          refine XP_s rfl ?_
          refine XP_iastE (hpN q k0 i - 1) (by rw [cI_1, nI_sub (by omega)]) rfl rfl rfl (show _ < 200 by omega) (Nat.le_of_ble_eq_true rfl) ?_
          repeat (first
            | refine ih (i + 1) _ _ _ _ (by omega) (hO.tr (Only.rw List.mem_cons_self)) ?_ ?_ ?_
            | refine XP_geti hS rfl rfl rfl ?_
            | refine XP_s rfl ?_)
          · rw [hhp, e1, hrp, e2]
            exact row_step hI (fun i' hi' => by omega)
          · rw [hhp, e1]
          · exact nI_1 _
      · -- not
        subst h3
        have e1 : hsN 13 (hpN q k0 i) = hpN q k0 i := rfl
        have e2 : rsF nm 13 (rpF nm q k0 i) = (upd (rpF nm q k0 i).1 (hpN q k0 i - 1) (b2i ((rpF nm q k0 i).1 (hpN q k0 i - 1) = 0)), hpN q k0 i) := by rw [← hh]; rfl
        have e3 : 1 ≤ hpN q k0 i := hned
        refine XP_s rfl ?_
        refine XP_s rfl ?_
        refine XP_s rfl ?_
        refine XP_s rfl ?_
        refine XP_s rfl ?_
        refine XP_s rfl ?_
        refine XP_s rfl ?_
        refine XP_s rfl ?_
        refine XP_s rfl ?_
        refine XP_s rfl ?_
        refine XP_irawE (hpN q k0 i - 1) (by rw [cI_1, nI_sub (by omega)]) rfl rfl rfl (show _ < 200 by omega) (Nat.le_of_ble_eq_true rfl) ?_
        rw [hI _ (by omega)]
        refine XP_s rfl ?_
        refine XP_dec (fun h => ?_) (fun h => ?_)
        · refine XP_s rfl ?_
          refine XP_iastE (hpN q k0 i - 1) (by rw [cI_1, nI_sub (by omega)]) rfl rfl rfl (show _ < 200 by omega) (Nat.le_of_ble_eq_true rfl) ?_
          repeat (first
            | refine ih (i + 1) _ _ _ _ (by omega) (hO.tr (Only.rw List.mem_cons_self)) ?_ ?_ ?_
            | refine XP_geti hS rfl rfl rfl ?_
            | refine XP_s rfl ?_)
          · rw [hhp, e1, hrp, e2, show b2i ((rpF nm q k0 i).1 (hpN q k0 i - 1) = 0) = cI 0 by (simp [b2i, h, cI]; rfl)]
            exact row_step hI (fun i' hi' => by omega)
          · rw [hhp, e1]
          · exact nI_1 _
        · refine XP_s rfl ?_
          refine XP_s rfl ?_
          refine XP_iastE (hpN q k0 i - 1) (by rw [cI_1, nI_sub (by omega)]) rfl rfl rfl (show _ < 200 by omega) (Nat.le_of_ble_eq_true rfl) ?_
          repeat (first
            | refine ih (i + 1) _ _ _ _ (by omega) (hO.tr (Only.rw List.mem_cons_self)) ?_ ?_ ?_
            | refine XP_geti hS rfl rfl rfl ?_
            | refine XP_s rfl ?_)
          · rw [hhp, e1, hrp, e2, show b2i ((rpF nm q k0 i).1 (hpN q k0 i - 1) = 0) = cI 1 by (simp_all [b2i, cI]; rfl)]
            exact row_step hI (fun i' hi' => by omega)
          · rw [hhp, e1]
          · exact nI_1 _
    · -- a name
      have h6 : c < 6 := by unfold okc at hok; omega
      have e1 : hsN c (hpN q k0 i) = hpN q k0 i + 1 := by unfold hsN; rw [if_neg (by omega), if_pos h2]
      have e2 : rsF nm c (rpF nm q k0 i) = (upd (rpF nm q k0 i).1 (hpN q k0 i) (nm c), hpN q k0 i + 1) := by unfold rsF; rw [if_neg (by omega), if_pos h2, hh]
      have e3 : I 126 c = nm c := (hO 126 (by decide)).symm ▸ hnm c h6
      repeat (first
        | refine XP_geti hS rfl rfl rfl ?_
        | refine XP_s rfl ?_)
      refine XP_dle (x := 11) (by omega) (by omega) (fun h => absurd h (by omega)) (fun _ => ?_)
      refine XP_s rfl ?_
      refine XP_s rfl ?_
      refine XP_s rfl ?_
      refine XP_irawE c rfl rfl rfl rfl (show _ < 6 from h6) (Nat.le_of_ble_eq_true rfl) ?_
      rw [e3]
      refine XP_s rfl ?_
      refine XP_iastE (hpN q k0 i) rfl rfl rfl rfl (show _ < 200 by omega) (Nat.le_of_ble_eq_true rfl) ?_
      repeat (first
        | refine ih (i + 1) _ _ _ _ (by omega) (hO.tr (Only.rw List.mem_cons_self)) ?_ ?_ ?_
        | refine XP_geti hS rfl rfl rfl ?_
        | refine XP_s rfl ?_)
      · rw [hhp, e1, hrp, e2]
        exact row_step hI (fun i' hi' => by omega)
      · rw [hhp, e1]; exact nI_1 _
      · exact nI_1 _
