/-! lowest terms; weights; paths by their level -/
theorem abs_l {x : Int64} (h : x ≠ Int64.minValue) : (if x < 0 then -x else x) = lN x.toInt.natAbs ∧ x.toInt.natAbs < 9223372036854775808 := by
  have hb1 := Int64.le_toInt x
  have hb2 := Int64.toInt_lt x
  have hm : x.toInt ≠ -9223372036854775808 := fun z => h (Int64.toInt_inj.mp (z.trans (by decide)))
  have hlt : x.toInt.natAbs < 9223372036854775808 := by omega
  refine ⟨?_, hlt⟩
  by_cases h0 : x < 0
  · rw [if_pos h0]
    rw [Int64.lt_iff_toInt_lt] at h0
    have h0' : x.toInt < 0 := h0
    apply Int64.toInt_inj.mp
    rw [Int64.toInt_neg, pk_lT (by omega)]
    simp [Int.bmod]
    omega
  · rw [if_neg h0]
    rw [Int64.lt_iff_toInt_lt] at h0
    have h0' : ¬ x.toInt < 0 := h0
    apply Int64.toInt_inj.mp
    rw [pk_lT (by omega)]
    omega
theorem abs_l2 {x : Int64} (h : x ≠ Int64.minValue) : (if 0 < x then x else -x) = lN x.toInt.natAbs := by
  rw [← (abs_l h).1]
  by_cases h1 : 0 < x
  · rw [if_pos h1, if_neg (Int64.not_lt.mpr (Int64.le_of_lt h1))]
  · rw [if_neg h1]
    by_cases h2 : x < 0
    · rw [if_pos h2]
    · rw [if_neg h2]
      have e : x = 0 := Int64.le_antisymm (Int64.not_lt.mp h1) (Int64.not_lt.mp h2)
      rw [e]
      rfl
def gLow (a : Int64) (b part : Nat) : Int64 := if a = 0 then lN part else (if part = 0 then a else lN b) / lN (Nat.gcd a.toInt.natAbs b)
theorem l64_nz {x : Int64} (h : ¬ x = 0) : 0 < x.toInt.natAbs := by
  rcases Nat.eq_zero_or_pos x.toInt.natAbs with e | e
  · exact absurd (Int64.toInt_inj.mp (show x.toInt = (0 : Int64).toInt from Int.natAbs_eq_zero.mp e)) h
  · exact e
theorem gcd_half {A B : Nat} (hB : 0 < B) (h : 0 < A % B) : B % (A % B) * 2 < B := by
  have h2 := Nat.mod_lt A hB
  have h1 := Nat.mod_lt B h
  by_cases hr : A % B * 2 ≤ B
  · omega
  · have : B % (A % B) = B - A % B := by
      rw [Nat.mod_eq_sub_mod (by omega), Nat.mod_eq_of_lt (by omega)]
    omega
section
variable {X : hX} {d : Nat} {s I : Nat → Nat → Int32} {J : Nat → Nat → Int64} {R : Nat → Nat → Option Nat} {N : Nat → Nat} {G : hG}
theorem l_M_low {a : Int64} {b g part : Nat} (hp : part ≤ 1) (hg : 0 < g) (hg2 : g < 9223372036854775808) : ∀ (n A B : Nat) (w9 w10 : Value), B < n → n < 9223372036854775809 → A < 9223372036854775808 → Nat.gcd A B = g →
    XP X d k_M_lowest 18 [.long a, xj, .long (lN b), xj, .int (nI part), .long (lN A), xj, .long (lN B), xj, w9, w10] [] (I, J, Rx R, N, G) (Ret (.long ((if part = 0 then a else lN b) / lN g)) (I, J, Rx R, N, G)) := by
  intro n
  induction n with
  | zero => intro A B w9 w10 h; omega
  | succ n ih =>
    intro A B w9 w10 hB hn hA hgc
    have hk : ∀ (v : Int64), v = (if part = 0 then a else lN b) → XP X d k_M_lowest 36 [.long a, xj, .long (lN b), xj, .int (nI part), .long (lN g), xj, .long (lN 0), xj, w9, w10] [.long v] (I, J, Rx R, N, G) (Ret (.long ((if part = 0 then a else lN b) / lN g)) (I, J, Rx R, N, G)) := by
      rintro v rfl
      refine XP_n 1 (pc' := 37) (ls' := [.long a, xj, .long (lN b), xj, .int (nI part), .long (lN g), xj, .long (lN 0), xj, w9, w10]) (st' := [.long (lN g), .long (if part = 0 then a else lN b)]) (M' := (I, J, Rx R, N, G)) rfl ?_
      refine XP_ldiv rfl (lN_nz hg hg2) ?_
      exact XP_ret rfl ⟨rfl, rfl⟩
    rcases Nat.eq_zero_or_pos B with h0 | h0
    · subst h0
      rw [Nat.gcd_zero_right] at hgc
      subst hgc
      refine XP_n 2 (pc' := 20) (ls' := [.long (a), xj, .long (lN (b)), xj, .int (nI (part)), .long (lN (A)), xj, .long (lN (0)), xj, w9, w10]) (st' := [.long (lN (0)), .long (lN (0))]) (M' := (I, J, Rx R, N, G)) rfl ?_
      refine XP_lcN (x := 0) (y := 0) rfl rfl (by omega) (by omega) (fun (b21 : 0 = 0) => ?_) (fun (b21 : ¬ 0 = 0) => absurd b21 (by omega))
      refine XP_n 1 (pc' := 32) (ls' := [.long (a), xj, .long (lN (b)), xj, .int (nI (part)), .long (lN (A)), xj, .long (lN (0)), xj, w9, w10]) (st' := [.int (nI (part))]) (M' := (I, J, Rx R, N, G)) rfl ?_
      refine XP_ifN (x := part)  rfl (by omega) (fun (b32 : ¬ part = 0) => ?_) (fun (b32 : part = 0) => ?_)
      · refine XP_n 1 (pc' := 36) (ls' := [.long (a), xj, .long (lN (b)), xj, .int (nI (part)), .long (lN (A)), xj, .long (lN (0)), xj, w9, w10]) (st' := [.long (lN (b))]) (M' := (I, J, Rx R, N, G)) rfl ?_
        exact hk _ (by rw [if_neg b32])
      · refine XP_n 2 (pc' := 36) (ls' := [.long (a), xj, .long (lN (b)), xj, .int (nI (part)), .long (lN (A)), xj, .long (lN (0)), xj, w9, w10]) (st' := [.long (a)]) (M' := (I, J, Rx R, N, G)) rfl ?_
        exact hk _ (by rw [if_pos b32])
    · have h1 := Nat.mod_lt A h0
      refine XP_n 2 (pc' := 20) (ls' := [.long (a), xj, .long (lN (b)), xj, .int (nI (part)), .long (lN (A)), xj, .long (lN (B)), xj, w9, w10]) (st' := [.long (lN (0)), .long (lN (B))]) (M' := (I, J, Rx R, N, G)) rfl ?_
      refine XP_lcN (x := B) (y := 0) rfl rfl (by omega) (by omega) (fun (b21 : B = 0) => absurd b21 (by omega)) (fun (b21 : ¬ B = 0) => ?_)
      refine XP_n 2 (pc' := 24) (ls' := [.long (a), xj, .long (lN (b)), xj, .int (nI (part)), .long (lN (A)), xj, .long (lN (B)), xj, w9, w10]) (st' := [.long (lN (B)), .long (lN (A))]) (M' := (I, J, Rx R, N, G)) rfl ?_
      refine XP_lremN (a := A) (b := B) rfl (by omega) (by omega) (by omega) ?_
      refine XP_n 6 (pc' := 18) (ls' := [.long (a), xj, .long (lN (b)), xj, .int (nI (part)), .long (lN (B)), xj, .long (lN ((A) % (B))), xj, .long (lN ((A) % (B))), xj]) (st' := []) (M' := (I, J, Rx R, N, G)) rfl ?_
      exact ih _ _ _ _ (by omega) (by omega) (by omega) (by rw [Nat.gcd_comm, ← Nat.gcd_rec, Nat.gcd_comm]; exact hgc)
theorem m_low {a : Int64} {b part : Nat} (hp : part ≤ 1) (hb : ¬ a = 0 → 0 < b) (hb2 : b < 9223372036854775808) (ha : a ≠ Int64.minValue) : TP X d n_M_lowest [.long a, .long (lN b), .int (nI part)] (I, J, Rx R, N, G) (Ret (.long (gLow a b part)) (I, J, Rx R, N, G)) := by
  obtain ⟨hA1, hA2⟩ := abs_l ha
  by_cases h0 : a = 0
  · subst h0
    unfold gLow
    rw [if_pos rfl]
    unfold TP
    show XP X _ k_M_lowest 0 [.long ((0 : Int64)), xj, .long (lN (b)), xj, .int (nI (part)), xj, xj, xj, xj, xj, xj] [] _ _
    refine XP_n 2 (pc' := 2) (ls' := [.long ((0 : Int64)), xj, .long (lN (b)), xj, .int (nI (part)), xj, xj, xj, xj, xj, xj]) (st' := [.long (lN (0)), .long ((0 : Int64))]) (M' := (I, J, Rx R, N, G)) rfl ?_
    refine XP_lcD rfl rfl (fun (b3 : ¬ (0 : Int64) = lN (0)) => absurd rfl b3) (fun (b3 : (0 : Int64) = lN (0)) => ?_)
    refine XP_n 2 (pc' := 6) (ls' := [.long ((0 : Int64)), xj, .long (lN (b)), xj, .int (nI (part)), xj, xj, xj, xj, xj, xj]) (st' := [.long ((nI (part)).toInt64)]) (M' := (I, J, Rx R, N, G)) rfl ?_
    rw [show (nI (part)).toInt64 = lN (part) from nI_lE (rfl) (by omega)]
    exact XP_ret rfl ⟨rfl, rfl⟩
  · have hb := hb h0
    unfold gLow
    rw [if_neg h0]
    have kk : ∀ (v : Int64), v = lN a.toInt.natAbs → XP X d k_M_lowest 15 [.long a, xj, .long (lN b), xj, .int (nI part), xj, xj, xj, xj, xj, xj] [.long v] (I, J, Rx R, N, G) (Ret (.long ((if part = 0 then a else lN b) / lN (Nat.gcd a.toInt.natAbs b))) (I, J, Rx R, N, G)) := by
      rintro v rfl
      refine XP_n 3 (pc' := 18) (ls' := [.long (a), xj, .long (lN (b)), xj, .int (nI (part)), .long (lN (a.toInt.natAbs)), xj, .long (lN (b)), xj, xj, xj]) (st' := []) (M' := (I, J, Rx R, N, G)) rfl ?_
      exact l_M_low hp (Nat.gcd_pos_of_pos_right _ hb) (Nat.lt_of_le_of_lt (Nat.gcd_le_right _ hb) hb2) (b + 1) _ _ _ _ (by omega) (by omega) hA2 rfl
    unfold TP
    show XP X _ k_M_lowest 0 [.long (a), xj, .long (lN (b)), xj, .int (nI (part)), xj, xj, xj, xj, xj, xj] [] _ _
    refine XP_n 2 (pc' := 2) (ls' := [.long (a), xj, .long (lN (b)), xj, .int (nI (part)), xj, xj, xj, xj, xj, xj]) (st' := [.long (lN (0)), .long (a)]) (M' := (I, J, Rx R, N, G)) rfl ?_
    refine XP_lcD rfl rfl (fun (b3 : ¬ a = lN (0)) => ?_) (fun (b3 : a = lN (0)) => absurd b3 (by exact h0))
    refine XP_n 2 (pc' := 9) (ls' := [.long (a), xj, .long (lN (b)), xj, .int (nI (part)), xj, xj, xj, xj, xj, xj]) (st' := [.long (lN (0)), .long (a)]) (M' := (I, J, Rx R, N, G)) rfl ?_
    refine XP_lcD rfl rfl (fun (b10 : lN (0) ≤ a) => ?_) (fun (b10 : a < lN (0)) => ?_)
    · have n10 := Int64.not_lt.mpr b10
      refine XP_n 1 (pc' := 15) (ls' := [.long (a), xj, .long (lN (b)), xj, .int (nI (part)), xj, xj, xj, xj, xj, xj]) (st' := [.long (a)]) (M' := (I, J, Rx R, N, G)) rfl ?_
      exact kk _ (by rw [← hA1]; exact Eq.symm (if_neg (Int64.not_lt.mpr b10)))
    · have n10 := Int64.not_le.mpr b10
      refine XP_n 3 (pc' := 15) (ls' := [.long (a), xj, .long (lN (b)), xj, .int (nI (part)), xj, xj, xj, xj, xj, xj]) (st' := [.long (-a)]) (M' := (I, J, Rx R, N, G)) rfl ?_
      exact kk _ (by rw [← hA1]; exact Eq.symm (if_pos b10))
theorem l_H_low0 {a : Int64} {b g part i : Nat} {w10 w11 : Value} (hp : part ≤ 1) (hg : 0 < g) (hg2 : g < 9223372036854775808) (hi : i ≤ 200) : XP X d k_H_lowest 7 [.long a, xj, .long (lN b), xj, .int (nI part), .long (lN g), xj, .long (lN 0), xj, .int (nI i), w10, w11] [] (I, J, Rx R, N, G) (Ret (.long ((if part = 0 then a else lN b) / lN g)) (I, J, Rx R, N, G)) := by
  have kk : XP X d k_H_lowest 24 [.long a, xj, .long (lN b), xj, .int (nI part), .long (lN g), xj, .long (lN 0), xj, .int (nI i), w10, w11] [] (I, J, Rx R, N, G) (Ret (.long ((if part = 0 then a else lN b) / lN g)) (I, J, Rx R, N, G)) := by
    refine XP_n 2 (pc' := 26) (ls' := [.long (a), xj, .long (lN (b)), xj, .int (nI (part)), .long (lN (g)), xj, .long (lN (0)), xj, .int (nI (i)), w10, w11]) (st' := [.long (lN (0)), .long (lN (g))]) (M' := (I, J, Rx R, N, G)) rfl ?_
    refine XP_lcN (x := g) (y := 0) rfl rfl (by omega) (by omega) (fun (b27 : ¬ g = 0) => ?_) (fun (b27 : g = 0) => absurd b27 (by omega))
    refine XP_n 1 (pc' := 35) (ls' := [.long (a), xj, .long (lN (b)), xj, .int (nI (part)), .long (lN (g)), xj, .long (lN (0)), xj, .int (nI (i)), w10, w11]) (st' := [.int (nI (part))]) (M' := (I, J, Rx R, N, G)) rfl ?_
    refine XP_ifN (x := part)  rfl (by omega) (fun (b35 : ¬ part = 0) => ?_) (fun (b35 : part = 0) => ?_)
    · refine XP_n 2 (pc' := 42) (ls' := [.long (a), xj, .long (lN (b)), xj, .int (nI (part)), .long (lN (g)), xj, .long (lN (0)), xj, .int (nI (i)), w10, w11]) (st' := [.long (lN (g)), .long (lN (b))]) (M' := (I, J, Rx R, N, G)) rfl ?_
      refine XP_ldiv rfl (lN_nz hg hg2) ?_
      exact XP_ret rfl ⟨by rw [if_neg b35], rfl⟩
    · refine XP_n 2 (pc' := 38) (ls' := [.long (a), xj, .long (lN (b)), xj, .int (nI (part)), .long (lN (g)), xj, .long (lN (0)), xj, .int (nI (i)), w10, w11]) (st' := [.long (lN (g)), .long (a)]) (M' := (I, J, Rx R, N, G)) rfl ?_
      refine XP_ldiv rfl (lN_nz hg hg2) ?_
      refine XP_n 1 (pc' := 43) (ls' := [.long (a), xj, .long (lN (b)), xj, .int (nI (part)), .long (lN (g)), xj, .long (lN (0)), xj, .int (nI (i)), w10, w11]) (st' := [.long (a / (lN (g)))]) (M' := (I, J, Rx R, N, G)) rfl ?_
      exact XP_ret rfl ⟨by rw [if_pos b35], rfl⟩
  refine XP_n 2 (pc' := 9) (ls' := [.long (a), xj, .long (lN (b)), xj, .int (nI (part)), .long (lN (g)), xj, .long (lN (0)), xj, .int (nI (i)), w10, w11]) (st' := [.int (nI (200)), .int (nI (i))]) (M' := (I, J, Rx R, N, G)) rfl ?_
  refine XP_icN (x := i) (y := 200) rfl (by omega) (by omega) (fun (b9 : 200 ≤ i) => ?_) (fun (b9 : i < 200) => ?_)
  · exact kk
  · refine XP_n 2 (pc' := 12) (ls' := [.long (a), xj, .long (lN (b)), xj, .int (nI (part)), .long (lN (g)), xj, .long (lN (0)), xj, .int (nI (i)), w10, w11]) (st' := [.long (lN (0)), .long (lN (0))]) (M' := (I, J, Rx R, N, G)) rfl ?_
    refine XP_lcN (x := 0) (y := 0) rfl rfl (by omega) (by omega) (fun (b13 : 0 = 0) => ?_) (fun (b13 : ¬ 0 = 0) => absurd b13 (by omega))
    exact kk
theorem l_H_low {a : Int64} {b g part : Nat} (hp : part ≤ 1) (hg : 0 < g) (hg2 : g < 9223372036854775808) : ∀ (n i A B : Nat) (w10 w11 : Value), B < 2 ^ n → i + 2 * n ≤ 200 → n ≤ 63 → A < 9223372036854775808 → Nat.gcd A B = g →
    XP X d k_H_lowest 7 [.long a, xj, .long (lN b), xj, .int (nI part), .long (lN A), xj, .long (lN B), xj, .int (nI i), w10, w11] [] (I, J, Rx R, N, G) (Ret (.long ((if part = 0 then a else lN b) / lN g)) (I, J, Rx R, N, G)) := by
  intro n
  induction n with
  | zero =>
    intro i A B w10 w11 hB hi hn hA hgc
    obtain rfl : B = 0 := by simpa using hB
    rw [Nat.gcd_zero_right] at hgc
    subst hgc
    exact l_H_low0 hp hg hg2 (by omega)
  | succ n ih =>
    intro i A B w10 w11 hB hi hn hA hgc
    have hB63 : B < 9223372036854775808 := Nat.lt_of_lt_of_le hB (show 2 ^ (n + 1) ≤ 2 ^ 63 from Nat.pow_le_pow_right (by omega) hn)
    rcases Nat.eq_zero_or_pos B with h0 | h0
    · subst h0
      rw [Nat.gcd_zero_right] at hgc
      subst hgc
      exact l_H_low0 hp hg hg2 (by omega)
    · have h1 := Nat.mod_lt A h0
      have hgc1 : Nat.gcd B (A % B) = g := (by rw [Nat.gcd_comm, ← Nat.gcd_rec, Nat.gcd_comm]; exact hgc)
      have kk : ∀ w10 w11, XP X d k_H_lowest 7 [.long a, xj, .long (lN b), xj, .int (nI part), .long (lN B), xj, .long (lN (A % B)), xj, .int (nI (i + 1)), w10, w11] [] (I, J, Rx R, N, G) (Ret (.long ((if part = 0 then a else lN b) / lN g)) (I, J, Rx R, N, G)) := by
        intro w10 w11
        rcases Nat.eq_zero_or_pos (A % B) with h2 | h2
        · rw [h2, Nat.gcd_zero_right] at hgc1
          rw [h2, hgc1]
          exact l_H_low0 hp hg hg2 (by omega)
        · have h3 := gcd_half h0 h2
          have h4 := Nat.mod_lt B h2
          have hgc2 : Nat.gcd (A % B) (B % (A % B)) = g := by rw [Nat.gcd_comm, ← Nat.gcd_rec, Nat.gcd_comm]; exact hgc1
          have k2 := fun w10 w11 => ih (i + 1 + 1) (A % B) (B % (A % B)) w10 w11 (by rw [Nat.pow_succ] at hB; omega) (by omega) (by omega) (by omega) hgc2
          generalize A % B = A2 at *
          refine XP_n 2 (pc' := 9) (ls' := [.long (a), xj, .long (lN (b)), xj, .int (nI (part)), .long (lN (B)), xj, .long (lN (A2)), xj, .int (nI ((i + 1))), w10, w11]) (st' := [.int (nI (200)), .int (nI ((i + 1)))]) (M' := (I, J, Rx R, N, G)) rfl ?_
          refine XP_icN (x := (i + 1)) (y := 200) rfl (by omega) (by omega) (fun (b9 : 200 ≤ (i + 1)) => absurd b9 (by omega)) (fun (b9 : (i + 1) < 200) => ?_)
          refine XP_n 2 (pc' := 12) (ls' := [.long (a), xj, .long (lN (b)), xj, .int (nI (part)), .long (lN (B)), xj, .long (lN (A2)), xj, .int (nI ((i + 1))), w10, w11]) (st' := [.long (lN (0)), .long (lN (A2))]) (M' := (I, J, Rx R, N, G)) rfl ?_
          refine XP_lcN (x := A2) (y := 0) rfl rfl (by omega) (by omega) (fun (b13 : A2 = 0) => absurd b13 (by omega)) (fun (b13 : ¬ A2 = 0) => ?_)
          refine XP_n 2 (pc' := 16) (ls' := [.long (a), xj, .long (lN (b)), xj, .int (nI (part)), .long (lN (B)), xj, .long (lN (A2)), xj, .int (nI ((i + 1))), w10, w11]) (st' := [.long (lN (A2)), .long (lN (B))]) (M' := (I, J, Rx R, N, G)) rfl ?_
          refine XP_lremN (a := B) (b := A2) rfl (by omega) (by omega) (by omega) ?_
          refine XP_n 6 (pc' := 23) (ls' := [.long (a), xj, .long (lN (b)), xj, .int (nI (part)), .long (lN (A2)), xj, .long (lN ((B) % (A2))), xj, .int (nI ((i + 1)) + nI (1)), .long (lN ((B) % (A2))), xj]) (st' := []) (M' := (I, J, Rx R, N, G)) rfl ?_
          rw [show nI ((i + 1)) + nI (1) = nI ((i + 1) + 1) from nI_addE (rfl) rfl]
          refine XP_n 1 (pc' := 7) (ls' := [.long (a), xj, .long (lN (b)), xj, .int (nI (part)), .long (lN (A2)), xj, .long (lN ((B) % (A2))), xj, .int (nI ((i + 1) + 1)), .long (lN ((B) % (A2))), xj]) (st' := []) (M' := (I, J, Rx R, N, G)) rfl ?_
          exact k2 _ _
      refine XP_n 2 (pc' := 9) (ls' := [.long (a), xj, .long (lN (b)), xj, .int (nI (part)), .long (lN (A)), xj, .long (lN (B)), xj, .int (nI (i)), w10, w11]) (st' := [.int (nI (200)), .int (nI (i))]) (M' := (I, J, Rx R, N, G)) rfl ?_
      refine XP_icN (x := i) (y := 200) rfl (by omega) (by omega) (fun (b9 : 200 ≤ i) => absurd b9 (by omega)) (fun (b9 : i < 200) => ?_)
      refine XP_n 2 (pc' := 12) (ls' := [.long (a), xj, .long (lN (b)), xj, .int (nI (part)), .long (lN (A)), xj, .long (lN (B)), xj, .int (nI (i)), w10, w11]) (st' := [.long (lN (0)), .long (lN (B))]) (M' := (I, J, Rx R, N, G)) rfl ?_
      refine XP_lcN (x := B) (y := 0) rfl rfl (by omega) (by omega) (fun (b13 : B = 0) => absurd b13 (by omega)) (fun (b13 : ¬ B = 0) => ?_)
      refine XP_n 2 (pc' := 16) (ls' := [.long (a), xj, .long (lN (b)), xj, .int (nI (part)), .long (lN (A)), xj, .long (lN (B)), xj, .int (nI (i)), w10, w11]) (st' := [.long (lN (B)), .long (lN (A))]) (M' := (I, J, Rx R, N, G)) rfl ?_
      refine XP_lremN (a := A) (b := B) rfl (by omega) (by omega) (by omega) ?_
      refine XP_n 6 (pc' := 23) (ls' := [.long (a), xj, .long (lN (b)), xj, .int (nI (part)), .long (lN (B)), xj, .long (lN ((A) % (B))), xj, .int (nI (i) + nI (1)), .long (lN ((A) % (B))), xj]) (st' := []) (M' := (I, J, Rx R, N, G)) rfl ?_
      rw [show nI (i) + nI (1) = nI (i + 1) from nI_addE (rfl) rfl]
      refine XP_n 1 (pc' := 7) (ls' := [.long (a), xj, .long (lN (b)), xj, .int (nI (part)), .long (lN (B)), xj, .long (lN ((A) % (B))), xj, .int (nI (i + 1)), .long (lN ((A) % (B))), xj]) (st' := []) (M' := (I, J, Rx R, N, G)) rfl ?_
      exact kk _ _
theorem h_low1 {a : Int64} {b part : Nat} (hp : part ≤ 1) (hb : 0 < b) (hb2 : b < 9223372036854775808) (ha : a ≠ Int64.minValue) : TP X d n_H_lowest [.long a, .long (lN b), .int (nI part)] (I, J, Rx R, N, G) (Ret (.long ((if part = 0 then a else lN b) / lN (Nat.gcd a.toInt.natAbs b))) (I, J, Rx R, N, G)) := by
  obtain ⟨hA1, hA2⟩ := abs_l ha
  unfold TP
  show XP X _ k_H_lowest 0 [.long a, xj, .long (lN b), xj, .int (nI part), xj, xj, xj, xj, xj, xj, xj] [] _ _
  refine XP_n 2 (pc' := 2) (ls' := [.long a, xj, .long (lN b), xj, .int (nI part), xj, xj, xj, xj, xj, xj, xj]) (st' := [.long (if 0 < a then a else -a)]) (M' := (I, J, Rx R, N, G)) rfl ?_
  rw [abs_l2 ha]
  refine XP_n 5 (pc' := 7) (ls' := [.long a, xj, .long (lN b), xj, .int (nI part), .long (lN a.toInt.natAbs), xj, .long (lN b), xj, .int (nI 0), xj, xj]) (st' := []) (M' := (I, J, Rx R, N, G)) rfl ?_
  exact l_H_low hp (Nat.gcd_pos_of_pos_right _ hb) (Nat.lt_of_le_of_lt (Nat.gcd_le_right _ hb) hb2) 63 0 _ _ _ _ hb2 (by omega) (by omega) hA2 rfl
theorem gLow_1 {a : Int64} {b part : Nat} (hp : part ≤ 1) (hb : 0 < b) (hb2 : b < 9223372036854775808) : (if part = 0 then a else lN b) / lN (Nat.gcd a.toInt.natAbs b) = gLow a b part := by
  unfold gLow
  by_cases h : a = 0
  · subst h
    rw [if_pos rfl]
    rw [show (0 : Int64).toInt.natAbs = 0 from rfl, Nat.gcd_zero_left]
    by_cases h2 : part = 0
    · rw [if_pos h2, h2]
      show lN 0 / lN b = lN 0
      rw [pk_lDiv (by omega) hb hb2, Nat.zero_div]
    · rw [if_neg h2, pk_lDiv hb2 hb hb2, Nat.div_self hb, show part = 1 by omega]
  · rw [if_neg h]
theorem h_low {a : Int64} {b part : Nat} (hp : part ≤ 1) (hb : 0 < b) (hb2 : b < 9223372036854775808) (ha : a ≠ Int64.minValue) : TP X d n_H_lowest [.long a, .long (lN b), .int (nI part)] (I, J, Rx R, N, G) (Ret (.long (gLow a b part)) (I, J, Rx R, N, G)) := by
  rw [← gLow_1 hp hb hb2]
  exact h_low1 hp hb hb2 ha
end
