/-! the model's tokens -/
def mT (t : Nat) : Int32 := if t = 2001 then nI 0 else if t = 2002 then cI (-1) else if t = 2000 then nI 1 else if t < 1000 then nI t else if t < 1006 then nI 2 else if t < 1009 then nI 3 else nI (t - 1005)
theorem mT_w : (∀ k, k < 3 → mT (tw k) = nI 3) ∧ (∀ k, k < 9 → 3 ≤ k → mT (tw k) = nI 2) ∧ (∀ k, k < 12 → 9 ≤ k → mT (tw k) = nI (4 + k - 9)) ∧ mT (tw 12) = cI (-1) := by decide +kernel
def pN (f : Nat → Nat) : Nat → Nat
  | 0 => 0
  | n + 1 => pN f n * 256 + f n
theorem pN_inj {f g : Nat → Nat} : ∀ (n m : Nat), pN f n = pN g m → (∀ j, j < n → 0 < f j ∧ f j < 256) → (∀ j, j < m → 0 < g j ∧ g j < 256) → n = m ∧ ∀ j, j < n → f j = g j
  | 0, 0, _, _, _ => ⟨rfl, fun j h => absurd h (by omega)⟩
  | 0, m + 1, h, _, hg => by
    have e : pN g (m + 1) = pN g m * 256 + g m := rfl
    have e0 : pN f 0 = 0 := rfl
    have := hg m (by omega)
    omega
  | n + 1, 0, h, hf, _ => by
    have e : pN f (n + 1) = pN f n * 256 + f n := rfl
    have e0 : pN g 0 = 0 := rfl
    have := hf n (by omega)
    omega
  | n + 1, m + 1, h, hf, hg => by
    have e : pN f (n + 1) = pN f n * 256 + f n := rfl
    have e2 : pN g (m + 1) = pN g m * 256 + g m := rfl
    have h1 := hf n (by omega)
    have h2 := hg m (by omega)
    obtain ⟨h3, h4⟩ := pN_inj (f := f) (g := g) n m (by omega) (fun j hj => hf j (by omega)) (fun j hj => hg j (by omega))
    refine ⟨by omega, fun j hj => ?_⟩
    by_cases q : j = n
    · subst q
      subst h3
      omega
    · exact h4 j (by omega)
theorem wd_p : ∀ k, k < 12 → wdL.getD k 0 = lN (pN (fun j => (wA k).getD j 0) (wA k).length) ∧ (wA k).length ≤ 6 ∧ pN (fun j => (wA k).getD j 0) (wA k).length < 281474976710656 ∧ 0 < pN (fun j => (wA k).getD j 0) (wA k).length := by decide +kernel
theorem wA_b : ∀ k, k < 12 → ∀ j, j < (wA k).length → 0 < (wA k).getD j 0 ∧ (wA k).getD j 0 < 256 := by
  have h : ∀ k, k < 12 → (List.range (wA k).length).all (fun j => decide (0 < (wA k).getD j 0 ∧ (wA k).getD j 0 < 256)) = true := by decide +kernel
  exact fun k hk j hj => of_decide_eq_true (List.all_eq_true.mp (h k hk) j (List.mem_range.mpr hj))
theorem lN_bv {a : Nat} (h : a < 18446744073709551616) : (lN a).toBitVec.toNat = a := by
  show (BitVec.ofNat 64 a).toNat = a
  rw [BitVec.toNat_ofNat]
  exact Nat.mod_eq_of_lt h
theorem lN_inj {a c : Nat} (h1 : a < 18446744073709551616) (h2 : c < 18446744073709551616) (h : lN a = lN c) : a = c := by
  have this : (lN a).toBitVec.toNat = (lN c).toBitVec.toNat := congrArg (fun x : Int64 => x.toBitVec.toNat) h
  rw [lN_bv h1, lN_bv h2] at this
  exact this
theorem l_pack {a c : Nat} (ha : a < 281474976710656) (hc : c < 256) : (lN a <<< ((nI 8).toInt64 &&& 63)) ||| lN c = lN (a * 256 + c) := by
  apply Int64.toBitVec_inj.mp
  rw [Int64.toBitVec_or, Int64.toBitVec_shiftLeft]
  apply BitVec.eq_of_toNat_eq
  have e8 : (((nI 8).toInt64 &&& 63).toBitVec.smod 64) = 8#64 := by decide
  rw [e8, BitVec.toNat_or, lN_bv (by omega), lN_bv (by omega)]
  have e9 : ((lN a).toBitVec <<< 8#64).toNat = a * 256 := by
    rw [BitVec.shiftLeft_eq', BitVec.toNat_shiftLeft, lN_bv (by omega), show (8#64).toNat = 8 from rfl, Nat.shiftLeft_eq]
    exact Nat.mod_eq_of_lt (by omega)
  rw [e9]
  have h := Nat.shiftLeft_add_eq_or_of_lt (show c < 2 ^ 8 by omega) a
  rw [Nat.shiftLeft_eq] at h
  exact h.symm
def pI (b : Nat → Nat) (q : Nat) : Nat → Int64
  | 0 => lN 0
  | n + 1 => if n < 8 then (pI b q n <<< ((nI 8).toInt64 &&& 63)) ||| lN (b (q + n)) else pI b q n
theorem pI_n {b : Nat → Nat} {q : Nat} : ∀ n, n ≤ 6 → (∀ j, j < n → b (q + j) < 256) → pI b q n = lN (pN (fun j => b (q + j)) n) ∧ pN (fun j => b (q + j)) n < 256 ^ n
  | 0, _, _ => ⟨rfl, by show 0 < 1; omega⟩
  | n + 1, h, hb => by
    obtain ⟨h1, h2⟩ := pI_n n (by omega) (fun j hj => hb j (by omega))
    have h3 := hb n (by omega)
    have h4 : 256 ^ n ≤ 256 ^ 5 := Nat.pow_le_pow_right (by omega) (by omega)
    have h5 : (256 : Nat) ^ 5 = 1099511627776 := by decide
    have e : pN (fun j => b (q + j)) (n + 1) = pN (fun j => b (q + j)) n * 256 + b (q + n) := rfl
    refine ⟨?_, ?_⟩
    · show (if n < 8 then (pI b q n <<< ((nI 8).toInt64 &&& 63)) ||| lN (b (q + n)) else pI b q n) = _
      rw [if_pos (by omega), h1, l_pack (by omega) h3, e]
    · rw [e, Nat.pow_succ]
      omega
/-- what letters() gives -/
def lw (b : Nat → Nat) (q n : Nat) : Int64 := if 6 < n then lN 0 else pI b q n
theorem lw_iff {b : Nat → Nat} {q e k : Nat} (hk : k < 12) (hb : ∀ j, q ≤ j → j < e → 97 ≤ b j ∧ b j ≤ 122) : wdL.getD k 0 = lw b q (e - q) ↔ mW b q e k := by
  obtain ⟨h1, h2, h3, h4⟩ := wd_p k hk
  unfold lw
  by_cases g : 6 < e - q
  · rw [if_pos g, h1]
    constructor
    · intro h
      have := lN_inj (by omega) (by omega) h
      omega
    · intro h
      have := h.1
      omega
  · rw [if_neg g, h1]
    have hb2 : ∀ j, j < e - q → 0 < b (q + j) ∧ b (q + j) < 256 := fun j hj => by
      have := hb (q + j) (by omega) (by omega)
      omega
    obtain ⟨h5, h6⟩ := pI_n (b := b) (q := q) (e - q) (by omega) (fun j hj => (hb2 j hj).2)
    rw [h5]
    have h7 : 256 ^ (e - q) ≤ 256 ^ 6 := Nat.pow_le_pow_right (by omega) (by omega)
    have h8 : (256 : Nat) ^ 6 = 281474976710656 := by decide
    constructor
    · intro h
      have h9 := lN_inj (by omega) (by omega) h
      obtain ⟨h10, h11⟩ := pN_inj _ _ h9.symm hb2 (wA_b k hk)
      exact ⟨h10, fun j hj => h11 j (by omega)⟩
    · intro h
      have : pN (fun j => b (q + j)) (e - q) = pN (fun j => (wA k).getD j 0) (wA k).length := by
        rw [h.1]
        have key : ∀ n, n ≤ (wA k).length → pN (fun j => b (q + j)) n = pN (fun j => (wA k).getD j 0) n := by
          intro n
          induction n with
          | zero => intro _; rfl
          | succ n ih =>
            intro hn
            show pN _ n * 256 + b (q + n) = pN _ n * 256 + (wA k).getD n 0
            rw [ih (by omega), h.2 n (by omega)]
        exact key _ (Nat.le_refl _)
      rw [this]
def mvI (b : Nat → Nat) (q : Nat) : Nat → Int32
  | 0 => nI 0
  | n + 1 => if n < 4 then nI 10 * mvI b q n + nI (b (q + n)) - nI 48 else nI 0
theorem mvI_n {b : Nat → Nat} {q : Nat} : ∀ n, n ≤ 4 → (∀ j, j < n → 48 ≤ b (q + j) ∧ b (q + j) ≤ 57) → mvI b q n = nI (dv b q n)
  | 0, _, _ => rfl
  | n + 1, h, hd => by
    have h1 := mvI_n n (by omega) (fun j hj => hd j (by omega))
    obtain ⟨h3, h4⟩ := hd n (by omega)
    have e : dv b q (n + 1) = dv b q n * 10 + (b (q + n) - 48) := rfl
    show (if n < 4 then nI 10 * mvI b q n + nI (b (q + n)) - nI 48 else nI 0) = _
    rw [if_pos (by omega), h1, nI_mul, nI_add, nI_sub (by omega), e, show 10 * dv b q n + b (q + n) - 48 = dv b q n * 10 + (b (q + n) - 48) by omega]
/-- the model's tape -/
def TpM (I : Nat → Nat → Int32) (b : Nat → Nat) (L : Nat) : Prop := I 99 27 = nI L ∧ ∀ i, i < L → I 116 i = nI (b i)
