/-! plans as numbers -/
theorem bnd_nat (hi : Nat) (hh : hi < 2147483647) (v : Int32) : iN 0 hi (bnd (nI 0) (nI hi) v) := by
  unfold bnd
  by_cases h1 : v < nI 0
  · rw [if_pos h1]
    exact ⟨0, Nat.le_refl _, Nat.zero_le _, rfl⟩
  · rw [if_neg h1]
    by_cases h2 : nI hi < v
    · rw [if_pos h2]
      exact ⟨hi, Nat.zero_le _, Nat.le_refl _, rfl⟩
    · rw [if_neg h2]
      have h3 := (in_iff (n := hi + 1) (x := v) (by omega) (by omega)).mp ⟨Int32.not_lt.mp h1, Int32.not_lt.mp h2⟩
      obtain ⟨j, h3, rfl⟩ := inN_nI h3 (by omega)
      exact ⟨j, Nat.zero_le _, by omega, rfl⟩
theorem sHarm_nat {s : Nat → Nat → Int32} (hW : Wf s) (l h y rich : Int32) : ∀ n, n ≤ cS s → ∃ k, sHarm s (tQ s (cLw s)) (tK1 s (cLw s)) l h y rich n = lN k ∧ k ≤ sumN (rOf s) n * 9999
  | 0, _ => ⟨0, rfl, Nat.zero_le _⟩
  | n + 1, hn => by
    obtain ⟨k, h1, h2⟩ := sHarm_nat hW l h y rich n (by omega)
    obtain ⟨e, _, h3⟩ := hW.so (show n < cS s by omega)
    unfold sHarm sumN
    rw [Nat.add_mul]
    split
    · obtain ⟨j, _, h4, h5⟩ := bnd_nat 9999 (by omega) (sW (nmV (l + s 105 n - h) rich h l y (cI 0)) (tQ s (cLw s)) 0 (tK1 s (cLw s)))
      refine ⟨k + rOf s n * j, ?_, ?_⟩
      · rw [h1, e]
        unfold hTerm
        rw [h5, nI_l (by omega), nI_l (by omega), lN_mul, lN_add]
      · have : rOf s n * j ≤ rOf s n * 9999 := Nat.mul_le_mul_left _ h4
        exact Nat.add_le_add h2 this
    · exact ⟨k, h1, Nat.le_trans h2 (Nat.le_add_right _ _)⟩
def nHarm (s : Nat → Nat → Int32) (l h y : Nat) (rich : Int32) : Nat := (gHarm s (nI l) (nI h) (nI y) rich).toInt.toNat
def nCost (s : Nat → Nat → Int32) (br : Int32) (up h y : Nat) (rich : Int32) : Nat := wN (gCost s br (nI up) (nI h) (nI y) rich)
theorem nHarm_ok {s : Nat → Nat → Int32} (hW : Wf s) (l h y : Nat) (rich : Int32) : gHarm s (nI l) (nI h) (nI y) rich = lN (nHarm s l h y rich) ∧ nHarm s l h y rich ≤ 9999000 := by
  obtain ⟨k, h1, h2⟩ := sHarm_nat hW (nI l) (nI h) (nI y) rich (cS s) (Nat.le_refl _)
  have h3 := hW.ssum
  have h4 : sumN (rOf s) (cS s) * 9999 ≤ 1000 * 9999 := Nat.mul_le_mul_right _ h3
  have e : nHarm s l h y rich = k := by
    unfold nHarm gHarm
    rw [h1, pk_lT (by omega)]
    rfl
  rw [e]
  exact ⟨h1, by omega⟩
theorem nCost_ok {s : Nat → Nat → Int32} (br : Int32) (up h y : Nat) (rich : Int32) : gCost s br (nI up) (nI h) (nI y) rich = nI (nCost s br up h y rich) ∧ nCost s br up h y rich ≤ 9999 := by
  have : iN 0 9999 (gCost s br (nI up) (nI h) (nI y) rich) := by
    unfold gCost sCost
    split
    · exact ⟨0, Nat.le_refl _, Nat.zero_le _, rfl⟩
    · exact bnd_nat 9999 (by omega) _
  obtain ⟨h1, _, h2⟩ := this.nat (by omega)
  exact ⟨h1, h2⟩
/-- what is behind as a year begins -/
def gB (s : Nat → Nat → Int32) : Nat → Int32
  | 0 => s 99 2
  | y + 1 => gGrow s (gB s y) (nI y)
theorem gB_bt (s : Nat → Nat → Int32) : ∀ y, sBT (tQ s (cLw s)) (tK2 s (cLw s)) (tLn s (cLw s) - tK2 s (cLw s)) (s 99 2) y = gB s y
  | 0 => rfl
  | y + 1 => by
    unfold sBT gB
    rw [gB_bt s y]
    rfl
def minV (f : Nat → Nat) : Nat → Nat
  | 0 => f 0
  | m + 1 => if f (m + 1) < minV f m then f (m + 1) else minV f m
def argV (f : Nat → Nat) : Nat → Nat
  | 0 => 0
  | m + 1 => if f (m + 1) < minV f m then m + 1 else argV f m
theorem argV_le (f : Nat → Nat) : ∀ m, argV f m ≤ m
  | 0 => Nat.le_refl _
  | m + 1 => by
    have := argV_le f m
    unfold argV
    split <;> omega
theorem argV_eq (f : Nat → Nat) : ∀ m, f (argV f m) = minV f m
  | 0 => rfl
  | m + 1 => by
    show f (if f (m + 1) < minV f m then m + 1 else argV f m) = (if f (m + 1) < minV f m then f (m + 1) else minV f m)
    by_cases h : f (m + 1) < minV f m
    · rw [if_pos h, if_pos h]
    · rw [if_neg h, if_neg h]
      exact argV_eq f m
theorem minV_le (f : Nat → Nat) : ∀ m u, u ≤ m → minV f m ≤ f u
  | 0, u, h => by
    obtain rfl : u = 0 := by omega
    exact Nat.le_refl _
  | m + 1, u, h => by
    unfold minV
    by_cases e : u = m + 1
    · subst e
      split <;> omega
    · have := minV_le f m u (by omega)
      split <;> omega
theorem argV_lt (f : Nat → Nat) : ∀ m u, u < argV f m → minV f m < f u
  | 0, u, h => by
    unfold argV at h
    omega
  | m + 1, u, h => by
    unfold argV at h
    unfold minV
    split at h
    · rename_i h1
      rw [if_pos h1]
      have := minV_le f m u (by omega)
      omega
    · rename_i h1
      rw [if_neg h1]
      exact argV_lt f m u h
theorem minV_congr {f g : Nat → Nat} : ∀ {m : Nat}, (∀ u, u ≤ m → f u = g u) → minV f m = minV g m ∧ argV f m = argV g m
  | 0, h => ⟨h 0 (Nat.le_refl _), rfl⟩
  | m + 1, h => by
    obtain ⟨h1, h2⟩ := minV_congr (m := m) (fun u hu => h u (by omega))
    unfold minV argV
    rw [h1, h2, h (m + 1) (Nat.le_refl _)]
    exact ⟨rfl, rfl⟩
theorem minV_bd {f : Nat → Nat} {c : Nat} : ∀ m, (∀ u, u ≤ m → f u ≤ c) → minV f m ≤ c
  | m, h => Nat.le_trans (minV_le f m 0 (Nat.zero_le _)) (h 0 (Nat.zero_le _))
/-- harm of a year by weights (q 0) or on path q - 1, the wall raised by d in all -/
def hY (s : Nat → Nat → Int32) (q y d : Nat) : Nat := if q = 0 then sumN (fun o => rWt s o * nHarm s (nLv s o y) (cW s + d) y (gB s y)) (cP s) else nHarm s (nLv s (q - 1) y) (cW s + d) y (gB s y)
def pSc (s : Nat → Nat → Int32) (q : Nat) : Nat := 1000 * (if q = 0 then cWA s else 1)
def pY (s : Nat → Nat → Int32) (q : Nat) (br : Int32) (y d up : Nat) : Nat := pSc s q * nCost s br up (cW s + d) y (gB s y) + hY s q y (d + up)
def mst (s : Nat → Nat → Int32) (no y d : Nat) : Nat := if y < no then 0 else min 3 (99 - cW s - d)
def pL (s : Nat → Nat → Int32) (q : Nat) (br : Int32) (no : Nat) : Nat → Nat → Nat
  | 0, _ => 0
  | k + 1, d => minV (fun up => pY s q br (cY s - (k + 1)) d up + pL s q br no k (d + up)) (mst s no (cY s - (k + 1)) d)
/-- the raising in year y, raised by d so far -/
def pA (s : Nat → Nat → Int32) (q : Nat) (br : Int32) (no y d : Nat) : Nat := argV (fun up => pY s q br y d up + pL s q br no (cY s - (y + 1)) (d + up)) (mst s no y d)
theorem pL_y (s : Nat → Nat → Int32) (q : Nat) (br : Int32) (no : Nat) {y : Nat} (hy : y < cY s) (d : Nat) : pL s q br no (cY s - y) d = minV (fun up => pY s q br y d up + pL s q br no (cY s - (y + 1)) (d + up)) (mst s no y d) := by
  obtain ⟨k, hk⟩ : ∃ k, cY s - (y + 1) = k := ⟨_, rfl⟩
  have e : cY s - y = k + 1 := by omega
  have e2 : cY s - (k + 1) = y := by omega
  rw [e, hk]
  show minV _ _ = _
  rw [e2]
def pD (s : Nat → Nat → Int32) (q : Nat) (br : Int32) (no : Nat) : Nat → Nat
  | 0 => 0
  | y + 1 => pD s q br no y + pA s q br no y (pD s q br no y)
def pU (s : Nat → Nat → Int32) (q : Nat) (br : Int32) (no y : Nat) : Nat := pA s q br no y (pD s q br no y)
def pBest (s : Nat → Nat → Int32) (q : Nat) (br : Int32) (no : Nat) : Nat := pL s q br no (cY s) 0
theorem mst_le (s : Nat → Nat → Int32) (no y d : Nat) : mst s no y d ≤ 3 ∧ mst s no y d ≤ 99 - cW s - d := by
  unfold mst
  split <;> omega
theorem pA_le (s : Nat → Nat → Int32) (q : Nat) (br : Int32) (no y d : Nat) : pA s q br no y d ≤ 3 ∧ pA s q br no y d ≤ 99 - cW s - d := by
  have h1 := mst_le s no y d
  have h2 := argV_le (fun up => pY s q br y d up + pL s q br no (cY s - (y + 1)) (d + up)) (mst s no y d)
  unfold pA
  omega
theorem pD_le {s : Nat → Nat → Int32} (hW : Wf s) (q : Nat) (br : Int32) (no : Nat) : ∀ y, pD s q br no y ≤ 3 * y ∧ cW s + pD s q br no y ≤ 99
  | 0 => by
    have := hW.w.2
    show 0 ≤ 0 ∧ cW s + 0 ≤ 99
    omega
  | y + 1 => by
    have ih := pD_le hW q br no y
    have h := pA_le s q br no y (pD s q br no y)
    unfold pD
    omega
theorem hY_le {s : Nat → Nat → Int32} (hW : Wf s) {q : Nat} (y d : Nat) : hY s q y d ≤ 396 * 9999000 := by
  unfold hY
  split
  · have h4 := hW.p.2
    have := sumN_le (f := fun o => rWt s o * nHarm s (nLv s o y) (cW s + d) y (gB s y)) (c := 99 * 9999000) (n := cP s) (fun i hi => Nat.mul_le_mul (hW.pw hi).2.2 (nHarm_ok hW _ _ _ _).2)
    have h5 : cP s * (99 * 9999000) ≤ 4 * (99 * 9999000) := Nat.mul_le_mul_right _ h4
    exact Nat.le_trans this (Nat.le_trans h5 (by decide))
  · exact Nat.le_trans (nHarm_ok hW (nLv s (q - 1) y) (cW s + d) y (gB s y)).2 (by decide)
theorem pSc_le {s : Nat → Nat → Int32} (hW : Wf s) (q : Nat) : pSc s q ≤ 396000 := by
  have := (cWA_le hW).1
  unfold pSc
  split <;> omega
theorem pY_le {s : Nat → Nat → Int32} (hW : Wf s) (q : Nat) (br : Int32) (y d up : Nat) : pY s q br y d up ≤ 10000000000 := by
  have h1 : pSc s q * nCost s br up (cW s + d) y (gB s y) ≤ 396000 * 9999 := Nat.mul_le_mul (pSc_le hW q) (nCost_ok br up (cW s + d) y (gB s y)).2
  have h2 := hY_le hW (q := q) y (d + up)
  unfold pY
  omega
theorem pL_le {s : Nat → Nat → Int32} (hW : Wf s) (q : Nat) (br : Int32) (no : Nat) : ∀ k d, pL s q br no k d ≤ k * 10000000000
  | 0, _ => by simp [pL]
  | k + 1, d => by
    unfold pL
    refine minV_bd _ (fun u _ => ?_)
    have h1 := pY_le hW q br (cY s - (k + 1)) d u
    have h2 := pL_le hW q br no k (d + u)
    rw [Nat.add_mul]
    omega
theorem pL_b {s : Nat → Nat → Int32} (hW : Wf s) (q : Nat) (br : Int32) (no : Nat) (k d : Nat) (hk : k ≤ 16) : pL s q br no k d ≤ 160000000000 := by
  have h := pL_le hW q br no k d
  have h2 : k * 10000000000 ≤ 16 * 10000000000 := Nat.mul_le_mul_right _ hk
  omega
/-- how far the wall can have been raised as a year begins -/
def fr (s : Nat → Nat → Int32) (y : Nat) : Nat := min (3 * y) (99 - cW s)
theorem mst_fr {s : Nat → Nat → Int32} {no y d : Nat} (hd : d ≤ fr s y) : mst s no y d = min (if y < no then 0 else 3) (fr s (y + 1) - d) := by
  unfold mst fr at *
  split <;> omega
