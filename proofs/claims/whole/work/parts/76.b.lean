/-! face: judge -/
def juA (s : Nat → Nat → Int32) (m y h : Nat) : Nat → Bool
  | 0 => false
  | n + 1 => juA s m y h n || decide (nI m < gFl s (nI (nLv s n y)) (nI h))
theorem juA_t {s : Nat → Nat → Int32} {m y h i : Nat} (hi : nI m < gFl s (nI (nLv s i y)) (nI h)) : ∀ n, i < n → juA s m y h n = true
  | 0, hn => by omega
  | n + 1, hn => by
    unfold juA
    by_cases e : i = n
    · subst e
      rw [decide_eq_true hi, Bool.or_true]
    · rw [juA_t hi n (by omega), Bool.true_or]
def cn (s : Nat → Nat → Int32) (sn y : Nat) : Nat := wN (s 122 (40 * sn + y))
def sJu (s : Nat → Nat → Int32) (sn m : Nat) : Nat → Nat → Nat → Int32
  | 0, _, _ => cI (-1)
  | n + 1, y, h => if juA s m y (min (h + cn s sn y) 99) (cP s) = true then nI y else sJu s sn m n (y + 1) (min (h + cn s sn y) 99)
section
variable {X : hX} {d : Nat} {s I : Nat → Nat → Int32} {J : Nat → Nat → Int64} {R : Nat → Nat → Option Nat} {N : Nat → Nat} {G : hG}
theorem l_H_ju1 {Q : Option Value → hM → Prop} (hI : Inv s R N I J) (hW : Wf s) {m y h sn : Nat} {sv x4 : Int32} (hy : y < cY s) (hm : m ≤ 1000) (kk : juA s m y h (cP s) = false → XP X (d + 6) k_H_judge 63 [.ref (0), .int (sv), .int (nI (m)), .ref (87 + 2 * sn), .int (x4), .int (nI (h)), .int (nI (y)), .int (nI (cP s))] [] (I, J, Rx R, N, G) Q) (kr : juA s m y h (cP s) = true → Q (some (.int (nI y))) (I, J, Rx R, N, G)) : ∀ (n i : Nat), i + n = cP s → juA s m y h i = false → XP X (d + 6) k_H_judge 43 [.ref (0), .int (sv), .int (nI (m)), .ref (87 + 2 * sn), .int (x4), .int (nI (h)), .int (nI (y)), .int (nI (i))] [] (I, J, Rx R, N, G) Q := by
  have hS := hI.1
  have hp4 := hW.p.2
  have hy16 := hW.y.2
  intro n
  induction n with
  | zero =>
    rintro i hi hj
    obtain rfl : i = cP s := by omega
    refine XP_n 3 (pc' := 46) (ls' := [.ref (0), .int (sv), .int (nI (m)), .ref (87 + 2 * sn), .int (x4), .int (nI (h)), .int (nI (y)), .int (nI (cP s))]) (st' := [.ref (1), .int (nI (cP s))]) (M' := (I, J, Rx R, N, G)) rfl ?_
    refine XP_geti hS rfl rfl rfl ?_
    rw [hW.p.1]
    refine XP_icN (x := cP s) (y := cP s) rfl (by omega) (by omega) (fun (b47 : cP s ≤ cP s) => ?_) (fun (b47 : cP s < cP s) => absurd b47 (by omega))
    exact kk hj
  | succ n ih =>
    rintro i hi hj
    refine XP_n 3 (pc' := 46) (ls' := [.ref (0), .int (sv), .int (nI (m)), .ref (87 + 2 * sn), .int (x4), .int (nI (h)), .int (nI (y)), .int (nI (i))]) (st' := [.ref (1), .int (nI (i))]) (M' := (I, J, Rx R, N, G)) rfl ?_
    refine XP_geti hS rfl rfl rfl ?_
    rw [hW.p.1]
    refine XP_icN (x := i) (y := cP s) rfl (by omega) (by omega) (fun (b47 : cP s ≤ i) => absurd b47 (by omega)) (fun (b47 : i < cP s) => ?_)
    refine XP_n 7 (pc' := 55) (ls' := [.ref (0), .int (sv), .int (nI (m)), .ref (87 + 2 * sn), .int (x4), .int (nI (h)), .int (nI (y)), .int (nI (i))]) (st' := [.int (nI (y)), .int (nI (i)), .ref (1), .int (nI (h)), .ref (1)]) (M' := (I, J, Rx R, N, G)) rfl ?_
    refine XP_pure rfl rfl (c_lv hS hW (show i < cP s by omega) (by omega)) ?_
    have hlv21 := (nLv_ok hW (show i < cP s by omega) (show y ≤ 15 by omega)).2
    refine XP_pure rfl rfl (c_fl hS hW _ _) ?_
    refine XP_n 1 (pc' := 58) (ls' := [.ref (0), .int (sv), .int (nI (m)), .ref (87 + 2 * sn), .int (x4), .int (nI (h)), .int (nI (y)), .int (nI (i))]) (st' := [.int (nI (m)), .int (gFl s (nI (nLv s (i) (y))) (nI (h)))]) (M' := (I, J, Rx R, N, G)) rfl ?_
    refine XP_icD rfl (fun (b58 : gFl s (nI (nLv s (i) (y))) (nI (h)) ≤ nI (m)) => ?_) (fun (b58 : nI (m) < gFl s (nI (nLv s (i) (y))) (nI (h))) => ?_)
    · have n58 := Int32.not_lt.mpr b58
      refine XP_n 1 (pc' := 62) (ls' := [.ref (0), .int (sv), .int (nI (m)), .ref (87 + 2 * sn), .int (x4), .int (nI (h)), .int (nI (y)), .int (nI (i) + nI (1))]) (st' := []) (M' := (I, J, Rx R, N, G)) rfl ?_
      rw [show nI (i) + nI (1) = nI (i + 1) from nI_addE (rfl) rfl]
      refine XP_n 1 (pc' := 43) (ls' := [.ref (0), .int (sv), .int (nI (m)), .ref (87 + 2 * sn), .int (x4), .int (nI (h)), .int (nI (y)), .int (nI (i + 1))]) (st' := []) (M' := (I, J, Rx R, N, G)) rfl ?_
      exact ih (i + 1) (by omega) (by unfold juA; rw [hj, decide_eq_false (Int32.not_lt.mpr b58)]; rfl)
    · have n58 := Int32.not_le.mpr b58
      refine XP_n 1 (pc' := 60) (ls' := [.ref (0), .int (sv), .int (nI (m)), .ref (87 + 2 * sn), .int (x4), .int (nI (h)), .int (nI (y)), .int (nI (i))]) (st' := [.int (nI (y))]) (M' := (I, J, Rx R, N, G)) rfl ?_
      exact XP_ret rfl (kr (juA_t b58 (cP s) (by omega)))
theorem l_M_ju1 {Q : Option Value → hM → Prop} (hI : Inv s R N I J) (hW : Wf s) {m y h sn : Nat} (hy : y < cY s) (hm : m ≤ 1000) (kk : juA s m y h (cP s) = false → XP X (d + 6) k_M_judge 110 [.ref (99), .int (nI (sn)), .int (nI (m)), .int (nI (1)), .int (nI (h)), .int (nI (y)), .int (nI (cP s))] [] (I, J, Rx R, N, G) Q) (kr : juA s m y h (cP s) = true → Q (some (.int (nI y))) (I, J, Rx R, N, G)) : ∀ (n i : Nat), i + n = cP s → juA s m y h i = false → XP X (d + 6) k_M_judge 93 [.ref (99), .int (nI (sn)), .int (nI (m)), .int (nI (1)), .int (nI (h)), .int (nI (y)), .int (nI (i))] [] (I, J, Rx R, N, G) Q := by
  have hS := hI.1
  have hp4 := hW.p.2
  have hy16 := hW.y.2
  intro n
  induction n with
  | zero =>
    rintro i hi hj
    obtain rfl : i = cP s := by omega
    refine XP_n 2 (pc' := 95) (ls' := [.ref (99), .int (nI (sn)), .int (nI (m)), .int (nI (1)), .int (nI (h)), .int (nI (y)), .int (nI (cP s))]) (st' := [.ref (99), .int (nI (cP s))]) (M' := (I, J, Rx R, N, G)) rfl ?_
    refine XP_geti hS rfl rfl rfl ?_
    rw [hW.p.1]
    refine XP_icN (x := cP s) (y := cP s) rfl (by omega) (by omega) (fun (b96 : cP s ≤ cP s) => ?_) (fun (b96 : cP s < cP s) => absurd b96 (by omega))
    exact kk hj
  | succ n ih =>
    rintro i hi hj
    refine XP_n 2 (pc' := 95) (ls' := [.ref (99), .int (nI (sn)), .int (nI (m)), .int (nI (1)), .int (nI (h)), .int (nI (y)), .int (nI (i))]) (st' := [.ref (99), .int (nI (i))]) (M' := (I, J, Rx R, N, G)) rfl ?_
    refine XP_geti hS rfl rfl rfl ?_
    rw [hW.p.1]
    refine XP_icN (x := i) (y := cP s) rfl (by omega) (by omega) (fun (b96 : cP s ≤ i) => absurd b96 (by omega)) (fun (b96 : i < cP s) => ?_)
    refine XP_n 4 (pc' := 101) (ls' := [.ref (99), .int (nI (sn)), .int (nI (m)), .int (nI (1)), .int (nI (h)), .int (nI (y)), .int (nI (i))]) (st' := [.int (nI (y)), .int (nI (i)), .ref (99), .ref (99)]) (M' := (I, J, Rx R, N, G)) rfl ?_
    refine XP_pure rfl rfl (m_lv hS hW (show i < cP s by omega) (by omega)) ?_
    have hlv22 := (nLv_ok hW (show i < cP s by omega) (show y ≤ 15 by omega)).2
    refine XP_n 1 (pc' := 103) (ls' := [.ref (99), .int (nI (sn)), .int (nI (m)), .int (nI (1)), .int (nI (h)), .int (nI (y)), .int (nI (i))]) (st' := [.int (nI (h)), .int (nI (nLv s (i) (y))), .ref (99)]) (M' := (I, J, Rx R, N, G)) rfl ?_
    refine XP_pure rfl rfl (m_fl hS hW _ _) ?_
    refine XP_n 1 (pc' := 105) (ls' := [.ref (99), .int (nI (sn)), .int (nI (m)), .int (nI (1)), .int (nI (h)), .int (nI (y)), .int (nI (i))]) (st' := [.int (nI (m)), .int (gFl s (nI (nLv s (i) (y))) (nI (h)))]) (M' := (I, J, Rx R, N, G)) rfl ?_
    refine XP_icD rfl (fun (b105 : gFl s (nI (nLv s (i) (y))) (nI (h)) ≤ nI (m)) => ?_) (fun (b105 : nI (m) < gFl s (nI (nLv s (i) (y))) (nI (h))) => ?_)
    · have n105 := Int32.not_lt.mpr b105
      refine XP_n 1 (pc' := 109) (ls' := [.ref (99), .int (nI (sn)), .int (nI (m)), .int (nI (1)), .int (nI (h)), .int (nI (y)), .int (nI (i) + nI (1))]) (st' := []) (M' := (I, J, Rx R, N, G)) rfl ?_
      rw [show nI (i) + nI (1) = nI (i + 1) from nI_addE (rfl) rfl]
      refine XP_n 1 (pc' := 93) (ls' := [.ref (99), .int (nI (sn)), .int (nI (m)), .int (nI (1)), .int (nI (h)), .int (nI (y)), .int (nI (i + 1))]) (st' := []) (M' := (I, J, Rx R, N, G)) rfl ?_
      exact ih (i + 1) (by omega) (by unfold juA; rw [hj, decide_eq_false (Int32.not_lt.mpr b105)]; rfl)
    · have n105 := Int32.not_le.mpr b105
      refine XP_n 1 (pc' := 107) (ls' := [.ref (99), .int (nI (sn)), .int (nI (m)), .int (nI (1)), .int (nI (h)), .int (nI (y)), .int (nI (i))]) (st' := [.int (nI (y))]) (M' := (I, J, Rx R, N, G)) rfl ?_
      exact XP_ret rfl (kr (juA_t b105 (cP s) (by omega)))
theorem l_H_ju (hI : Inv s R N I J) (hW : Wf s) {m sn : Nat} {sv x4 : Int32} (hsn : sn < 4) (hm : m ≤ 1000) (ho : shOk s sn (cY s) 20) : ∀ (n i h : Nat) (w7 : Value), i + n = cY s → h ≤ 99 → XP X (d + 6) k_H_judge 28 [.ref (0), .int (sv), .int (nI (m)), .ref (87 + 2 * sn), .int (x4), .int (nI (h)), .int (nI (i)), w7] [] (I, J, Rx R, N, G) (QP s R N G (.int (sJu s sn m n i h))) := by
  have hS := hI.1
  have hp4 := hW.p.2
  have hy16 := hW.y.2
  have hsz := ho.1
  intro n
  induction n with
  | zero =>
    rintro i h w7 hi hh
    obtain rfl : i = cY s := by omega
    refine XP_n 3 (pc' := 31) (ls' := [.ref (0), .int (sv), .int (nI (m)), .ref (87 + 2 * sn), .int (x4), .int (nI (h)), .int (nI (cY s)), w7]) (st' := [.ref (1), .int (nI (cY s))]) (M' := (I, J, Rx R, N, G)) rfl ?_
    refine XP_geti hS rfl rfl rfl ?_
    rw [hW.y.1]
    refine XP_icN (x := cY s) (y := cY s) rfl (by omega) (by omega) (fun (b32 : cY s ≤ cY s) => ?_) (fun (b32 : cY s < cY s) => absurd b32 (by omega))
    refine XP_n 1 (pc' := 66) (ls' := [.ref (0), .int (sv), .int (nI (m)), .ref (87 + 2 * sn), .int (x4), .int (nI (h)), .int (nI (cY s)), w7]) (st' := [.int (cI (-1))]) (M' := (I, J, Rx R, N, G)) rfl ?_
    exact XP_ret rfl ⟨rfl, _, _, rfl, hI⟩
  | succ n ih =>
    rintro i h w7 hi hh
    obtain ⟨z, -, hz, ez, ewz⟩ := iv_nat (ho.2 i (by omega)) (by omega) (by omega)
    have ec : cn s sn i = z := ewz
    have es : sJu s sn m (n + 1) i h = (if juA s m i (min (h + cn s sn i) 99) (cP s) = true then nI i else sJu s sn m n (i + 1) (min (h + cn s sn i) 99)) := rfl
    rw [es, ec]
    obtain ⟨h2, eh2⟩ : ∃ z2, z2 = min (h + z) 99 := ⟨_, rfl⟩
    rw [← eh2]
    refine XP_n 3 (pc' := 31) (ls' := [.ref (0), .int (sv), .int (nI (m)), .ref (87 + 2 * sn), .int (x4), .int (nI (h)), .int (nI (i)), w7]) (st' := [.ref (1), .int (nI (i))]) (M' := (I, J, Rx R, N, G)) rfl ?_
    refine XP_geti hS rfl rfl rfl ?_
    rw [hW.y.1]
    refine XP_icN (x := i) (y := cY s) rfl (by omega) (by omega) (fun (b32 : cY s ≤ i) => absurd b32 (by omega)) (fun (b32 : i < cY s) => ?_)
    refine XP_n 3 (pc' := 36) (ls' := [.ref (0), .int (sv), .int (nI (m)), .ref (87 + 2 * sn), .int (x4), .int (nI (h)), .int (nI (i)), w7]) (st' := [.int (nI (i)), .ref (87 + 2 * sn), .int (nI (h))]) (M' := (I, J, Rx R, N, G)) rfl ?_
    refine XP_pure rfl (by show (isO (87 + 2 * sn) 8 || false) = true; rw [sh_o (by omega)]; rfl) (c_shat hS hW (show sn < 4 by omega) (show i < sz s sn by omega)) ?_
    rw [ez]
    refine XP_n 2 (pc' := 39) (ls' := [.ref (0), .int (sv), .int (nI (m)), .ref (87 + 2 * sn), .int (x4), .int (nI (h)), .int (nI (i)), w7]) (st' := [.int (nI (99)), .int ((nI (h)) + (nI (z)))]) (M' := (I, J, Rx R, N, G)) rfl ?_
    rw [show (nI (h)) + (nI (z)) = nI (h + z) from nI_addE (rfl) (rfl)]
    refine XP_n 1 (pc' := 40) (ls' := [.ref (0), .int (sv), .int (nI (m)), .ref (87 + 2 * sn), .int (x4), .int (nI (h)), .int (nI (i)), w7]) (st' := [.int ((if nI (99) < nI (h + z) then nI (99) else nI (h + z)))]) (M' := (I, J, Rx R, N, G)) rfl ?_
    rw [show (if nI (99) < nI (h + z) then nI (99) else nI (h + z)) = nI (h2) from (nI_min (by omega) (by omega)).trans (congrArg nI eh2.symm)]
    refine XP_n 3 (pc' := 43) (ls' := [.ref (0), .int (sv), .int (nI (m)), .ref (87 + 2 * sn), .int (x4), .int (nI (h2)), .int (nI (i)), .int (nI (0))]) (st' := []) (M' := (I, J, Rx R, N, G)) rfl ?_
    refine l_H_ju1 hI hW (by omega) hm (fun hj => ?_) (fun hj => ?_) (cP s) 0 (by omega) rfl
    rotate_left
    · rw [if_pos hj]
      exact ⟨rfl, _, _, rfl, hI⟩
    refine XP_n 1 (pc' := 64) (ls' := [.ref (0), .int (sv), .int (nI (m)), .ref (87 + 2 * sn), .int (x4), .int (nI (h2)), .int (nI (i) + nI (1)), .int (nI (cP s))]) (st' := []) (M' := (I, J, Rx R, N, G)) rfl ?_
    rw [show nI (i) + nI (1) = nI (i + 1) from nI_addE (rfl) rfl]
    refine XP_n 1 (pc' := 28) (ls' := [.ref (0), .int (sv), .int (nI (m)), .ref (87 + 2 * sn), .int (x4), .int (nI (h2)), .int (nI (i + 1)), .int (nI (cP s))]) (st' := []) (M' := (I, J, Rx R, N, G)) rfl ?_
    rw [if_neg (by rw [hj]; simp)]
    exact ih (i + 1) h2 _ (by omega) (by omega)
theorem l_M_ju (hI : Inv s R N I J) (hW : Wf s) {m sn : Nat} {sv x4 : Int32} (hsn : sn < 4) (hm : m ≤ 1000) (ho : shOk s sn (cY s) 20) : ∀ (n i h : Nat) (w7 : Value), i + n = cY s → h ≤ 99 → XP X (d + 6) k_M_judge 62 [.ref (99), .int (nI (sn)), .int (nI (m)), .int (nI (1)), .int (nI (h)), .int (nI (i)), w7] [] (I, J, Rx R, N, G) (QP s R N G (.int (sJu s sn m n i h))) := by
  have hS := hI.1
  have hp4 := hW.p.2
  have hy16 := hW.y.2
  have hsz := ho.1
  intro n
  induction n with
  | zero =>
    rintro i h w7 hi hh
    obtain rfl : i = cY s := by omega
    refine XP_n 2 (pc' := 64) (ls' := [.ref (99), .int (nI (sn)), .int (nI (m)), .int (nI (1)), .int (nI (h)), .int (nI (cY s)), w7]) (st' := [.ref (99), .int (nI (cY s))]) (M' := (I, J, Rx R, N, G)) rfl ?_
    refine XP_geti hS rfl rfl rfl ?_
    rw [hW.y.1]
    refine XP_icN (x := cY s) (y := cY s) rfl (by omega) (by omega) (fun (b65 : cY s ≤ cY s) => ?_) (fun (b65 : cY s < cY s) => absurd b65 (by omega))
    refine XP_n 1 (pc' := 113) (ls' := [.ref (99), .int (nI (sn)), .int (nI (m)), .int (nI (1)), .int (nI (h)), .int (nI (cY s)), w7]) (st' := [.int (cI (-1))]) (M' := (I, J, Rx R, N, G)) rfl ?_
    exact XP_ret rfl ⟨rfl, _, _, rfl, hI⟩
  | succ n ih =>
    rintro i h w7 hi hh
    obtain ⟨z, -, hz, ez, ewz⟩ := iv_nat (ho.2 i (by omega)) (by omega) (by omega)
    have ec : cn s sn i = z := ewz
    have es : sJu s sn m (n + 1) i h = (if juA s m i (min (h + cn s sn i) 99) (cP s) = true then nI i else sJu s sn m n (i + 1) (min (h + cn s sn i) 99)) := rfl
    rw [es, ec]
    obtain ⟨h2, eh2⟩ : ∃ z2, z2 = min (h + z) 99 := ⟨_, rfl⟩
    rw [← eh2]
    refine XP_n 2 (pc' := 64) (ls' := [.ref (99), .int (nI (sn)), .int (nI (m)), .int (nI (1)), .int (nI (h)), .int (nI (i)), w7]) (st' := [.ref (99), .int (nI (i))]) (M' := (I, J, Rx R, N, G)) rfl ?_
    refine XP_geti hS rfl rfl rfl ?_
    rw [hW.y.1]
    refine XP_icN (x := i) (y := cY s) rfl (by omega) (by omega) (fun (b65 : cY s ≤ i) => absurd b65 (by omega)) (fun (b65 : i < cY s) => ?_)
    refine XP_n 8 (pc' := 74) (ls' := [.ref (99), .int (nI (sn)), .int (nI (m)), .int (nI (1)), .int (nI (h)), .int (nI (i)), w7]) (st' := [.int (((nI (40)) * (nI (sn))) + (nI (i))), .ref (122), .int (nI (h))]) (M' := (I, J, Rx R, N, G)) rfl ?_
    rw [show ((nI (40)) * (nI (sn))) + (nI (i)) = nI ((40) * (sn) + i) from nI_addE (nI_mulE (rfl) (rfl)) (rfl)]
    refine XP_iald hS rfl rfl (show (40) * (sn) + i < 160 by omega) rfl (by omega) rfl ?_
    rw [ez]
    refine XP_n 2 (pc' := 77) (ls' := [.ref (99), .int (nI (sn)), .int (nI (m)), .int (nI (1)), .int (nI (h)), .int (nI (i)), w7]) (st' := [.int (nI (99)), .int ((nI (h)) + (nI (z)))]) (M' := (I, J, Rx R, N, G)) rfl ?_
    rw [show (nI (h)) + (nI (z)) = nI (h + z) from nI_addE (rfl) (rfl)]
    refine XP_icN (x := h + z) (y := 99) rfl (by omega) (by omega) (fun (b77 : h + z ≤ 99) => ?_) (fun (b77 : 99 < h + z) => ?_)
    · refine XP_n 8 (pc' := 88) (ls' := [.ref (99), .int (nI (sn)), .int (nI (m)), .int (nI (1)), .int (nI (h)), .int (nI (i)), w7]) (st' := [.int (((nI (40)) * (nI (sn))) + (nI (i))), .ref (122), .int (nI (h))]) (M' := (I, J, Rx R, N, G)) rfl ?_
      rw [show ((nI (40)) * (nI (sn))) + (nI (i)) = nI ((40) * (sn) + i) from nI_addE (nI_mulE (rfl) (rfl)) (rfl)]
      refine XP_iald hS rfl rfl (show (40) * (sn) + i < 160 by omega) rfl (by omega) rfl ?_
      rw [ez]
      refine XP_n 2 (pc' := 91) (ls' := [.ref (99), .int (nI (sn)), .int (nI (m)), .int (nI (1)), .int ((nI (h)) + (nI (z))), .int (nI (i)), w7]) (st' := []) (M' := (I, J, Rx R, N, G)) rfl ?_
      rw [show (nI (h)) + (nI (z)) = nI (h + z) from nI_addE (rfl) (rfl)]
      refine XP_n 2 (pc' := 93) (ls' := [.ref (99), .int (nI (sn)), .int (nI (m)), .int (nI (1)), .int (nI (h + z)), .int (nI (i)), .int (nI (0))]) (st' := []) (M' := (I, J, Rx R, N, G)) rfl ?_
      rw [show nI (h + z) = nI h2 from congrArg nI (by omega)]
      refine l_M_ju1 hI hW (sn := sn) (by omega) hm (fun hj => ?_) (fun hj => ?_) (cP s) 0 (by omega) rfl
      rotate_left
      · rw [if_pos hj]
        exact ⟨rfl, _, _, rfl, hI⟩
      refine XP_n 1 (pc' := 111) (ls' := [.ref (99), .int (nI (sn)), .int (nI (m)), .int (nI (1)), .int (nI (h2)), .int (nI (i) + nI (1)), .int (nI (cP s))]) (st' := []) (M' := (I, J, Rx R, N, G)) rfl ?_
      rw [show nI (i) + nI (1) = nI (i + 1) from nI_addE (rfl) rfl]
      refine XP_n 1 (pc' := 62) (ls' := [.ref (99), .int (nI (sn)), .int (nI (m)), .int (nI (1)), .int (nI (h2)), .int (nI (i + 1)), .int (nI (cP s))]) (st' := []) (M' := (I, J, Rx R, N, G)) rfl ?_
      rw [if_neg (by rw [hj]; simp)]
      exact ih (i + 1) h2 _ (by omega) (by omega)
    · refine XP_n 5 (pc' := 93) (ls' := [.ref (99), .int (nI (sn)), .int (nI (m)), .int (nI (1)), .int (nI (99)), .int (nI (i)), .int (nI (0))]) (st' := []) (M' := (I, J, Rx R, N, G)) rfl ?_
      rw [show nI (99) = nI h2 from congrArg nI (by omega)]
      refine l_M_ju1 hI hW (sn := sn) (by omega) hm (fun hj => ?_) (fun hj => ?_) (cP s) 0 (by omega) rfl
      rotate_left
      · rw [if_pos hj]
        exact ⟨rfl, _, _, rfl, hI⟩
      refine XP_n 1 (pc' := 111) (ls' := [.ref (99), .int (nI (sn)), .int (nI (m)), .int (nI (1)), .int (nI (h2)), .int (nI (i) + nI (1)), .int (nI (cP s))]) (st' := []) (M' := (I, J, Rx R, N, G)) rfl ?_
      rw [show nI (i) + nI (1) = nI (i + 1) from nI_addE (rfl) rfl]
      refine XP_n 1 (pc' := 62) (ls' := [.ref (99), .int (nI (sn)), .int (nI (m)), .int (nI (1)), .int (nI (h2)), .int (nI (i + 1)), .int (nI (cP s))]) (st' := []) (M' := (I, J, Rx R, N, G)) rfl ?_
      rw [if_neg (by rw [hj]; simp)]
      exact ih (i + 1) h2 _ (by omega) (by omega)
theorem l_M_jgT {Q : Option Value → hM → Prop} (hI : Inv s R N I J) (hW : Wf s) {m sn : Nat} (hm : m ≤ 1000) (hsn : sn < 4) (h : ∀ i, i < cY s → iv 0 20 (s 122 (40 * sn + i))) (kk : ∀ e, e ≤ cY s → XP X (d + 6) k_M_judge 53 [.ref (99), .int (nI (sn)), .int (nI (m)), .int (nI (1)), .int (nI (e)), xj, xj] [] (I, J, Rx R, N, G) Q) : ∀ (n i : Nat), i + n = cY s → XP X (d + 6) k_M_judge 33 [.ref (99), .int (nI (sn)), .int (nI (m)), .int (nI (1)), .int (nI (i)), xj, xj] [] (I, J, Rx R, N, G) Q := by
  have hS := hI.1
  have hp4 := hW.p.2
  have hy16 := hW.y.2
  have ht3 := hW.t.2
  intro n
  induction n with
  | zero =>
    rintro i hi
    obtain rfl : i = cY s := by omega
    refine XP_n 2 (pc' := 35) (ls' := [.ref (99), .int (nI (sn)), .int (nI (m)), .int (nI (1)), .int (nI (cY s)), xj, xj]) (st' := [.ref (99), .int (nI (cY s))]) (M' := (I, J, Rx R, N, G)) rfl ?_
    refine XP_geti hS rfl rfl rfl ?_
    rw [hW.y.1]
    refine XP_icN (x := cY s) (y := cY s) rfl (by omega) (by omega) (fun (b36 : cY s ≤ cY s) => ?_) (fun (b36 : cY s < cY s) => absurd b36 (by omega))
    exact kk _ (by omega)
  | succ n ih =>
    rintro i hi
    have hc := h i (by omega)
    refine XP_n 2 (pc' := 35) (ls' := [.ref (99), .int (nI (sn)), .int (nI (m)), .int (nI (1)), .int (nI (i)), xj, xj]) (st' := [.ref (99), .int (nI (i))]) (M' := (I, J, Rx R, N, G)) rfl ?_
    refine XP_geti hS rfl rfl rfl ?_
    rw [hW.y.1]
    refine XP_icN (x := i) (y := cY s) rfl (by omega) (by omega) (fun (b36 : cY s ≤ i) => absurd b36 (by omega)) (fun (b36 : i < cY s) => ?_)
    refine XP_n 1 (pc' := 38) (ls' := [.ref (99), .int (nI (sn)), .int (nI (m)), .int (nI (1)), .int (nI (i)), xj, xj]) (st' := [.int (nI (1))]) (M' := (I, J, Rx R, N, G)) rfl ?_
    refine XP_ifN (x := 1)  rfl (by omega) (fun (b38 : 1 = 0) => absurd b38 (by omega)) (fun (b38 : ¬ 1 = 0) => ?_)
    refine XP_n 7 (pc' := 46) (ls' := [.ref (99), .int (nI (sn)), .int (nI (m)), .int (nI (1)), .int (nI (i)), xj, xj]) (st' := [.int (((nI (40)) * (nI (sn))) + (nI (i))), .ref (122)]) (M' := (I, J, Rx R, N, G)) rfl ?_
    rw [show ((nI (40)) * (nI (sn))) + (nI (i)) = nI ((40) * (sn) + i) from nI_addE (nI_mulE (rfl) (rfl)) (rfl)]
    refine XP_iald hS rfl rfl (show (40) * (sn) + i < 160 by omega) rfl (by omega) rfl ?_
    refine XP_n 2 (pc' := 49) (ls' := [.ref (99), .int (nI (sn)), .int (nI (m)), .int (nI (1)), .int (nI (i)), xj, xj]) (st' := [.int (nI (20)), .int (nI (0)), .int (s 122 ((40) * (sn) + i))]) (M' := (I, J, Rx R, N, G)) rfl ?_
    refine XP_pure rfl rfl (w_M X _ _ 0 20 _) ?_
    rw [show b2i (iv 0 20 (s 122 ((40) * (sn) + i))) = nI 1 from b2i_t hc]
    refine XP_n 2 (pc' := 52) (ls' := [.ref (99), .int (nI (sn)), .int (nI (m)), .int (nI (1)), .int (nI (i) + nI (1)), xj, xj]) (st' := []) (M' := (I, J, Rx R, N, G)) rfl ?_
    rw [show nI (i) + nI (1) = nI (i + 1) from nI_addE (rfl) rfl]
    refine XP_n 1 (pc' := 33) (ls' := [.ref (99), .int (nI (sn)), .int (nI (m)), .int (nI (1)), .int (nI (i + 1)), xj, xj]) (st' := []) (M' := (I, J, Rx R, N, G)) rfl ?_
    exact ih (i + 1) (by omega)
theorem l_M_jgF {Q : Option Value → hM → Prop} (hI : Inv s R N I J) (hW : Wf s) {m sn : Nat} (hm : m ≤ 1000) (hsn : sn < 4)  (kk : ∀ e, e ≤ cY s → XP X (d + 6) k_M_judge 53 [.ref (99), .int (nI (sn)), .int (nI (m)), .int (nI (0)), .int (nI (e)), xj, xj] [] (I, J, Rx R, N, G) Q) : ∀ (n i : Nat), i + n = cY s → (∃ j, i ≤ j ∧ j < cY s ∧ ¬ iv 0 20 (s 122 (40 * sn + j))) → XP X (d + 6) k_M_judge 33 [.ref (99), .int (nI (sn)), .int (nI (m)), .int (nI (1)), .int (nI (i)), xj, xj] [] (I, J, Rx R, N, G) Q := by
  have hS := hI.1
  have hp4 := hW.p.2
  have hy16 := hW.y.2
  have ht3 := hW.t.2
  intro n
  induction n with
  | zero =>
    rintro i hi ⟨j, hj1, hj2, -⟩
    omega
  | succ n ih =>
    rintro i hi ⟨j, hj1, hj2, hj3⟩
    by_cases hc : iv 0 20 (s 122 (40 * sn + i))
    · refine XP_n 2 (pc' := 35) (ls' := [.ref (99), .int (nI (sn)), .int (nI (m)), .int (nI (1)), .int (nI (i)), xj, xj]) (st' := [.ref (99), .int (nI (i))]) (M' := (I, J, Rx R, N, G)) rfl ?_
      refine XP_geti hS rfl rfl rfl ?_
      rw [hW.y.1]
      refine XP_icN (x := i) (y := cY s) rfl (by omega) (by omega) (fun (b36 : cY s ≤ i) => absurd b36 (by omega)) (fun (b36 : i < cY s) => ?_)
      refine XP_n 1 (pc' := 38) (ls' := [.ref (99), .int (nI (sn)), .int (nI (m)), .int (nI (1)), .int (nI (i)), xj, xj]) (st' := [.int (nI (1))]) (M' := (I, J, Rx R, N, G)) rfl ?_
      refine XP_ifN (x := 1)  rfl (by omega) (fun (b38 : 1 = 0) => absurd b38 (by omega)) (fun (b38 : ¬ 1 = 0) => ?_)
      refine XP_n 7 (pc' := 46) (ls' := [.ref (99), .int (nI (sn)), .int (nI (m)), .int (nI (1)), .int (nI (i)), xj, xj]) (st' := [.int (((nI (40)) * (nI (sn))) + (nI (i))), .ref (122)]) (M' := (I, J, Rx R, N, G)) rfl ?_
      rw [show ((nI (40)) * (nI (sn))) + (nI (i)) = nI ((40) * (sn) + i) from nI_addE (nI_mulE (rfl) (rfl)) (rfl)]
      refine XP_iald hS rfl rfl (show (40) * (sn) + i < 160 by omega) rfl (by omega) rfl ?_
      refine XP_n 2 (pc' := 49) (ls' := [.ref (99), .int (nI (sn)), .int (nI (m)), .int (nI (1)), .int (nI (i)), xj, xj]) (st' := [.int (nI (20)), .int (nI (0)), .int (s 122 ((40) * (sn) + i))]) (M' := (I, J, Rx R, N, G)) rfl ?_
      refine XP_pure rfl rfl (w_M X _ _ 0 20 _) ?_
      rw [show b2i (iv 0 20 (s 122 ((40) * (sn) + i))) = nI 1 from b2i_t hc]
      refine XP_n 2 (pc' := 52) (ls' := [.ref (99), .int (nI (sn)), .int (nI (m)), .int (nI (1)), .int (nI (i) + nI (1)), xj, xj]) (st' := []) (M' := (I, J, Rx R, N, G)) rfl ?_
      rw [show nI (i) + nI (1) = nI (i + 1) from nI_addE (rfl) rfl]
      refine XP_n 1 (pc' := 33) (ls' := [.ref (99), .int (nI (sn)), .int (nI (m)), .int (nI (1)), .int (nI (i + 1)), xj, xj]) (st' := []) (M' := (I, J, Rx R, N, G)) rfl ?_
      refine ih (i + 1) (by omega) ⟨j, ?_, hj2, hj3⟩
      rcases Nat.eq_or_lt_of_le hj1 with e | e
      · subst e
        exact absurd hc hj3
      · exact e
    · refine XP_n 2 (pc' := 35) (ls' := [.ref (99), .int (nI (sn)), .int (nI (m)), .int (nI (1)), .int (nI (i)), xj, xj]) (st' := [.ref (99), .int (nI (i))]) (M' := (I, J, Rx R, N, G)) rfl ?_
      refine XP_geti hS rfl rfl rfl ?_
      rw [hW.y.1]
      refine XP_icN (x := i) (y := cY s) rfl (by omega) (by omega) (fun (b36 : cY s ≤ i) => absurd b36 (by omega)) (fun (b36 : i < cY s) => ?_)
      refine XP_n 1 (pc' := 38) (ls' := [.ref (99), .int (nI (sn)), .int (nI (m)), .int (nI (1)), .int (nI (i)), xj, xj]) (st' := [.int (nI (1))]) (M' := (I, J, Rx R, N, G)) rfl ?_
      refine XP_ifN (x := 1)  rfl (by omega) (fun (b38 : 1 = 0) => absurd b38 (by omega)) (fun (b38 : ¬ 1 = 0) => ?_)
      refine XP_n 7 (pc' := 46) (ls' := [.ref (99), .int (nI (sn)), .int (nI (m)), .int (nI (1)), .int (nI (i)), xj, xj]) (st' := [.int (((nI (40)) * (nI (sn))) + (nI (i))), .ref (122)]) (M' := (I, J, Rx R, N, G)) rfl ?_
      rw [show ((nI (40)) * (nI (sn))) + (nI (i)) = nI ((40) * (sn) + i) from nI_addE (nI_mulE (rfl) (rfl)) (rfl)]
      refine XP_iald hS rfl rfl (show (40) * (sn) + i < 160 by omega) rfl (by omega) rfl ?_
      refine XP_n 2 (pc' := 49) (ls' := [.ref (99), .int (nI (sn)), .int (nI (m)), .int (nI (1)), .int (nI (i)), xj, xj]) (st' := [.int (nI (20)), .int (nI (0)), .int (s 122 ((40) * (sn) + i))]) (M' := (I, J, Rx R, N, G)) rfl ?_
      refine XP_pure rfl rfl (w_M X _ _ 0 20 _) ?_
      rw [show b2i (iv 0 20 (s 122 ((40) * (sn) + i))) = nI 0 from b2i_f hc]
      refine XP_n 2 (pc' := 52) (ls' := [.ref (99), .int (nI (sn)), .int (nI (m)), .int (nI (0)), .int (nI (i) + nI (1)), xj, xj]) (st' := []) (M' := (I, J, Rx R, N, G)) rfl ?_
      rw [show nI (i) + nI (1) = nI (i + 1) from nI_addE (rfl) rfl]
      refine XP_n 1 (pc' := 33) (ls' := [.ref (99), .int (nI (sn)), .int (nI (m)), .int (nI (0)), .int (nI (i + 1)), xj, xj]) (st' := []) (M' := (I, J, Rx R, N, G)) rfl ?_
      refine XP_n 2 (pc' := 35) (ls' := [.ref (99), .int (nI (sn)), .int (nI (m)), .int (nI (0)), .int (nI (i + 1)), xj, xj]) (st' := [.ref (99), .int (nI (i + 1))]) (M' := (I, J, Rx R, N, G)) rfl ?_
      refine XP_geti hS rfl rfl rfl ?_
      rw [hW.y.1]
      refine XP_icN (x := i + 1) (y := cY s) rfl (by omega) (by omega) (fun (b36 : cY s ≤ i + 1) => ?_) (fun (b36 : i + 1 < cY s) => ?_)
      · exact kk _ (by omega)
      · refine XP_n 1 (pc' := 38) (ls' := [.ref (99), .int (nI (sn)), .int (nI (m)), .int (nI (0)), .int (nI (i + 1)), xj, xj]) (st' := [.int (nI (0))]) (M' := (I, J, Rx R, N, G)) rfl ?_
        refine XP_ifN (x := 0)  rfl (by omega) (fun (b38 : 0 = 0) => ?_) (fun (b38 : ¬ 0 = 0) => absurd b38 (by omega))
        exact kk _ (by omega)
theorem f_judge (hI : Inv s R N I J) (sv : Int32) (m : Int32) : ∃ v, TP X (d + 12) n_H_judge [.ref 0, .int sv, .int m] (I, J, Rx R, N, G) (QP s R N G (.int v)) ∧ ∀ I J, Inv s R N I J → TP X (d + 12) n_M_judge [.ref 99, .int sv, .int m] (I, J, Rx R, N, G) (QP s R N G (.int v)) := by
  have hI0 := hI
  obtain ⟨hS, hW, hL, hC, hch⟩ := hI0
  have hy16 := hW.y.2
  have hp4 := hW.p.2
  have hs6 := hW.ns.2
  have hr8 := hW.r.2
  have hst8 := hW.st.2
  have ht3 := hW.t.2
  have hw60 := hW.w.2
  have hcwa := cWA_le hW
  have hszz := fun i (h : i < 4) => (hW.sz1 h).2
  by_cases g0 : iv 0 3 (sv)
  rotate_left
  · skip
    refine ⟨cI (-2), ?_, fun I J hI => ?_⟩
    · unfold TP
      show XP X _ k_H_judge 0 [.ref (0), .int (sv), .int (m), xj, xj, xj, xj, xj] [] _ _
      refine XP_n 2 (pc' := 2) (ls' := [.ref (0), .int (sv), .int (m), xj, xj, xj, xj, xj]) (st' := [.int (sv), .ref (0)]) (M' := (I, J, Rx R, N, G)) rfl ?_
      refine XP_pure rfl rfl (c_sheetAtF g0) ?_
      refine XP_n 4 (pc' := 10) (ls' := [.ref (0), .int (sv), .int (m), .null, xj, xj, xj, xj]) (st' := [.int (cI (-2))]) (M' := (I, J, Rx R, N, G)) rfl ?_
      exact XP_ret rfl ⟨rfl, _, _, rfl, hI⟩
    · unfold TP
      show XP X _ k_M_judge 0 [.ref (99), .int (sv), .int (m), xj, xj, xj, xj] [] _ _
      refine XP_n 3 (pc' := 3) (ls' := [.ref (99), .int (sv), .int (m), xj, xj, xj, xj]) (st' := [.int (nI (3)), .int (nI (0)), .int (sv)]) (M' := (I, J, Rx R, N, G)) rfl ?_
      refine XP_pure rfl rfl (w_M X _ _ 0 3 _) ?_
      refine XP_s rfl ?_
      refine XP_beq (fun b4 => ?_) (fun b4 => absurd b4 g0)
      refine XP_n 1 (pc' := 11) (ls' := [.ref (99), .int (sv), .int (m), xj, xj, xj, xj]) (st' := [.int (cI (-2))]) (M' := (I, J, Rx R, N, G)) rfl ?_
      exact XP_ret rfl ⟨rfl, _, _, rfl, hI⟩
  obtain ⟨svn, hsvn0, hsvn, rfl, esv⟩ := iv_nat g0 (by omega) (by omega)
  by_cases g1 : iv 0 1000 (m)
  rotate_left
  · skip
    refine ⟨cI (-2), ?_, fun I J hI => ?_⟩
    · unfold TP
      show XP X _ k_H_judge 0 [.ref (0), .int (nI (svn)), .int (m), xj, xj, xj, xj, xj] [] _ _
      refine XP_n 2 (pc' := 2) (ls' := [.ref (0), .int (nI (svn)), .int (m), xj, xj, xj, xj, xj]) (st' := [.int (nI (svn)), .ref (0)]) (M' := (I, J, Rx R, N, G)) rfl ?_
      refine XP_pure rfl rfl (c_sheetAtT (show svn < 4 by omega)) ?_
      refine XP_n 4 (pc' := 7) (ls' := [.ref (0), .int (nI (svn)), .int (m), .ref (87 + 2 * svn), xj, xj, xj, xj]) (st' := [.int (m)]) (M' := (I, J, Rx R, N, G)) rfl ?_
      refine XP_pure rfl rfl (t_H_isMany X _ _ _) ?_
      refine XP_s rfl ?_
      refine XP_bne (fun b8 => absurd b8 g1) (fun b8 => ?_)
      refine XP_n 1 (pc' := 10) (ls' := [.ref (0), .int (nI (svn)), .int (m), .ref (87 + 2 * svn), xj, xj, xj, xj]) (st' := [.int (cI (-2))]) (M' := (I, J, Rx R, N, G)) rfl ?_
      exact XP_ret rfl ⟨rfl, _, _, rfl, hI⟩
    · unfold TP
      show XP X _ k_M_judge 0 [.ref (99), .int (nI (svn)), .int (m), xj, xj, xj, xj] [] _ _
      refine XP_n 3 (pc' := 3) (ls' := [.ref (99), .int (nI (svn)), .int (m), xj, xj, xj, xj]) (st' := [.int (nI (3)), .int (nI (0)), .int (nI (svn))]) (M' := (I, J, Rx R, N, G)) rfl ?_
      refine XP_pure rfl rfl (w_M X _ _ 0 3 _) ?_
      refine XP_s rfl ?_
      refine XP_beq (fun b4 => absurd g0 b4) (fun b4 => ?_)
      refine XP_n 3 (pc' := 8) (ls' := [.ref (99), .int (nI (svn)), .int (m), xj, xj, xj, xj]) (st' := [.int (nI (1000)), .int (nI (0)), .int (m)]) (M' := (I, J, Rx R, N, G)) rfl ?_
      refine XP_pure rfl rfl (w_M X _ _ 0 1000 _) ?_
      refine XP_s rfl ?_
      refine XP_bne (fun b9 => absurd b9 g1) (fun b9 => ?_)
      refine XP_n 1 (pc' := 11) (ls' := [.ref (99), .int (nI (svn)), .int (m), xj, xj, xj, xj]) (st' := [.int (cI (-2))]) (M' := (I, J, Rx R, N, G)) rfl ?_
      exact XP_ret rfl ⟨rfl, _, _, rfl, hI⟩
  obtain ⟨mn, hmn0, hmn, rfl, em⟩ := iv_nat g1 (by omega) (by omega)
  by_cases g2 : ¬ s 120 svn = cI (-1)
  rotate_left
  · skip
    refine ⟨cI (-11), ?_, fun I J hI => ?_⟩
    · unfold TP
      show XP X _ k_H_judge 0 [.ref (0), .int (nI (svn)), .int (nI (mn)), xj, xj, xj, xj, xj] [] _ _
      refine XP_n 2 (pc' := 2) (ls' := [.ref (0), .int (nI (svn)), .int (nI (mn)), xj, xj, xj, xj, xj]) (st' := [.int (nI (svn)), .ref (0)]) (M' := (I, J, Rx R, N, G)) rfl ?_
      refine XP_pure rfl rfl (c_sheetAtT (show svn < 4 by omega)) ?_
      refine XP_n 4 (pc' := 7) (ls' := [.ref (0), .int (nI (svn)), .int (nI (mn)), .ref (87 + 2 * svn), xj, xj, xj, xj]) (st' := [.int (nI (mn))]) (M' := (I, J, Rx R, N, G)) rfl ?_
      refine XP_pure rfl rfl (t_H_isMany X _ _ _) ?_
      refine XP_s rfl ?_
      refine XP_bne (fun b8 => ?_) (fun b8 => absurd g1 b8)
      refine XP_n 3 (pc' := 14) (ls' := [.ref (0), .int (nI (svn)), .int (nI (mn)), .ref (87 + 2 * svn), xj, xj, xj, xj]) (st' := [.ref (1), .ref (87 + 2 * svn)]) (M' := (I, J, Rx R, N, G)) rfl ?_
      refine XP_geti hI.1 rfl rfl rfl ?_
      rw [hW.y.1]
      refine XP_n 1 (pc' := 16) (ls' := [.ref (0), .int (nI (svn)), .int (nI (mn)), .ref (87 + 2 * svn), xj, xj, xj, xj]) (st' := [.int (nI (20)), .int (nI (cY s)), .ref (87 + 2 * svn)]) (M' := (I, J, Rx R, N, G)) rfl ?_
      refine XP_pure rfl rfl (c_refM hI.1 hW (show svn < 4 by omega) (Classical.not_not.mp g2)) ?_
      refine XP_n 2 (pc' := 19) (ls' := [.ref (0), .int (nI (svn)), .int (nI (mn)), .ref (87 + 2 * svn), .int (cI (-11)), xj, xj, xj]) (st' := [.int (cI (-11))]) (M' := (I, J, Rx R, N, G)) rfl ?_
      refine XP_ifD rfl (fun (b19 : cI (-11) = 0) => absurd b19 (by decide)) (fun (b19 : ¬ cI (-11) = 0) => ?_)
      refine XP_n 1 (pc' := 21) (ls' := [.ref (0), .int (nI (svn)), .int (nI (mn)), .ref (87 + 2 * svn), .int (cI (-11)), xj, xj, xj]) (st' := [.int (cI (-11))]) (M' := (I, J, Rx R, N, G)) rfl ?_
      exact XP_ret rfl ⟨rfl, _, _, rfl, hI⟩
    · unfold TP
      show XP X _ k_M_judge 0 [.ref (99), .int (nI (svn)), .int (nI (mn)), xj, xj, xj, xj] [] _ _
      refine XP_n 3 (pc' := 3) (ls' := [.ref (99), .int (nI (svn)), .int (nI (mn)), xj, xj, xj, xj]) (st' := [.int (nI (3)), .int (nI (0)), .int (nI (svn))]) (M' := (I, J, Rx R, N, G)) rfl ?_
      refine XP_pure rfl rfl (w_M X _ _ 0 3 _) ?_
      refine XP_s rfl ?_
      refine XP_beq (fun b4 => absurd g0 b4) (fun b4 => ?_)
      refine XP_n 3 (pc' := 8) (ls' := [.ref (99), .int (nI (svn)), .int (nI (mn)), xj, xj, xj, xj]) (st' := [.int (nI (1000)), .int (nI (0)), .int (nI (mn))]) (M' := (I, J, Rx R, N, G)) rfl ?_
      refine XP_pure rfl rfl (w_M X _ _ 0 1000 _) ?_
      refine XP_s rfl ?_
      refine XP_bne (fun b9 => ?_) (fun b9 => absurd g1 b9)
      refine XP_n 3 (pc' := 15) (ls' := [.ref (99), .int (nI (svn)), .int (nI (mn)), xj, xj, xj, xj]) (st' := [.int (nI (svn)), .ref (120)]) (M' := (I, J, Rx R, N, G)) rfl ?_
      refine XP_iald hI.1 rfl rfl (show svn < 4 by omega) rfl (by omega) rfl ?_
      refine XP_n 1 (pc' := 17) (ls' := [.ref (99), .int (nI (svn)), .int (nI (mn)), xj, xj, xj, xj]) (st' := [.int (cI (-1)), .int (s 120 svn)]) (M' := (I, J, Rx R, N, G)) rfl ?_
      refine XP_icD rfl (fun (b17 : ¬ s 120 svn = cI (-1)) => absurd b17 (by first | exact g2 | exact fun z => z g2 | omega)) (fun (b17 : s 120 svn = cI (-1)) => ?_)
      refine XP_n 1 (pc' := 19) (ls' := [.ref (99), .int (nI (svn)), .int (nI (mn)), xj, xj, xj, xj]) (st' := [.int (cI (-11))]) (M' := (I, J, Rx R, N, G)) rfl ?_
      exact XP_ret rfl ⟨rfl, _, _, rfl, hI⟩
  by_cases g3 : shOk s svn (cY s) (20)
  rotate_left
  · skip
    have hsz0 := (hW.sz1 (show svn < 4 by omega)).2
    refine ⟨cI (-2), ?_, fun I J hI => ?_⟩
    · unfold TP
      show XP X _ k_H_judge 0 [.ref (0), .int (nI (svn)), .int (nI (mn)), xj, xj, xj, xj, xj] [] _ _
      refine XP_n 2 (pc' := 2) (ls' := [.ref (0), .int (nI (svn)), .int (nI (mn)), xj, xj, xj, xj, xj]) (st' := [.int (nI (svn)), .ref (0)]) (M' := (I, J, Rx R, N, G)) rfl ?_
      refine XP_pure rfl rfl (c_sheetAtT (show svn < 4 by omega)) ?_
      refine XP_n 4 (pc' := 7) (ls' := [.ref (0), .int (nI (svn)), .int (nI (mn)), .ref (87 + 2 * svn), xj, xj, xj, xj]) (st' := [.int (nI (mn))]) (M' := (I, J, Rx R, N, G)) rfl ?_
      refine XP_pure rfl rfl (t_H_isMany X _ _ _) ?_
      refine XP_s rfl ?_
      refine XP_bne (fun b8 => ?_) (fun b8 => absurd g1 b8)
      refine XP_n 3 (pc' := 14) (ls' := [.ref (0), .int (nI (svn)), .int (nI (mn)), .ref (87 + 2 * svn), xj, xj, xj, xj]) (st' := [.ref (1), .ref (87 + 2 * svn)]) (M' := (I, J, Rx R, N, G)) rfl ?_
      refine XP_geti hI.1 rfl rfl rfl ?_
      rw [hW.y.1]
      refine XP_n 1 (pc' := 16) (ls' := [.ref (0), .int (nI (svn)), .int (nI (mn)), .ref (87 + 2 * svn), xj, xj, xj, xj]) (st' := [.int (nI (20)), .int (nI (cY s)), .ref (87 + 2 * svn)]) (M' := (I, J, Rx R, N, G)) rfl ?_
      refine XP_pure rfl rfl (c_refB hI.1 hW (show svn < 4 by omega) g2 g3) ?_
      refine XP_n 2 (pc' := 19) (ls' := [.ref (0), .int (nI (svn)), .int (nI (mn)), .ref (87 + 2 * svn), .int (cI (-2)), xj, xj, xj]) (st' := [.int (cI (-2))]) (M' := (I, J, Rx R, N, G)) rfl ?_
      refine XP_ifD rfl (fun (b19 : cI (-2) = 0) => absurd b19 (by decide)) (fun (b19 : ¬ cI (-2) = 0) => ?_)
      refine XP_n 1 (pc' := 21) (ls' := [.ref (0), .int (nI (svn)), .int (nI (mn)), .ref (87 + 2 * svn), .int (cI (-2)), xj, xj, xj]) (st' := [.int (cI (-2))]) (M' := (I, J, Rx R, N, G)) rfl ?_
      exact XP_ret rfl ⟨rfl, _, _, rfl, hI⟩
    · unfold TP
      show XP X _ k_M_judge 0 [.ref (99), .int (nI (svn)), .int (nI (mn)), xj, xj, xj, xj] [] _ _
      refine XP_n 3 (pc' := 3) (ls' := [.ref (99), .int (nI (svn)), .int (nI (mn)), xj, xj, xj, xj]) (st' := [.int (nI (3)), .int (nI (0)), .int (nI (svn))]) (M' := (I, J, Rx R, N, G)) rfl ?_
      refine XP_pure rfl rfl (w_M X _ _ 0 3 _) ?_
      refine XP_s rfl ?_
      refine XP_beq (fun b4 => absurd g0 b4) (fun b4 => ?_)
      refine XP_n 3 (pc' := 8) (ls' := [.ref (99), .int (nI (svn)), .int (nI (mn)), xj, xj, xj, xj]) (st' := [.int (nI (1000)), .int (nI (0)), .int (nI (mn))]) (M' := (I, J, Rx R, N, G)) rfl ?_
      refine XP_pure rfl rfl (w_M X _ _ 0 1000 _) ?_
      refine XP_s rfl ?_
      refine XP_bne (fun b9 => ?_) (fun b9 => absurd g1 b9)
      refine XP_n 3 (pc' := 15) (ls' := [.ref (99), .int (nI (svn)), .int (nI (mn)), xj, xj, xj, xj]) (st' := [.int (nI (svn)), .ref (120)]) (M' := (I, J, Rx R, N, G)) rfl ?_
      refine XP_iald hI.1 rfl rfl (show svn < 4 by omega) rfl (by omega) rfl ?_
      refine XP_n 1 (pc' := 17) (ls' := [.ref (99), .int (nI (svn)), .int (nI (mn)), xj, xj, xj, xj]) (st' := [.int (cI (-1)), .int (s 120 svn)]) (M' := (I, J, Rx R, N, G)) rfl ?_
      refine XP_icD rfl (fun (b17 : ¬ s 120 svn = cI (-1)) => ?_) (fun (b17 : s 120 svn = cI (-1)) => absurd b17 (by first | exact g2 | exact fun z => z g2 | omega))
      refine XP_n 3 (pc' := 23) (ls' := [.ref (99), .int (nI (svn)), .int (nI (mn)), xj, xj, xj, xj]) (st' := [.int (nI (svn)), .ref (121)]) (M' := (I, J, Rx R, N, G)) rfl ?_
      refine XP_iald hI.1 rfl rfl (show svn < 4 by omega) rfl (by omega) rfl ?_
      rw [(hW.sz1 (show svn < 4 by omega)).1]
      refine XP_n 1 (pc' := 25) (ls' := [.ref (99), .int (nI (svn)), .int (nI (mn)), xj, xj, xj, xj]) (st' := [.ref (99), .int (nI (sz s svn))]) (M' := (I, J, Rx R, N, G)) rfl ?_
      refine XP_geti hI.1 rfl rfl rfl ?_
      rw [hW.y.1]
      refine XP_icN (x := sz s svn) (y := cY s) rfl (by omega) (by omega) (fun (b26 : ¬ sz s svn = cY s) => ?_) (fun (b26 : sz s svn = cY s) => ?_)
      · refine XP_n 4 (pc' := 33) (ls' := [.ref (99), .int (nI (svn)), .int (nI (mn)), .int (nI (0)), .int (nI (0)), xj, xj]) (st' := []) (M' := (I, J, Rx R, N, G)) rfl ?_
        refine XP_n 2 (pc' := 35) (ls' := [.ref (99), .int (nI (svn)), .int (nI (mn)), .int (nI (0)), .int (nI (0)), xj, xj]) (st' := [.ref (99), .int (nI (0))]) (M' := (I, J, Rx R, N, G)) rfl ?_
        refine XP_geti hI.1 rfl rfl rfl ?_
        rw [hW.y.1]
        refine XP_icN (x := 0) (y := cY s) rfl (by omega) (by omega) (fun (b36 : cY s ≤ 0) => ?_) (fun (b36 : 0 < cY s) => ?_)
        · refine XP_n 1 (pc' := 54) (ls' := [.ref (99), .int (nI (svn)), .int (nI (mn)), .int (nI (0)), .int (nI (0)), xj, xj]) (st' := [.int (nI (0))]) (M' := (I, J, Rx R, N, G)) rfl ?_
          refine XP_ifN (x := 0)  rfl (by omega) (fun (b54 : ¬ 0 = 0) => absurd b54 (by omega)) (fun (b54 : 0 = 0) => ?_)
          refine XP_n 1 (pc' := 56) (ls' := [.ref (99), .int (nI (svn)), .int (nI (mn)), .int (nI (0)), .int (nI (0)), xj, xj]) (st' := [.int (cI (-2))]) (M' := (I, J, Rx R, N, G)) rfl ?_
          exact XP_ret rfl ⟨rfl, _, _, rfl, hI⟩
        · refine XP_n 1 (pc' := 38) (ls' := [.ref (99), .int (nI (svn)), .int (nI (mn)), .int (nI (0)), .int (nI (0)), xj, xj]) (st' := [.int (nI (0))]) (M' := (I, J, Rx R, N, G)) rfl ?_
          refine XP_ifN (x := 0)  rfl (by omega) (fun (b38 : 0 = 0) => ?_) (fun (b38 : ¬ 0 = 0) => absurd b38 (by omega))
          refine XP_n 1 (pc' := 54) (ls' := [.ref (99), .int (nI (svn)), .int (nI (mn)), .int (nI (0)), .int (nI (0)), xj, xj]) (st' := [.int (nI (0))]) (M' := (I, J, Rx R, N, G)) rfl ?_
          refine XP_ifN (x := 0)  rfl (by omega) (fun (b54 : ¬ 0 = 0) => absurd b54 (by omega)) (fun (b54 : 0 = 0) => ?_)
          refine XP_n 1 (pc' := 56) (ls' := [.ref (99), .int (nI (svn)), .int (nI (mn)), .int (nI (0)), .int (nI (0)), xj, xj]) (st' := [.int (cI (-2))]) (M' := (I, J, Rx R, N, G)) rfl ?_
          exact XP_ret rfl ⟨rfl, _, _, rfl, hI⟩
      · refine XP_n 5 (pc' := 33) (ls' := [.ref (99), .int (nI (svn)), .int (nI (mn)), .int (nI (1)), .int (nI (0)), xj, xj]) (st' := []) (M' := (I, J, Rx R, N, G)) rfl ?_
        refine l_M_jgF hI hW hmn (by omega) ?_ (cY s) 0 (by omega) ?_
        rotate_left
        · have hh := fun z => g3 ⟨b26, z⟩
          obtain ⟨j, hj⟩ := Classical.not_forall.mp hh
          exact ⟨j, Nat.zero_le _, Classical.byContradiction (fun z => hj (fun y => absurd y z)), fun z => hj (fun _ => z)⟩
        intro e he
        refine XP_n 1 (pc' := 54) (ls' := [.ref (99), .int (nI (svn)), .int (nI (mn)), .int (nI (0)), .int (nI (e)), xj, xj]) (st' := [.int (nI (0))]) (M' := (I, J, Rx R, N, G)) rfl ?_
        refine XP_ifN (x := 0)  rfl (by omega) (fun (b54 : ¬ 0 = 0) => absurd b54 (by omega)) (fun (b54 : 0 = 0) => ?_)
        refine XP_n 1 (pc' := 56) (ls' := [.ref (99), .int (nI (svn)), .int (nI (mn)), .int (nI (0)), .int (nI (e)), xj, xj]) (st' := [.int (cI (-2))]) (M' := (I, J, Rx R, N, G)) rfl ?_
        exact XP_ret rfl ⟨rfl, _, _, rfl, hI⟩
  have hok1 := g3.1
  have hsz0 := (hW.sz1 (show svn < 4 by omega)).2
  refine ⟨sJu s svn mn (cY s) 0 (cW s), ?_, fun I J hI => ?_⟩
  · unfold TP
    show XP X _ k_H_judge 0 [.ref (0), .int (nI (svn)), .int (nI (mn)), xj, xj, xj, xj, xj] [] _ _
    refine XP_n 2 (pc' := 2) (ls' := [.ref (0), .int (nI (svn)), .int (nI (mn)), xj, xj, xj, xj, xj]) (st' := [.int (nI (svn)), .ref (0)]) (M' := (I, J, Rx R, N, G)) rfl ?_
    refine XP_pure rfl rfl (c_sheetAtT (show svn < 4 by omega)) ?_
    refine XP_n 4 (pc' := 7) (ls' := [.ref (0), .int (nI (svn)), .int (nI (mn)), .ref (87 + 2 * svn), xj, xj, xj, xj]) (st' := [.int (nI (mn))]) (M' := (I, J, Rx R, N, G)) rfl ?_
    refine XP_pure rfl rfl (t_H_isMany X _ _ _) ?_
    refine XP_s rfl ?_
    refine XP_bne (fun b8 => ?_) (fun b8 => absurd g1 b8)
    refine XP_n 3 (pc' := 14) (ls' := [.ref (0), .int (nI (svn)), .int (nI (mn)), .ref (87 + 2 * svn), xj, xj, xj, xj]) (st' := [.ref (1), .ref (87 + 2 * svn)]) (M' := (I, J, Rx R, N, G)) rfl ?_
    refine XP_geti hI.1 rfl rfl rfl ?_
    rw [hW.y.1]
    refine XP_n 1 (pc' := 16) (ls' := [.ref (0), .int (nI (svn)), .int (nI (mn)), .ref (87 + 2 * svn), xj, xj, xj, xj]) (st' := [.int (nI (20)), .int (nI (cY s)), .ref (87 + 2 * svn)]) (M' := (I, J, Rx R, N, G)) rfl ?_
    refine XP_pure rfl rfl (c_refT hI.1 hW (show svn < 4 by omega) g2 g3) ?_
    refine XP_n 2 (pc' := 19) (ls' := [.ref (0), .int (nI (svn)), .int (nI (mn)), .ref (87 + 2 * svn), .int (nI (0)), xj, xj, xj]) (st' := [.int (nI (0))]) (M' := (I, J, Rx R, N, G)) rfl ?_
    refine XP_ifN (x := 0)  rfl (by omega) (fun (b19 : 0 = 0) => ?_) (fun (b19 : ¬ 0 = 0) => absurd b19 (by omega))
    refine XP_n 2 (pc' := 24) (ls' := [.ref (0), .int (nI (svn)), .int (nI (mn)), .ref (87 + 2 * svn), .int (nI (0)), xj, xj, xj]) (st' := [.ref (1)]) (M' := (I, J, Rx R, N, G)) rfl ?_
    refine XP_geti hI.1 rfl rfl rfl ?_
    rw [hW.w.1]
    refine XP_n 3 (pc' := 28) (ls' := [.ref (0), .int (nI (svn)), .int (nI (mn)), .ref (87 + 2 * svn), .int (nI (0)), .int (nI (cW s)), .int (nI (0)), xj]) (st' := []) (M' := (I, J, Rx R, N, G)) rfl ?_
    exact l_H_ju (d := d + 6) hI hW (by omega) hmn g3 (cY s) 0 (cW s) _ (by omega) (by omega)
  · unfold TP
    show XP X _ k_M_judge 0 [.ref (99), .int (nI (svn)), .int (nI (mn)), xj, xj, xj, xj] [] _ _
    refine XP_n 3 (pc' := 3) (ls' := [.ref (99), .int (nI (svn)), .int (nI (mn)), xj, xj, xj, xj]) (st' := [.int (nI (3)), .int (nI (0)), .int (nI (svn))]) (M' := (I, J, Rx R, N, G)) rfl ?_
    refine XP_pure rfl rfl (w_M X _ _ 0 3 _) ?_
    refine XP_s rfl ?_
    refine XP_beq (fun b4 => absurd g0 b4) (fun b4 => ?_)
    refine XP_n 3 (pc' := 8) (ls' := [.ref (99), .int (nI (svn)), .int (nI (mn)), xj, xj, xj, xj]) (st' := [.int (nI (1000)), .int (nI (0)), .int (nI (mn))]) (M' := (I, J, Rx R, N, G)) rfl ?_
    refine XP_pure rfl rfl (w_M X _ _ 0 1000 _) ?_
    refine XP_s rfl ?_
    refine XP_bne (fun b9 => ?_) (fun b9 => absurd g1 b9)
    refine XP_n 3 (pc' := 15) (ls' := [.ref (99), .int (nI (svn)), .int (nI (mn)), xj, xj, xj, xj]) (st' := [.int (nI (svn)), .ref (120)]) (M' := (I, J, Rx R, N, G)) rfl ?_
    refine XP_iald hI.1 rfl rfl (show svn < 4 by omega) rfl (by omega) rfl ?_
    refine XP_n 1 (pc' := 17) (ls' := [.ref (99), .int (nI (svn)), .int (nI (mn)), xj, xj, xj, xj]) (st' := [.int (cI (-1)), .int (s 120 svn)]) (M' := (I, J, Rx R, N, G)) rfl ?_
    refine XP_icD rfl (fun (b17 : ¬ s 120 svn = cI (-1)) => ?_) (fun (b17 : s 120 svn = cI (-1)) => absurd b17 (by first | exact g2 | exact fun z => z g2 | omega))
    refine XP_n 3 (pc' := 23) (ls' := [.ref (99), .int (nI (svn)), .int (nI (mn)), xj, xj, xj, xj]) (st' := [.int (nI (svn)), .ref (121)]) (M' := (I, J, Rx R, N, G)) rfl ?_
    refine XP_iald hI.1 rfl rfl (show svn < 4 by omega) rfl (by omega) rfl ?_
    rw [(hW.sz1 (show svn < 4 by omega)).1]
    refine XP_n 1 (pc' := 25) (ls' := [.ref (99), .int (nI (svn)), .int (nI (mn)), xj, xj, xj, xj]) (st' := [.ref (99), .int (nI (sz s svn))]) (M' := (I, J, Rx R, N, G)) rfl ?_
    refine XP_geti hI.1 rfl rfl rfl ?_
    rw [hW.y.1]
    refine XP_icN (x := sz s svn) (y := cY s) rfl (by omega) (by omega) (fun (b26 : ¬ sz s svn = cY s) => absurd b26 (by omega)) (fun (b26 : sz s svn = cY s) => ?_)
    refine XP_n 5 (pc' := 33) (ls' := [.ref (99), .int (nI (svn)), .int (nI (mn)), .int (nI (1)), .int (nI (0)), xj, xj]) (st' := []) (M' := (I, J, Rx R, N, G)) rfl ?_
    refine l_M_jgT hI hW hmn (by omega) g3.2 ?_ (cY s) 0 (by omega)
    intro e he
    refine XP_n 1 (pc' := 54) (ls' := [.ref (99), .int (nI (svn)), .int (nI (mn)), .int (nI (1)), .int (nI (e)), xj, xj]) (st' := [.int (nI (1))]) (M' := (I, J, Rx R, N, G)) rfl ?_
    refine XP_ifN (x := 1)  rfl (by omega) (fun (b54 : ¬ 1 = 0) => ?_) (fun (b54 : 1 = 0) => absurd b54 (by omega))
    refine XP_n 1 (pc' := 58) (ls' := [.ref (99), .int (nI (svn)), .int (nI (mn)), .int (nI (1)), .int (nI (e)), xj, xj]) (st' := [.ref (99)]) (M' := (I, J, Rx R, N, G)) rfl ?_
    refine XP_geti hI.1 rfl rfl rfl ?_
    rw [hW.w.1]
    refine XP_n 3 (pc' := 62) (ls' := [.ref (99), .int (nI (svn)), .int (nI (mn)), .int (nI (1)), .int (nI (cW s)), .int (nI (0)), xj]) (st' := []) (M' := (I, J, Rx R, N, G)) rfl ?_
    exact l_M_ju (d := d + 6) (sv := nI 0) (x4 := nI 0) hI hW (by omega) hmn g3 (cY s) 0 (cW s) _ (by omega) (by omega)
end
